/-! the hours of all ways, and the first roads, out of the roads that count -/
def Dw (F : Nat) (G : Rd) (nr : Nat) : Mx := cl (rdD G (iD F) nr) 10 10
theorem iD_diag (F a : Nat) : iD F a a = 0 := if_pos rfl
theorem iD_le (F a b : Nat) : iD F a b ≤ F := by
  show (if a = b then 0 else F) ≤ F
  split <;> omega
theorem iD_ne {F a b : Nat} (h : a ≠ b) : iD F a b = F := if_neg h
theorem rdD_far {G : Rd} {F nr n : Nat} (h : okG1 G nr n) {a b : Nat} (hab : a ≠ b) (hn : n ≤ a ∨ n ≤ b) : rdD G (iD F) nr a b = F := by
  rcases rdD_src (G := G) (D := iD F) nr a b with e | ⟨j, hj, hc, e⟩
  · rw [e, iD_ne hab]
  · obtain ⟨h1, h2, -⟩ := h j hj hc
    rcases e with ⟨e1, e2, -⟩ | ⟨e1, e2, -⟩ <;> omega
theorem Dw_at {G : Rd} {F nr n : Nat} (h : okG1 G nr n) (hn : n ≤ 10) : cl (rdD G (iD F) nr) n n = Dw F G nr :=
  (cl_all hn (rdD_diag (iD_diag F) nr) (fun a b => Nat.le_trans (rdD_le nr a b) (iD_le F a b)) (fun a b hab h2 => rdD_far h hab h2)).symm
theorem Dw_diag (F : Nat) (G : Rd) (nr a : Nat) : Dw F G nr a a = 0 := cl_diag (rdD_diag (iD_diag F) nr) 10 a
theorem Dw_le (F : Nat) (G : Rd) (nr a b : Nat) : Dw F G nr a b ≤ F := Nat.le_trans (cl_le 10 a b) (Nat.le_trans (rdD_le nr a b) (iD_le F a b))
theorem Dw_tri {F : Nat} {G : Rd} {nr a b c : Nat} (ha : a < 10) (hb : b < 10) (hc : c < 10) : Dw F G nr a b ≤ Dw F G nr a c + Dw F G nr c b := cl_tri (rdD_diag (iD_diag F) nr) 10 (Nat.le_refl _) a b c ha hb hc
/-- more roads than before -/
def moreG (G H : Rd) (nr mr : Nat) : Prop := nr ≤ mr ∧ ∀ j, j < nr → G.1 j = true → H.1 j = true ∧ H.2.1 j = G.2.1 j ∧ H.2.2.1 j = G.2.2.1 j ∧ H.2.2.2.1 j = G.2.2.2.1 j ∧ H.2.2.2.2 j = G.2.2.2.2 j
theorem rdD_more {G H : Rd} {nr mr F : Nat} (h : moreG G H nr mr) (a b : Nat) : rdD H (iD F) mr a b ≤ rdD G (iD F) nr a b := by
  refine rdD_ge (fun a b => rdD_le mr a b) nr (fun j hj hc => ?_) a b
  obtain ⟨h1, h2, h3, h4, h5⟩ := h.2 j hj hc
  have := rdD_road (G := H) (D := iD F) mr j (by have := h.1; omega) h1
  rw [h2, h3, h4, h5] at this
  exact this
theorem Dw_more {G H : Rd} {nr mr F : Nat} (h : moreG G H nr mr) (a b : Nat) : Dw F H mr a b ≤ Dw F G nr a b := cl_mono (rdD_more h) 10 a b
/-- what was found before, made shorter by the roads and closed again: all is as found anew -/
theorem Dw_step {G H : Rd} {nr mr n F : Nat} (h : moreG G H nr mr) (hH : okG1 H mr n) (hn : n ≤ 10) : cl (rdD H (Dw F G nr) mr) n n = Dw F H mr := by
  have hC : ∀ a b, Dw F H mr a b ≤ rdD H (Dw F G nr) mr a b := rdD_ge (Dw_more h) mr (fun j hj hc => by
    have h1 := rdD_road (G := H) (D := iD F) mr j hj hc
    have h2 := cl_le (D := rdD H (iD F) mr) (n := 10) 10 (H.2.1 j) (H.2.2.1 j)
    have h3 := cl_le (D := rdD H (iD F) mr) (n := 10) 10 (H.2.2.1 j) (H.2.1 j)
    exact ⟨Nat.le_trans h2 h1.1, Nat.le_trans h3 h1.2⟩)
  have hfix : cl (Dw F H mr) n n = Dw F H mr := cl_fix (fun a b c ha hb hc => Dw_tri (a := a) (b := b) (c := c) (by omega) (by omega) (by omega)) n (Nat.le_refl _)
  have hup : ∀ a b, rdD H (Dw F G nr) mr a b ≤ rdD H (iD F) mr a b := rdD_mono (fun a b => Nat.le_trans (cl_le 10 a b) (rdD_le nr a b)) mr
  funext a b
  have h1 := cl_mono (n := n) hup n a b
  rw [Dw_at hH hn] at h1
  have h2 := cl_mono (n := n) hC n a b
  rw [hfix] at h2
  omega
/-! two bounds of what is far -/
def Rb (B x y : Nat) : Prop := (x = y ∧ x ≤ B) ∨ (x = 1000000 ∧ y = 99999)
theorem Rb_min {B x y s : Nat} (h : Rb B x y) (hs : s ≤ B) (hB : B < 99999) : Rb B (min x s) (min y s) := by
  unfold Rb at *
  omega
theorem Rb_eD {G : Rd} {nr n : Nat} (hG : okG1 G nr n) : ∀ k, k ≤ nr → ∀ a b, Rb 40 (rdD G (iD 1000000) k a b) (rdD G (iD 99999) k a b)
  | 0, _, a, b => by
    show Rb 40 (if a = b then 0 else 1000000) (if a = b then 0 else 99999)
    unfold Rb
    split <;> omega
  | k + 1, hk, a, b => by
    have ih := Rb_eD hG k (by omega)
    have e : ∀ F, rdD G (iD F) (k + 1) = (if G.1 k = true then upm (upm (rdD G (iD F) k) (G.2.1 k) (G.2.2.1 k) (G.2.2.2.1 k)) (G.2.2.1 k) (G.2.1 k) (G.2.2.2.2 k) else rdD G (iD F) k) := fun _ => rfl
    rw [e, e]
    by_cases hc : G.1 k = true
    · rw [if_pos hc, if_pos hc]
      obtain ⟨-, -, -, h1, h2⟩ := hG k (by omega) hc
      have u : ∀ {D E : Mx} {f t s : Nat}, (∀ a b, Rb 40 (D a b) (E a b)) → s ≤ 40 → ∀ a b, Rb 40 (upm D f t s a b) (upm E f t s a b) := by
        intro D E f t s h hs a b
        show Rb 40 (if a = f ∧ b = t then min (D a b) s else D a b) (if a = f ∧ b = t then min (E a b) s else E a b)
        split
        · exact Rb_min (h a b) hs (by omega)
        · exact h a b
      exact u (u ih (by omega)) (by omega) a b
    · rw [if_neg hc, if_neg hc]
      exact ih a b
theorem Rb_phs {D E : Mx} {B n v : Nat} (hB : 2 * B < 99999) (h : ∀ a b, Rb B (D a b) (E a b)) (a b : Nat) : Rb (2 * B) (phs D n v a b) (phs E n v a b) := by
  have h1 := h a b
  have h2 := h a v
  have h3 := h v b
  show Rb (2 * B) (if a < n ∧ b < n then min (D a b) (D a v + D v b) else D a b) (if a < n ∧ b < n then min (E a b) (E a v + E v b) else E a b)
  unfold Rb at *
  split <;> omega
theorem Rb_cl {D E : Mx} {n : Nat} (h : ∀ a b, Rb 40 (D a b) (E a b)) : ∀ k, k ≤ 10 → ∀ a b, Rb (40 * 2 ^ k) (cl D n k a b) (cl E n k a b)
  | 0, _, a, b => h a b
  | k + 1, hk, a, b => by
    have ih := Rb_cl (n := n) h k (by omega)
    have hp : 2 ^ k ≤ 2 ^ 9 := Nat.pow_le_pow_right (by omega) (by omega)
    rw [show 40 * 2 ^ (k + 1) = 2 * (40 * 2 ^ k) by rw [Nat.pow_succ]; omega]
    exact Rb_phs (by omega) ih a b
theorem Rb_Dw {G : Rd} {nr n : Nat} (hG : okG1 G nr n) (a b : Nat) : Rb 40960 (Dw 1000000 G nr a b) (Dw 99999 G nr a b) := Rb_cl (fun a b => Rb_eD hG nr (Nat.le_refl _) a b) 10 (Nat.le_refl _) a b
/-! first roads -/
def isF (G : Rd) (D : Mx) (a b : Nat) : Nat → Bool := fun r => G.1 r && ((decide (a = G.2.1 r) && decide (G.2.2.2.1 r + D (G.2.2.1 r) b = D a b)) || (decide (a = G.2.2.1 r) && decide (G.2.2.2.2 r + D (G.2.1 r) b = D a b)))
theorem isF_iff {G : Rd} {D : Mx} {a b r : Nat} : isF G D a b r = true ↔ G.1 r = true ∧ ((a = G.2.1 r ∧ G.2.2.2.1 r + D (G.2.2.1 r) b = D a b) ∨ (a = G.2.2.1 r ∧ G.2.2.2.2 r + D (G.2.1 r) b = D a b)) := by
  simp [isF]
def lw (P : Nat → Bool) : Nat → Int32 → Int32
  | 0, x => x
  | j + 1, x => lw P j (if P j = true then nI j else x)
theorem lw_or (P : Nat → Bool) : ∀ n, (∃ r, r < n ∧ P r = true ∧ (∀ q, q < r → P q = false) ∧ ∀ x, lw P n x = nI r) ∨ ((∀ r, r < n → P r = false) ∧ ∀ x, lw P n x = x)
  | 0 => Or.inr ⟨fun r h => absurd h (by omega), fun _ => rfl⟩
  | n + 1 => by
    rcases lw_or P n with ⟨r, h1, h2, h3, h4⟩ | ⟨h1, h2⟩
    · exact Or.inl ⟨r, by omega, h2, h3, fun x => h4 _⟩
    · cases hp : P n with
      | true => exact Or.inl ⟨n, by omega, hp, h1, fun x => by rw [lw, h2, if_pos hp]⟩
      | false =>
        refine Or.inr ⟨fun r hr => ?_, fun x => ?_⟩
        · rcases Nat.lt_or_ge r n with h | h
          · exact h1 r h
          · rw [show r = n by omega]; exact hp
        · rw [lw, h2, if_neg (by rw [hp]; exact Bool.false_ne_true)]
theorem lw_congr {P Q : Nat → Bool} : ∀ n, (∀ r, r < n → P r = Q r) → ∀ x, lw P n x = lw Q n x
  | 0, _, _ => rfl
  | n + 1, h, x => by rw [lw, lw, h n (by omega), lw_congr n (fun r hr => h r (by omega))]
def Fst (G : Rd) (nr a b : Nat) : Int32 := lw (isF G (Dw 1000000 G nr) a b) nr (-1)
/-- each way that is there begins with a road -/
theorem first_ex {G : Rd} {nr n F : Nat} (hG : okG1 G nr n) (hn : n ≤ 10) : ∀ k, k ≤ 10 → ∀ a b, a < 10 → b < 10 → a ≠ b → cl (rdD G (iD F) nr) 10 k a b < F →
    ∃ j, j < nr ∧ G.1 j = true ∧ ((a = G.2.1 j ∧ G.2.2.2.1 j + Dw F G nr (G.2.2.1 j) b ≤ cl (rdD G (iD F) nr) 10 k a b) ∨ (a = G.2.2.1 j ∧ G.2.2.2.2 j + Dw F G nr (G.2.1 j) b ≤ cl (rdD G (iD F) nr) 10 k a b))
  | 0, _, a, b, _, _, hab, h => by
    rcases rdD_src (G := G) (D := iD F) nr a b with e | ⟨j, hj, hc, e⟩
    · rw [iD_ne hab] at e
      exact absurd h (by show ¬ rdD G (iD F) nr a b < F; omega)
    · refine ⟨j, hj, hc, ?_⟩
      rcases e with ⟨e1, e2, e3⟩ | ⟨e1, e2, e3⟩
      · refine Or.inl ⟨e1, ?_⟩
        rw [← e2, Dw_diag]
        show _ ≤ rdD G (iD F) nr a b
        omega
      · refine Or.inr ⟨e1, ?_⟩
        rw [← e2, Dw_diag]
        show _ ≤ rdD G (iD F) nr a b
        omega
  | k + 1, hk, a, b, ha, hb, hab, h => by
    have ih := first_ex (F := F) hG hn k (by omega)
    have ev : cl (rdD G (iD F) nr) 10 (k + 1) a b = min (cl (rdD G (iD F) nr) 10 k a b) (cl (rdD G (iD F) nr) 10 k a k + cl (rdD G (iD F) nr) 10 k k b) := if_pos ⟨ha, hb⟩
    rw [ev] at h ⊢
    have anti : ∀ x y, Dw F G nr x y ≤ cl (rdD G (iD F) nr) 10 k x y := by
      intro x y
      have : ∀ j, cl (rdD G (iD F) nr) 10 (k + j) x y ≤ cl (rdD G (iD F) nr) 10 k x y := by
        intro j
        induction j with
        | zero => exact Nat.le_refl _
        | succ j ihj =>
          refine Nat.le_trans ?_ ihj
          show (if x < 10 ∧ y < 10 then min (cl (rdD G (iD F) nr) 10 (k + j) x y) _ else cl (rdD G (iD F) nr) 10 (k + j) x y) ≤ _
          split <;> omega
      have := this (10 - k)
      rw [show k + (10 - k) = 10 by omega] at this
      exact this
    by_cases h1 : cl (rdD G (iD F) nr) 10 k a b ≤ cl (rdD G (iD F) nr) 10 k a k + cl (rdD G (iD F) nr) 10 k k b
    · rw [Nat.min_eq_left h1] at h ⊢
      exact ih a b ha hb hab h
    · have h1 := Nat.le_of_lt (Nat.not_le.mp h1)
      rw [Nat.min_eq_right h1] at h ⊢
      by_cases hak : a = k
      · subst hak
        have d := cl_diag (n := 10) (rdD_diag (G := G) (iD_diag F) nr) a a
        rw [d, Nat.zero_add] at h ⊢
        exact ih a b ha hb hab h
      · obtain ⟨j, hj, hc, hd⟩ := ih a k ha (by omega) hak (by omega)
        obtain ⟨g1, g2, -⟩ := hG j hj hc
        have t3 := anti k b
        refine ⟨j, hj, hc, hd.imp (fun ⟨e1, e2⟩ => ⟨e1, ?_⟩) (fun ⟨e1, e2⟩ => ⟨e1, ?_⟩)⟩
        · have t := Dw_tri (F := F) (G := G) (nr := nr) (a := G.2.2.1 j) (b := b) (c := k) (by omega) hb (by omega)
          omega
        · have t := Dw_tri (F := F) (G := G) (nr := nr) (a := G.2.1 j) (b := b) (c := k) (by omega) hb (by omega)
          omega
theorem Dw_road {G : Rd} {nr n F j : Nat} (_ : okG1 G nr n) (hj : j < nr) (hc : G.1 j = true) : Dw F G nr (G.2.1 j) (G.2.2.1 j) ≤ G.2.2.2.1 j ∧ Dw F G nr (G.2.2.1 j) (G.2.1 j) ≤ G.2.2.2.2 j := by
  have h1 := rdD_road (G := G) (D := iD F) nr j hj hc
  exact ⟨Nat.le_trans (cl_le 10 _ _) h1.1, Nat.le_trans (cl_le 10 _ _) h1.2⟩
theorem isF_ex {G : Rd} {nr n F a b : Nat} (hG : okG1 G nr n) (hn : n ≤ 10) (ha : a < 10) (hb : b < 10) (hab : a ≠ b) (h : Dw F G nr a b < F) : ∃ r, r < nr ∧ isF G (Dw F G nr) a b r = true := by
  obtain ⟨j, hj, hc, hd⟩ := first_ex hG hn 10 (Nat.le_refl _) a b ha hb hab h
  obtain ⟨g1, g2, -⟩ := hG j hj hc
  have hr := Dw_road (F := F) hG hj hc
  refine ⟨j, hj, isF_iff.mpr ⟨hc, hd.imp (fun ⟨e1, e2⟩ => ⟨e1, ?_⟩) (fun ⟨e1, e2⟩ => ⟨e1, ?_⟩)⟩⟩
  · have t := Dw_tri (F := F) (G := G) (nr := nr) (a := a) (b := b) (c := G.2.2.1 j) ha hb (by omega)
    have e2 : G.2.2.2.1 j + Dw F G nr (G.2.2.1 j) b ≤ Dw F G nr a b := e2
    have h3 := hr.1
    rw [← e1] at h3
    omega
  · have t := Dw_tri (F := F) (G := G) (nr := nr) (a := a) (b := b) (c := G.2.1 j) ha hb (by omega)
    have e2 : G.2.2.2.2 j + Dw F G nr (G.2.1 j) b ≤ Dw F G nr a b := e2
    have h3 := hr.2
    rw [← e1] at h3
    omega
/-- none begins a way that isn't there, or one to the place itself -/
theorem isF_no {G : Rd} {nr n a b r : Nat} (hG : okG1 G nr n) (hr : r < nr) (h : a = b ∨ Dw 1000000 G nr a b = 1000000) : isF G (Dw 1000000 G nr) a b r = false := by
  cases hp : isF G (Dw 1000000 G nr) a b r with
  | false => rfl
  | true =>
    obtain ⟨hc, hd⟩ := isF_iff.mp hp
    obtain ⟨-, -, -, ⟨w1, w2⟩, w3, w4⟩ := hG r hr hc
    have fin : ∀ x y, Dw 1000000 G nr x y ≤ 40960 ∨ Dw 1000000 G nr x y = 1000000 := fun x y => by
      have := Rb_Dw hG x y
      unfold Rb at this
      omega
    have z : a = b → Dw 1000000 G nr a b = 0 := fun e => by rw [e]; exact Dw_diag _ _ _ _
    rcases hd with ⟨-, e⟩ | ⟨-, e⟩
    · have := fin (G.2.2.1 r) b
      rcases h with h | h
      · have := z h; omega
      · omega
    · have := fin (G.2.1 r) b
      rcases h with h | h
      · have := z h; omega
      · omega
theorem Fst_step {G H : Rd} {nr mr m n a b : Nat} (h : moreG G H nr mr) (hG : okG1 G nr m) (hH : okG1 H mr n) (hn : n ≤ 10) (ha : a < 10) (hb : b < 10) : lw (isF H (Dw 1000000 H mr) a b) mr (Fst G nr a b) = Fst H mr a b := by
  unfold Fst
  rcases lw_or (isF H (Dw 1000000 H mr) a b) mr with ⟨r, -, -, -, h4⟩ | ⟨h1, h2⟩
  · rw [h4, h4]
  · rw [h2, h2]
    have hno : a = b ∨ Dw 1000000 H mr a b = 1000000 := by
      by_cases hab : a = b
      · exact Or.inl hab
      · right
        have hle := Dw_le 1000000 H mr a b
        rcases Nat.lt_or_ge (Dw 1000000 H mr a b) 1000000 with hl | hl
        · obtain ⟨r, hr, hp⟩ := isF_ex hH hn ha hb hab hl
          rw [h1 r hr] at hp
          exact Bool.noConfusion hp
        · omega
    have hold : a = b ∨ Dw 1000000 G nr a b = 1000000 := hno.imp id (fun e => by
      have h3 := Dw_more (F := 1000000) h a b
      have h4 := Dw_le 1000000 G nr a b
      omega)
    rcases lw_or (isF G (Dw 1000000 G nr) a b) nr with ⟨r, hr, hp, -, -⟩ | ⟨-, h3⟩
    · rw [isF_no hG hr hold] at hp
      exact Bool.noConfusion hp
    · exact h3 _
/-- the reference's own test of a first road -/
def isR (G : Rd) (D : Mx) (a b : Nat) : Nat → Bool := fun r => G.1 r && ((decide (a = G.2.1 r) && (decide (a ≠ b) && (decide (G.2.2.2.1 r + D (G.2.2.1 r) b < 99999) && decide (G.2.2.2.1 r + D (G.2.2.1 r) b = D a b)))) || (decide (a = G.2.2.1 r) && (decide (a ≠ b) && (decide (G.2.2.2.2 r + D (G.2.1 r) b < 99999) && decide (G.2.2.2.2 r + D (G.2.1 r) b = D a b)))))
theorem isR_iff {G : Rd} {D : Mx} {a b r : Nat} : isR G D a b r = true ↔ G.1 r = true ∧ ((a = G.2.1 r ∧ a ≠ b ∧ G.2.2.2.1 r + D (G.2.2.1 r) b < 99999 ∧ G.2.2.2.1 r + D (G.2.2.1 r) b = D a b) ∨ (a = G.2.2.1 r ∧ a ≠ b ∧ G.2.2.2.2 r + D (G.2.1 r) b < 99999 ∧ G.2.2.2.2 r + D (G.2.1 r) b = D a b)) := by
  simp [isR]
theorem isR_isF {G : Rd} {nr n a b r : Nat} (hG : okG1 G nr n) (hr : r < nr) : isR G (Dw 99999 G nr) a b r = isF G (Dw 1000000 G nr) a b r := by
  rw [Bool.eq_iff_iff, isR_iff, isF_iff]
  have rb : ∀ x y, Rb 40960 (Dw 1000000 G nr x y) (Dw 99999 G nr x y) := Rb_Dw hG
  have z1 : a = b → Dw 1000000 G nr a b = 0 := fun e => by rw [e]; exact Dw_diag _ _ _ _
  constructor
  · rintro ⟨hc, hd⟩
    obtain ⟨-, -, -, ⟨w1, w2⟩, w3, w4⟩ := hG r hr hc
    refine ⟨hc, hd.imp (fun ⟨e1, e2, e3, e4⟩ => ⟨e1, ?_⟩) (fun ⟨e1, e2, e3, e4⟩ => ⟨e1, ?_⟩)⟩
    · have r1 := rb (G.2.2.1 r) b
      have r2 := rb a b
      unfold Rb at r1 r2
      omega
    · have r1 := rb (G.2.1 r) b
      have r2 := rb a b
      unfold Rb at r1 r2
      omega
  · rintro ⟨hc, hd⟩
    obtain ⟨-, -, -, ⟨w1, w2⟩, w3, w4⟩ := hG r hr hc
    refine ⟨hc, hd.imp (fun ⟨e1, e2⟩ => ⟨e1, fun e => ?_, ?_⟩) (fun ⟨e1, e2⟩ => ⟨e1, fun e => ?_, ?_⟩)⟩
    · have := z1 e; omega
    · have r1 := rb (G.2.2.1 r) b
      have r2 := rb a b
      unfold Rb at r1 r2
      omega
    · have := z1 e; omega
    · have r1 := rb (G.2.1 r) b
      have r2 := rb a b
      unfold Rb at r1 r2
      omega
/-- a first road counts, and begins at its own place -/
theorem Fst_end {G : Rd} {nr a b r : Nat} (hr : r < 2 ^ 31) (h : Fst G nr a b = nI r) (hnr : nr < 2 ^ 31) : r < nr ∧ G.1 r = true ∧ (a = G.2.1 r ∨ a = G.2.2.1 r) := by
  unfold Fst at h
  rcases lw_or (isF G (Dw 1000000 G nr) a b) nr with ⟨q, h1, h2, -, h4⟩ | ⟨-, h2⟩
  · rw [h4, nI_eq (by omega) hr] at h
    subst h
    obtain ⟨hc, hd⟩ := isF_iff.mp h2
    exact ⟨h1, hc, hd.imp (fun e => e.1) (fun e => e.1)⟩
  · rw [h2] at h
    exact absurd (h ▸ nI_pos hr) (by decide)
