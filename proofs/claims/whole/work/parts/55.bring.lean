/-! an hour's first step: mules on their way -/
def okE1 (f : Nat → Int32) (ns nm : Nat) : Prop := (∃ a, a < ns ∧ f 0 = nI a) ∧ (∃ b, b < ns ∧ f 1 = nI b) ∧ (f 7 = 0 ∨ f 7 = 1) ∧ ((f 3 = 1 ∧ (∃ m, m < nm ∧ f 5 = nI m) ∧ f 9 = -1) ∨ (((f 3 = 0 ∧ f 9 = -1) ∨ ((f 3 = 2 ∨ f 3 = 3) ∧ ∃ h, h < 2 ^ 30 ∧ f 9 = nI h)) ∧ f 5 = -1 ∧ ∃ p, p < ns ∧ f 4 = nI p))
def okE (Le : Fm) (ns nm ne : Nat) : Prop := ∀ k, k < ne → okE1 (fun c => Le c k) ns nm
theorem okE1_cg {f g : Nat → Int32} {ns nm : Nat} (h : ∀ c, c < 10 → c ≠ 6 → g c = f c) (hf : okE1 f ns nm) : okE1 g ns nm := by
  unfold okE1
  rw [h 0 (by decide) (by decide), h 1 (by decide) (by decide), h 3 (by decide) (by decide), h 4 (by decide) (by decide), h 5 (by decide) (by decide), h 7 (by decide) (by decide), h 9 (by decide) (by decide)]
  exact hf
theorem row_pcf {L : Fm} {c j : Nat} (h6 : c ≠ 6) (h10 : c ≠ 10) : L c j = pcf L j c := by
  unfold pcf
  rw [if_neg h6, if_neg h10]
theorem n_m1 {n : Nat} (h : n < 2 ^ 31) : ¬ nI n = -1 := fun q => absurd (q ▸ nI_pos h) (by decide)
theorem lay_r {L : Fm} {l s h : Int32} {i : Nat} (h3 : i ≠ 3) (h4 : i ≠ 4) (h5 : i ≠ 5) (h9 : i ≠ 9) : layC L l s h i = L i := by
  unfold layC
  split
  · rw [sr_n h9, sr_n h3, sr_n h5, sr_n h4]
  · rw [sr_n h3, sr_n h5, sr_n h4]
/-- the rows of a letter that is laid down -/
theorem lay_at {L : Fm} {k j c : Nat} {s h : Int32} (hk : k < 60) (hj : j ≠ k) (h6 : c ≠ 6) (h10 : c ≠ 10) : layC L (nI k) s h c j = L c j := by
  rw [row_pcf (L := layC L (nI k) s h) (c := c) (j := j) h6 h10, lay_pcf hk, row_pcf (L := L) h6 h10]
  split
  · rw [put_j hj, put_j hj, put_j hj, put_j hj]
  · rw [put_j hj, put_j hj, put_j hj]
theorem lay_5 {L : Fm} {k : Nat} {s h : Int32} (hk : k < 60) : layC L (nI k) s h 5 k = -1 := by
  rw [row_pcf (L := layC L (nI k) s h) (c := 5) (j := k) (by decide) (by decide), lay_pcf hk]
  split
  · rw [put_c (by decide), put_c (by decide), put_s]
  · rw [put_c (by decide), put_s]
theorem lay_4 {L : Fm} {k : Nat} {s h : Int32} (hk : k < 60) : layC L (nI k) s h 4 k = s := by
  rw [row_pcf (L := layC L (nI k) s h) (c := 4) (j := k) (by decide) (by decide), lay_pcf hk]
  split
  · rw [put_c (by decide), put_c (by decide), put_c (by decide), put_s]
  · rw [put_c (by decide), put_c (by decide), put_s]
theorem lay_39 {L : Fm} {k : Nat} {s h : Int32} (hk : k < 60) : (layC L (nI k) s h 3 k = 0 ∧ layC L (nI k) s h 9 k = L 9 k) ∨ ((layC L (nI k) s h 3 k = 2 ∨ layC L (nI k) s h 3 k = 3) ∧ layC L (nI k) s h 9 k = h) := by
  rw [row_pcf (L := layC L (nI k) s h) (c := 3) (by decide) (by decide), row_pcf (L := layC L (nI k) s h) (c := 9) (by decide) (by decide), lay_pcf hk]
  split
  · right
    rw [put_c (by decide), put_s, put_s]
    refine ⟨?_, rfl⟩
    split
    · exact Or.inr rfl
    · exact Or.inl rfl
  · left
    rw [put_s, put_c (by decide), put_c (by decide), put_c (by decide)]
    exact ⟨rfl, rfl⟩
theorem okE_lay {L : Fm} {ns nm ne k p h : Nat} (hO : okE L ns nm ne) (hn : ne ≤ 60) (hk : k < ne) (h9 : L 9 k = -1) (hp : p < ns) (hh : h < 2 ^ 30) : okE (layC L (nI k) (nI p) (nI h)) ns nm ne := by
  have hk60 : k < 60 := by omega
  intro j hj
  by_cases e : j = k
  · subst e
    obtain ⟨o0, o1, o7, -⟩ := hO j hj
    refine ⟨?_, ?_, ?_, Or.inr ⟨?_, lay_5 hk60, p, hp, lay_4 hk60⟩⟩
    · show ∃ a, a < ns ∧ layC L (nI j) (nI p) (nI h) 0 j = nI a
      rw [lay_r (by decide) (by decide) (by decide) (by decide)]; exact o0
    · show ∃ a, a < ns ∧ layC L (nI j) (nI p) (nI h) 1 j = nI a
      rw [lay_r (by decide) (by decide) (by decide) (by decide)]; exact o1
    · show layC L (nI j) (nI p) (nI h) 7 j = 0 ∨ layC L (nI j) (nI p) (nI h) 7 j = 1
      rw [lay_r (by decide) (by decide) (by decide) (by decide)]; exact o7
    · rcases lay_39 (L := L) (s := nI p) (h := nI h) hk60 with ⟨q1, q2⟩ | ⟨q1, q2⟩
      · exact Or.inl ⟨q1, q2.trans h9⟩
      · exact Or.inr ⟨q1, h, hh, q2⟩
  · exact okE1_cg (fun c hc h6 => lay_at hk60 e h6 (by omega)) (hO j hj)
theorem with_iff {Le L : Fm} {ns nm ne k m : Nat} (hE : rE Le L ne) (hO : okE Le ns nm ne) (hn : ne ≤ 60) (hk : k < ne) (hm : m < 2 ^ 31) : withC Le (nI k) (nI m) = true ↔ leM L (nI k) 5 = nI m := by
  have e5 : leM L (nI k) 5 = Le 5 k := rE_le (c := 5) hE hn hk (by decide)
  unfold withC
  rw [e5, rg_k (by omega) (by decide), rg_k (by omega) (by decide)]
  obtain ⟨-, -, -, o⟩ := hO k hk
  have o : (Le 3 k = 1 ∧ (∃ m, m < nm ∧ Le 5 k = nI m) ∧ Le 9 k = -1) ∨ (((Le 3 k = 0 ∧ Le 9 k = -1) ∨ ((Le 3 k = 2 ∨ Le 3 k = 3) ∧ ∃ h, h < 2 ^ 30 ∧ Le 9 k = nI h)) ∧ Le 5 k = -1 ∧ ∃ p, p < ns ∧ Le 4 k = nI p) := o
  rcases o with ⟨o3, -, -⟩ | ⟨-, o5, -⟩
  · rw [o3]
    simp
  · rw [o5]
    constructor
    · intro q
      have := (Bool.and_eq_true _ _ ▸ q : _ ∧ _).2
      exact absurd (eq_of_beq this).symm (n_m1 hm)
    · intro q
      exact absurd q.symm (n_m1 hm)
theorem withC_iff {Le : Fm} {k m : Nat} (hk : k < 60) : withC Le (nI k) (nI m) = true ↔ Le 3 k = 1 ∧ Le 5 k = nI m := by
  unfold withC
  rw [rg_k hk (by decide), rg_k hk (by decide)]
  simp
/-- how many have come -/
theorem inSt_lay {L : Fm} {ne k : Nat} {s h : Int32} (hn : ne ≤ 60) (hk : k < ne) (h2 : ¬ L 3 k = 2) : inStC (layC L (nI k) s h) ne 2 = inStC L ne 2 + (if layC L (nI k) s h 3 k = 2 then 1 else 0) := by
  have hk60 : k < 60 := by omega
  have r3 : ∀ X : Fm, ∀ j, j < ne → rg 60 (X 3) (nI j) = X 3 j := fun X j hj => rg_k (by omega) (by decide)
  unfold inStC
  rw [cI_up (P := fun j => rg 60 (L 3) (nI j) == 2) (Q := fun j => rg 60 (layC L (nI k) s h 3) (nI j) == 2) (j := k) ne hk (fun j hj hne => by
    show (rg 60 (L 3) (nI j) == 2) = (rg 60 (layC L (nI k) s h 3) (nI j) == 2)
    rw [r3 L j hj, r3 (layC L (nI k) s h) j hj, lay_at hk60 hne (by decide) (by decide)]) (by
    show (rg 60 (L 3) (nI k) == 2) = false
    rw [r3 L k hk]
    exact beq_eq_false_iff_ne.mpr h2)]
  congr 1
  show (if (rg 60 (layC L (nI k) s h 3) (nI k) == 2) = true then (1 : Int32) else 0) = _
  rw [r3 (layC L (nI k) s h) k hk]
  by_cases q : layC L (nI k) s h 3 k = 2
  · rw [if_pos q, if_pos (by rw [q]; rfl)]
  · rw [if_neg q, if_neg (fun z => q (eq_of_beq z))]
theorem i32_d {A S c T : Int32} (h : A + (S + 1) = c + 1 + T) : A + S = c + T := by
  have h3 : (A + S) + 1 = (c + T) + 1 := by rw [Int32.add_assoc, h, Int32.add_assoc, Int32.add_assoc, Int32.add_comm 1 T]
  exact (Int32.add_left_inj 1).mp h3
/-- all letters of a mule, laid down where it is -/
theorem ul_rel {Le M : Fm} {ns nm ne m p h : Nat} (hn : ne ≤ 60) (hm : m < 12) (hmn : m < nm) (hp : p < ns) (ep : rg 12 (M 2) (nI m) = nI p) (hh : h < 2 ^ 30) : ∀ (j k : Nat) (L : Fm) (c : Int32), k + j = ne → rE (unlF Le M (nI m) (nI h) k) L ne → okE (unlF Le M (nI m) (nI h) k) ns nm ne → muM L (nI m) 3 = 0 → muM L (nI m) 2 = nI p → rg 2 (L 5) 0 = nI h →
    rE (unlF Le M (nI m) (nI h) ne) (ulR (nI m) j k L c).1 ne ∧ okE (unlF Le M (nI m) (nI h) ne) ns nm ne ∧ (∀ i, i ≠ 4 → (ulR (nI m) j k L c).1 i = L i) ∧ (ulR (nI m) j k L c).2 + inStC (unlF Le M (nI m) (nI h) k) ne 2 = c + inStC (unlF Le M (nI m) (nI h) ne) ne 2
  | 0, k, L, c, hk, hE, hO, _, _, _ => by
    have e : k = ne := hk
    subst e
    exact ⟨hE, hO, fun _ _ => rfl, rfl⟩
  | j + 1, k, L, c, hk, hE, hO, h3, h2, hhr => by
    have hkn : k < ne := by omega
    have hk60 : k < 60 := by omega
    have hw := with_iff (m := m) hE hO hn hkn (by omega)
    rw [ulR, if_pos h3]
    by_cases w : leM L (nI k) 5 = nI m
    · have w2 := hw.mpr w
      have eX : unlF Le M (nI m) (nI h) (k + 1) = layC (unlF Le M (nI m) (nI h) k) (nI k) (nI p) (nI h) := by rw [unlF, if_pos w2, ep]
      obtain ⟨w3, w5⟩ := (withC_iff hk60).mp w2
      have o9 : unlF Le M (nI m) (nI h) k 9 k = -1 := by
        obtain ⟨-, -, -, o⟩ := hO k hkn
        rcases o with ⟨-, -, o⟩ | ⟨-, o, -⟩
        · exact o
        · have o : unlF Le M (nI m) (nI h) k 5 k = -1 := o
          rw [w5] at o
          exact absurd o (n_m1 (by omega))
      obtain ⟨u1, u2⟩ := un_rel (s := nI p) hE hn hkn hhr
      rw [← eX] at u1 u2
      have hO' : okE (unlF Le M (nI m) (nI h) (k + 1)) ns nm ne := by rw [eX]; exact okE_lay hO hn hkn o9 hp hh
      have hc : inStC (unlF Le M (nI m) (nI h) (k + 1)) ne 2 = inStC (unlF Le M (nI m) (nI h) k) ne 2 + (if unlF Le M (nI m) (nI h) (k + 1) 3 k = 2 then 1 else 0) := by
        rw [eX]
        exact inSt_lay hn hkn (by rw [w3]; decide)
      have f : ∀ i, i ≠ 4 → (unM L (nI k) (nI p)).1 i = L i := fun i hi => unM_r hi
      have g3 : muM (unM L (nI k) (nI p)).1 (nI m) 3 = 0 := by unfold muM at *; rw [f 3 (by decide)]; exact h3
      have g2 : muM (unM L (nI k) (nI p)).1 (nI m) 2 = nI p := by unfold muM at *; rw [f 3 (by decide)]; exact h2
      have g5 : rg 2 ((unM L (nI k) (nI p)).1 5) 0 = nI h := by rw [f 5 (by decide)]; exact hhr
      rw [if_pos w, h2]
      by_cases t : (unM L (nI k) (nI p)).2 = true
      · rw [if_pos t]
        obtain ⟨i1, i2, i3, i4⟩ := ul_rel hn hm hmn hp ep hh j (k + 1) _ (c + 1) (by omega) u1 hO' g3 g2 g5
        refine ⟨i1, i2, fun i hi => (i3 i hi).trans (f i hi), ?_⟩
        rw [hc, if_pos (u2.mp t)] at i4
        exact i32_d i4
      · rw [if_neg t]
        obtain ⟨i1, i2, i3, i4⟩ := ul_rel hn hm hmn hp ep hh j (k + 1) _ (c + 0) (by omega) u1 hO' g3 g2 g5
        refine ⟨i1, i2, fun i hi => (i3 i hi).trans (f i hi), ?_⟩
        rw [hc, if_neg (fun q => t (u2.mpr q))] at i4
        simp only [Int32.add_zero] at i4 ⊢
        exact i4
    · have eX : unlF Le M (nI m) (nI h) (k + 1) = unlF Le M (nI m) (nI h) k := by rw [unlF, if_neg (fun q => w (hw.mp q))]
      rw [if_neg w]
      obtain ⟨i1, i2, i3, i4⟩ := ul_rel hn hm hmn hp ep hh j (k + 1) L c (by omega) (by rw [eX]; exact hE) (by rw [eX]; exact hO) h3 h2 hhr
      exact ⟨i1, i2, i3, by rw [eX] at i4; exact i4⟩
/-- who is with a mule behind an unloading was with it before, and with another one -/
theorem unl_with {Le M : Fm} {ne m : Nat} {h : Int32} (hn : ne ≤ 60) (hm : m < 2 ^ 31) : ∀ k, k ≤ ne → ∀ l q, l < ne → q < 2 ^ 31 → unlF Le M (nI m) h k 3 l = 1 → unlF Le M (nI m) h k 5 l = nI q → Le 3 l = 1 ∧ Le 5 l = nI q ∧ (l < k → q ≠ m)
  | 0, _, l, q, _, _, h3, h5 => ⟨h3, h5, fun z => absurd z (by omega)⟩
  | k + 1, hk, l, q, hl, hq, h3, h5 => by
    have ih := unl_with (Le := Le) (M := M) (h := h) hn hm k (by omega) l q hl hq
    rw [unlF] at h3 h5
    by_cases w : withC (unlF Le M (nI m) h k) (nI k) (nI m) = true
    · rw [if_pos w] at h3 h5
      by_cases e : l = k
      · subst e
        rw [lay_5 (by omega)] at h5
        exact absurd h5.symm (n_m1 hq)
      · rw [lay_at (by omega) e (by decide) (by decide)] at h3 h5
        obtain ⟨i1, i2, i3⟩ := ih h3 h5
        exact ⟨i1, i2, fun z => i3 (by omega)⟩
    · rw [if_neg w] at h3 h5
      obtain ⟨i1, i2, i3⟩ := ih h3 h5
      refine ⟨i1, i2, fun z => ?_⟩
      by_cases e : l = k
      · subst e
        intro z2
        subst z2
        exact w ((withC_iff (by omega)).mpr ⟨h3, h5⟩)
      · exact i3 (by omega)
theorem unl_r {Le M : Fm} {m h : Int32} {i : Nat} (h3 : i ≠ 3) (h4 : i ≠ 4) (h5 : i ≠ 5) (h9 : i ≠ 9) : ∀ k, unlF Le M m h k i = Le i
  | 0 => rfl
  | k + 1 => by
    rw [unlF]
    split
    · rw [lay_r h3 h4 h5 h9]; exact unl_r h3 h4 h5 h9 k
    · exact unl_r h3 h4 h5 h9 k
/-- mules as they are -/
def okU (Lm Ld : Fm) (nr nm : Nat) : Prop := nm ≤ 12 ∧ ∀ k, k < nm → (∃ r, r < nr ∧ Lm 0 k = nI r ∧ (Lm 2 k = Ld 2 r ∨ Lm 2 k = Ld 3 r)) ∧ (∃ c, 1 ≤ c ∧ c ≤ 6 ∧ Lm 1 k = nI c) ∧ ∃ x, x ≤ 40 ∧ Lm 3 k = nI x
/-- who is with a mule is with one on its way -/
def mvI (Le Lm : Fm) (nm ne : Nat) : Prop := ∀ l m, l < ne → m < nm → Le 3 l = 1 → Le 5 l = nI m → ¬ Lm 3 m = 0
theorem brM_at {M : Fm} {k c j : Nat} (hk : k < 12) : brM M (nI k) c j = if j = k ∧ c = 3 then M 3 k - 1 else if j = k ∧ c = 4 then M 4 k + 1 else M c j := by
  unfold brM
  rw [sr_at, rs_k hk (by decide), rg_k hk (by decide), rg_k hk (by decide)]
  by_cases h4 : c = 4
  · subst h4
    rw [if_pos rfl, if_neg (by omega)]
    by_cases e : j = k
    · subst e; rw [if_pos ⟨rfl, rfl⟩]; exact pk_us
    · rw [if_neg (by omega)]; exact pk_un e
  · rw [if_neg h4, sr_at, rs_k hk (by decide)]
    by_cases h3 : c = 3
    · subst h3
      rw [if_pos rfl, if_neg (show ¬ (j = k ∧ 3 = 4) by omega)]
      by_cases e : j = k
      · subst e; rw [if_pos ⟨rfl, rfl⟩]; exact pk_us
      · rw [if_neg (by omega)]; exact pk_un e
    · rw [if_neg h3, if_neg (by omega), if_neg (by omega)]
theorem bm1_rel {Lm L : Fm} {nm k : Nat} (hn : nm ≤ 12) (hk : k < nm) (h : rM Lm L nm) : rM (brM Lm (nI k)) (bm1 L (nI k)) nm := by
  have hk12 : k < 12 := by omega
  have e3 : muM L (nI k) 3 = Lm 3 k := rM_mu (c := 3) h hn hk (by decide)
  have r3 : rg 12 (Lm 3) (nI k) = Lm 3 k := rg_k hk12 (by decide)
  have h1 : rM (sr Lm 3 (rs 12 (Lm 3) (nI k) (Lm 3 k - 1))) (smM L (nI k) 3 (Lm 3 k - 1)) nm := rM_put h hk12 (mcol_sm (w := 3) hk12 (by decide))
  have e4 : muM (smM L (nI k) 3 (Lm 3 k - 1)) (nI k) 4 = Lm 4 k := (rM_mu (c := 4) h1 hn hk (by decide)).trans (by rw [sr_n (by decide)])
  have h2 := rM_put (w := 4) (v := Lm 4 k + 1) h1 hk12 (mcol_sm (L := smM L (nI k) 3 (Lm 3 k - 1)) (w := 4) hk12 (by decide))
  have e5 : brM Lm (nI k) = sr (sr Lm 3 (rs 12 (Lm 3) (nI k) (Lm 3 k - 1))) 4 (rs 12 (sr Lm 3 (rs 12 (Lm 3) (nI k) (Lm 3 k - 1)) 4) (nI k) (Lm 4 k + 1)) := by
    unfold brM
    rw [r3, show rg 12 (Lm 4) (nI k) = Lm 4 k from rg_k hk12 (by decide), sr_n (show (4 : Nat) ≠ 3 by decide)]
  have e6 : bm1 L (nI k) = smM (smM L (nI k) 3 (Lm 3 k - 1)) (nI k) 4 (Lm 4 k + 1) := by
    unfold bm1
    rw [e3, e4]
  rw [e5, e6]
  exact h2
theorem bm1_r {L : Fm} {m : Int32} {i : Nat} (h : i ≠ 3) : bm1 L m i = L i := by
  unfold bm1 smM
  rw [sr_n h, sr_n h]
theorem uw_iff {M : Fm} {k x : Nat} (hk : k < 12) (hx : x ≤ 40) (e : M 3 k = nI x) : uwC M (nI k) = true ↔ x ≠ 0 := by
  unfold uwC
  rw [rg_k hk (by decide), e]
  constructor
  · intro q z
    subst z
    exact absurd q (by decide)
  · intro q
    have := nI_nle (n := x) (by omega) (by omega)
    simp [this]
theorem i32_c {A Y S0 S2 S3 : Int32} (h1 : Y + S0 = S2) (h2 : A + S2 = Y + S3) : A + S0 = S3 := by
  subst h1
  have h3 : Y + (A + S0) = Y + S3 := by rw [← h2, ← Int32.add_assoc, ← Int32.add_assoc, Int32.add_comm Y A]
  exact (Int32.add_right_inj Y).mp h3
/-- the first step, side by side -/
theorem br_rel {Lm Le Ld L : Fm} {ns nr nm ne h : Nat} (hL : okL Ld ns nr) (hU : okU Lm Ld nr nm) (hn : ne ≤ 60) (hO : okE Le ns nm ne) (hV : mvI Le Lm nm ne) (hM : rM Lm L nm) (hE : rE Le L ne) (hhr : rg 2 (L 5) 0 = nI h) (hh : h < 2 ^ 30) : ∀ k, k ≤ nm →
    rM (brF Lm Le ne (nI h) k).1 (bmF ne L k).1 nm ∧ rE (brF Lm Le ne (nI h) k).2 (bmF ne L k).1 ne ∧ okU (brF Lm Le ne (nI h) k).1 Ld nr nm ∧ okE (brF Lm Le ne (nI h) k).2 ns nm ne ∧ mvI (brF Lm Le ne (nI h) k).2 (brF Lm Le ne (nI h) k).1 nm ne ∧ (∀ i, i ≠ 3 → i ≠ 4 → (bmF ne L k).1 i = L i) ∧ (bmF ne L k).2 + inStC Le ne 2 = inStC (brF Lm Le ne (nI h) k).2 ne 2 ∧ ((brF Lm Le ne (nI h) k).1 0 = Lm 0 ∧ ∀ i, i ≠ 3 → i ≠ 4 → i ≠ 5 → i ≠ 9 → (brF Lm Le ne (nI h) k).2 i = Le i)
  | 0, _ => ⟨hM, hE, hU, hO, hV, fun _ _ _ => rfl, Int32.zero_add _, rfl, fun _ _ _ _ _ => rfl⟩
  | k + 1, hk => by
    obtain ⟨i1, i2, i3, i4, i5, i6, i7, i8, i9⟩ := br_rel hL hU hn hO hV hM hE hhr hh k (by omega)
    obtain ⟨X, hX⟩ : ∃ X, X = brF Lm Le ne (nI h) k := ⟨_, rfl⟩
    obtain ⟨Y, hY⟩ : ∃ Y, Y = bmF ne L k := ⟨_, rfl⟩
    rw [← hX] at i1 i2 i3 i4 i5 i7 i8 i9
    rw [← hY] at i1 i2 i6 i7
    have h12 := i3.1
    have hkm : k < nm := by omega
    have hk12 : k < 12 := by omega
    obtain ⟨⟨r, hr, er, epl⟩, ⟨cc, hc1, hc2, ec⟩, x, hx, ex⟩ := i3.2 k hkm
    have e3 : muM Y.1 (nI k) 3 = nI x := (rM_mu (c := 3) i1 h12 hkm (by decide)).trans ex
    have huw := uw_iff hk12 hx ex
    rw [brF, bmF, ← hX, ← hY]
    by_cases z : x = 0
    · subst z
      rw [if_neg (fun q => huw.mp q rfl), if_pos (show muM Y.1 (nI k) 3 = 0 from e3)]
      exact ⟨i1, i2, i3, i4, i5, i6, i7, i8, i9⟩
    · have hpl : ∃ p, p < ns ∧ X.1 2 k = nI p := by
        obtain ⟨a, b, w, ha, hb, -, -, -, e2, e3, -⟩ := hL.2.2.2 r hr
        rcases epl with q | q
        · exact ⟨a, ha, q.trans e2⟩
        · exact ⟨b, hb, q.trans e3⟩
      obtain ⟨p, hp, ep⟩ := hpl
      have m1 := bm1_rel h12 hkm i1
      have f3 : brM X.1 (nI k) 3 k = nI (x - 1) := by
        rw [brM_at hk12, if_pos ⟨rfl, rfl⟩, ex]
        exact pk_sub (a := x) (b := 1) (by omega)
      have fo : ∀ c j, ¬ (j = k ∧ (c = 3 ∨ c = 4)) → brM X.1 (nI k) c j = X.1 c j := fun c j q => by
        rw [brM_at hk12, if_neg (by omega), if_neg (by omega)]
      have u1 : okU (brM X.1 (nI k)) Ld nr nm := by
        refine ⟨h12, fun j hj => ?_⟩
        obtain ⟨o1, o2, y, hy, ey⟩ := i3.2 j hj
        rw [fo 0 j (by omega), fo 1 j (by omega), fo 2 j (by omega)]
        refine ⟨o1, o2, ?_⟩
        by_cases e : j = k
        · subst e; exact ⟨x - 1, by omega, f3⟩
        · exact ⟨y, hy, (fo 3 j (by omega)).trans ey⟩
      have b3 : muM (bm1 Y.1 (nI k)) (nI k) 3 = nI (x - 1) := (rM_mu (c := 3) m1 h12 hkm (by decide)).trans f3
      have b2 : muM (bm1 Y.1 (nI k)) (nI k) 2 = nI p := (rM_mu (c := 2) m1 h12 hkm (by decide)).trans ((fo 2 k (by omega)).trans ep)
      have bE : rE X.2 (bm1 Y.1 (nI k)) ne := rE_of i2 (bm1_r (by decide))
      have b5 : rg 2 (bm1 Y.1 (nI k) 5) 0 = nI h := by rw [bm1_r (by decide), i6 5 (by decide) (by decide)]; exact hhr
      have huw2 := uw_iff (M := brM X.1 (nI k)) hk12 (show x - 1 ≤ 40 by omega) f3
      rw [if_pos (huw.mpr z), if_neg (show ¬ muM Y.1 (nI k) 3 = 0 by rw [e3]; exact nI_ne0 (by omega) (by omega))]
      by_cases z2 : x - 1 = 0
      · rw [if_neg (fun q => huw2.mp q z2)]
        rw [z2] at b3
        obtain ⟨j1, j2, j3, j4⟩ := ul_rel (Le := X.2) (M := brM X.1 (nI k)) (ns := ns) (nm := nm) (h := h) hn hk12 hkm hp (by rw [rg_k hk12 (by decide)]; exact (fo 2 k (by omega)).trans ep) hh ne 0 (bm1 Y.1 (nI k)) Y.2 (by omega) bE i4 b3 b2 b5
        refine ⟨rM_of m1 (j3 3 (by decide)), j1, u1, j2, ?_, fun i h3 h4 => ?_, ?_, ?_, ?_⟩
        · intro l q hl hq w3 w5
          obtain ⟨g1, g2, g3⟩ := unl_with hn (by omega) ne (Nat.le_refl _) l q hl (by omega) w3 w5
          have := i5 l q hl hq g1 g2
          show ¬ brM X.1 (nI k) 3 q = 0
          rw [fo 3 q (by have := g3 hl; omega)]
          exact this
        · rw [j3 i h4, bm1_r h3]; exact i6 i h3 h4
        · have j5 : (ulR (nI k) ne 0 (bm1 Y.1 (nI k)) Y.2).2 + inStC X.2 ne 2 = Y.2 + inStC (unlF X.2 (brM X.1 (nI k)) (nI k) (nI h) ne) ne 2 := j4
          exact i32_c i7 j5
        · show brM X.1 (nI k) 0 = Lm 0
          rw [← i8]
          funext j
          exact fo 0 j (by omega)
        · intro i h3 h4 h5 h9
          show unlF X.2 (brM X.1 (nI k)) (nI k) (nI h) ne i = Le i
          rw [unl_r h3 h4 h5 h9]
          exact i9 i h3 h4 h5 h9
      · rw [if_pos (huw2.mpr z2)]
        have eu : ulR (nI k) ne 0 (bm1 Y.1 (nI k)) Y.2 = (bm1 Y.1 (nI k), Y.2) := by
          cases ne with
          | zero => rfl
          | succ n => rw [ulR, if_neg (by rw [b3]; exact nI_ne0 (by omega) (by omega))]
        rw [eu]
        refine ⟨m1, bE, u1, i4, ?_, fun i h3 h4 => (bm1_r h3).trans (i6 i h3 h4), i7, ?_, i9⟩
        · intro l q hl hq w3 w5
          by_cases e : q = k
          · subst e
            show ¬ brM X.1 (nI q) 3 q = 0
            rw [f3]
            exact nI_ne0 (by omega) (by omega)
          · show ¬ brM X.1 (nI k) 3 q = 0
            rw [fo 3 q (by omega)]
            exact i5 l q hl hq w3 w5
        · show brM X.1 (nI k) 0 = Lm 0
          rw [← i8]
          funext j
          exact fo 0 j (by omega)
