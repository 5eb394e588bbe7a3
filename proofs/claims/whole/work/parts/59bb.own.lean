/-! the class's own hour is the plain one: roads kept for the letters, crosses left out, hours skipped -/
theorem rs_self {n : Nat} {f : Nat → Int32} {x : Int32} : rs n f x (rg n f x) = f := by
  unfold rs rg
  split
  · rfl
  · funext j
    by_cases h : j = x.toNatClampNeg
    · subst h
      exact pk_us
    · exact pk_un h
theorem sr_self {L : Fm} {r : Nat} : sr L r (L r) = L := by
  funext i
  by_cases h : i = r
  · subst h
    exact sr_s L i (L i)
  · exact sr_n h
theorem fn_at {W L : Fm} {N : Rw} {ne : Nat} (hn : ne ≤ 60) : ∀ k, k ≤ ne → ∀ l, l < ne → (fnF W L N k).1 l = if l < k then fnR W L (nI l) else N l
  | 0, _, l, _ => by
    rw [if_neg (Nat.not_lt_zero l)]
    rfl
  | k + 1, hk, l, hl => by
    have ih := fn_at (W := W) (L := L) (N := N) hn k (by omega) l hl
    show rs 60 (fnF W L N k).1 (nI k) (fnR W L (nI k)) l = _
    rw [row_k (show k < 60 by omega) (by decide), ih]
    by_cases e : l = k
    · rw [if_pos e, if_pos (show l < k + 1 by omega), e]
    · rw [if_neg e]
      by_cases q : l < k
      · rw [if_pos q, if_pos (show l < k + 1 by omega)]
      · rw [if_neg q, if_neg (show ¬ l < k + 1 by omega)]
theorem fn_wa {W L : Fm} {N : Rw} {r : Nat} (hr : r < 15) : ∀ k l, l < k → fnR W L (nI l) = nI r → btz (fnF W L N k).2 r = true
  | 0, l, h, _ => absurd h (Nat.not_lt_zero l)
  | k + 1, l, h, e => by
    show btz (if fnR W L (nI k) = -1 then (fnF W L N k).2 else bW (fnF W L N k).2 (fnR W L (nI k))) r = true
    by_cases q : l = k
    · subst q
      rw [e, if_neg (n_m1 (by omega))]
      unfold bW
      rw [btz_or, btz_one r (by omega) r (by omega), decide_eq_true (rfl : r = r), Bool.or_true]
    · have ih := fn_wa (W := W) (L := L) (N := N) hr k l (by omega) e
      split
      · exact ih
      · unfold bW
        rw [btz_or, ih, Bool.true_or]
theorem fnR_wb {W X : Fm} {l r : Nat} (hl : l < 60) (hr : r < 2 ^ 31) : fnR W X (nI l) = nI r ↔ wbB W X (nI r) l = true := by
  unfold fnR wbB
  rw [rg_k hl (by decide), Bool.and_eq_true, beq_iff_eq, beq_iff_eq]
  by_cases c : X 3 l = 0
  · rw [if_pos c]
    exact ⟨fun q => ⟨c, q⟩, fun q => q.2⟩
  · rw [if_neg c]
    exact ⟨fun q => absurd q.symm (n_m1 hr), fun q => absurd q.1 c⟩
theorem fnR_cg {W X Y : Fm} {l : Nat} (hl : l < 60) (h : ∀ c, Y c l = X c l) : fnR W Y (nI l) = fnR W X (nI l) := by
  unfold fnR
  rw [rg_k (f := Y 3) hl (by decide), rg_k (f := X 3) hl (by decide), fro_cg hl h, h 3]
/-- the roads kept for the letters are those that they go by -/
def okN (W X : Fm) (N : Rw) (ne : Nat) : Prop := ∀ l, l < ne → N l = fnR W X (nI l)
theorem okN_hand {W X : Fm} {N : Rw} {ne k : Nat} {m : Int32} (hn : ne ≤ 60) (hk : k < ne) (h : okN W X N ne) : okN W (handC X (nI k) m) (rs 60 N (nI k) (-1)) ne := fun l hl => by
  rw [row_k (show k < 60 by omega) (by decide)]
  by_cases e : l = k
  · subst e
    rw [if_pos rfl]
    unfold fnR
    rw [rg_k (f := handC X (nI l) m 3) (show l < 60 by omega) (by decide), hand_3 (show l < 60 by omega), if_neg (show ¬ (1 : Int32) = 0 by decide)]
  · rw [if_neg e, h l hl]
    exact (fnR_cg (by omega) (fun c => hand_at (by omega) e)).symm
theorem leS_at {W X : Fm} {N : Rw} {here road m : Int32} {ρ l : Nat} {has : Bool} (hl : l < 60) (hρ : ρ < 2 ^ 31) (key : N l = road ↔ wbB W X road l = true) : leS X N here road m (nI ρ) has (nI l) = if cdB W X road here l = true ∧ ρ ≠ 0 then (handC X (nI l) m, rs 60 N (nI l) (-1), nI (ρ - 1), true) else (X, N, nI ρ, has || wbB W X road l) := by
  unfold leS cdB
  rw [rg_k (f := N) hl (by decide), rg_k (f := X 4) hl (by decide)]
  by_cases c1 : N l = road
  · have w := key.mp c1
    rw [if_pos c1, w, Bool.true_and, Bool.or_true]
    by_cases c3 : X 4 l = here
    · rw [if_pos c3, c3, beq_self_eq_true]
      by_cases c4 : ρ = 0
      · subst c4
        rw [if_pos (show nI 0 ≤ 0 by decide), if_neg (fun q => q.2 rfl)]
      · rw [if_neg (nI_nle (by omega) hρ), if_pos ⟨rfl, c4⟩]
        obtain ⟨n, rfl⟩ : ∃ n, ρ = n + 1 := ⟨ρ - 1, by omega⟩
        rw [pk_m1, Nat.add_sub_cancel]
    · rw [if_neg c3, beq_eq_false_iff_ne.mpr c3, if_neg (fun q => Bool.false_ne_true q.1)]
  · have w : wbB W X road l = false := Bool.eq_false_iff.mpr (fun q => c1 (key.mpr q))
    rw [if_neg c1, w, Bool.false_and, Bool.or_false, if_neg (fun q => Bool.false_ne_true q.1)]
/-- a mule takes its letters: by the roads kept, or by the ways looked up -/
theorem le_own {W X : Fm} {N : Rw} {ns nm ne m c r p : Nat} (hn : ne ≤ 60) (hm : m < nm) (hm2 : nm ≤ 12) (hc : c ≤ 6) (hr : r < 2 ^ 31) (hO : okE X ns nm ne) (hI : okO X ne) (hN : okN W X N ne) : ∀ i, i ≤ ne →
    (leF X N (nI p) (nI r) (nI m) (nI c) i).1 = (ldF W X (nI p) (nI r) (nI m) (nI c) i).1 ∧ (leF X N (nI p) (nI r) (nI m) (nI c) i).2.2 = (ldF W X (nI p) (nI r) (nI m) (nI c) i).2 ∧ okN W (ldF W X (nI p) (nI r) (nI m) (nI c) i).1 (leF X N (nI p) (nI r) (nI m) (nI c) i).2.1 ne ∧ ∀ l, l < ne → (leF X N (nI p) (nI r) (nI m) (nI c) i).2.1 l = N l ∨ (leF X N (nI p) (nI r) (nI m) (nI c) i).2.1 l = -1
  | 0, _ => ⟨rfl, rfl, hN, fun _ _ => Or.inl rfl⟩
  | i + 1, hi => by
    obtain ⟨e1, e2, e3, e4⟩ := le_own (p := p) hn hm hm2 hc hr hO hI hN i (by omega)
    obtain ⟨-, h2, ⟨ρ, hρ, h3⟩, -⟩ := ld_inv (W := W) (here := nI p) (road := nI r) hn hm hm2 hc hO hI i (by omega)
    have hs0 : leF X N (nI p) (nI r) (nI m) (nI c) (i + 1) = leS (leF X N (nI p) (nI r) (nI m) (nI c) i).1 (leF X N (nI p) (nI r) (nI m) (nI c) i).2.1 (nI p) (nI r) (nI m) (leF X N (nI p) (nI r) (nI m) (nI c) i).2.2.1 (leF X N (nI p) (nI r) (nI m) (nI c) i).2.2.2 (rg 60 ((leF X N (nI p) (nI r) (nI m) (nI c) i).1 10) (nI i)) := rfl
    have ht0 : ldF W X (nI p) (nI r) (nI m) (nI c) (i + 1) = ldS W (ldF W X (nI p) (nI r) (nI m) (nI c) i).1 (nI p) (nI r) (nI m) (ldF W X (nI p) (nI r) (nI m) (nI c) i).2.1 (ldF W X (nI p) (nI r) (nI m) (nI c) i).2.2 (rg 60 ((ldF W X (nI p) (nI r) (nI m) (nI c) i).1 10) (nI i)) := rfl
    rw [hs0, ht0]
    obtain ⟨Y, hY⟩ : ∃ Y, Y = ldF W X (nI p) (nI r) (nI m) (nI c) i := ⟨_, rfl⟩
    obtain ⟨Z, hZ⟩ : ∃ Z, Z = leF X N (nI p) (nI r) (nI m) (nI c) i := ⟨_, rfl⟩
    rw [← hY] at e1 e2 e3 h2 h3 ⊢
    rw [← hZ] at e1 e2 e3 e4 ⊢
    obtain ⟨l, hl, el⟩ := hI.1 i (by omega)
    have hl60 : l < 60 := by omega
    have ho : rg 60 (Y.1 10) (nI i) = nI l := by rw [h2 10 (by decide) (by decide) (by decide), rg_k (by omega) (by decide)]; exact el
    have key : Z.2.1 l = nI r ↔ wbB W Y.1 (nI r) l = true := by rw [e3 l hl]; exact fnR_wb hl60 hr
    rw [e1, e2, ho, h3, leS_at hl60 (by omega) key, ldS_at hl60 (by omega)]
    by_cases q : cdB W Y.1 (nI r) (nI p) l = true ∧ ρ ≠ 0
    · rw [if_pos q, if_pos q]
      refine ⟨rfl, rfl, okN_hand hn hl e3, fun l' hl' => ?_⟩
      show rs 60 Z.2.1 (nI l) (-1) l' = N l' ∨ rs 60 Z.2.1 (nI l) (-1) l' = -1
      rw [row_k hl60 (by decide)]
      split
      · exact Or.inr rfl
      · exact e4 l' hl'
    · rw [if_neg q, if_neg q]
      exact ⟨rfl, rfl, e3, e4⟩
theorem ld_none {W X : Fm} {here road m room : Int32} {ne : Nat} (hn : ne ≤ 60) (hI : okO X ne) (h : ∀ l, l < ne → wbB W X road l = false) : ∀ i, i ≤ ne → ldF W X here road m room i = (X, room, false)
  | 0, _ => rfl
  | i + 1, hi => by
    obtain ⟨l, hl, el⟩ := hI.1 i (by omega)
    show ldS W (ldF W X here road m room i).1 here road m (ldF W X here road m room i).2.1 (ldF W X here road m room i).2.2 (rg 60 ((ldF W X here road m room i).1 10) (nI i)) = _
    rw [ld_none hn hI h i (by omega)]
    show ldS W X here road m room false (rg 60 (X 10) (nI i)) = (X, room, false)
    rw [rg_k (show i < 60 by omega) (by decide), el]
    have w := h l hl
    unfold wbB at w
    unfold ldS
    rw [rg_k (f := X 3) (show l < 60 by omega) (by decide)]
    by_cases c : X 3 l = 0
    · rw [if_pos c, if_neg (fun q => by rw [c, q] at w; simp at w)]
    · rw [if_neg c]
/-! crosses where a mule is alone -/
theorem cI_none {P : Nat → Bool} : ∀ n, (∀ k, k < n → P k = false) → cI P n = 0
  | 0, _ => rfl
  | n + 1, h => by rw [cI, cI_none n (fun k hk => h k (by omega)), if_neg (by rw [h n (by omega)]; exact Bool.false_ne_true)]
theorem cI_two {P : Nat → Bool} {a b : Nat} (hab : a < b) (h31 : b < 2 ^ 31) (ha : P a = true) (hb : P b = true) : ∀ n, b < n → ∃ c, 2 ≤ c ∧ c ≤ n ∧ cI P n = nI c
  | 0, h => absurd h (by omega)
  | n + 1, h => by
    rw [cI]
    by_cases e : b = n
    · subst e
      obtain ⟨c, hc, ec⟩ := cI_nat P b
      have c1 : 1 ≤ c := by
        rcases Nat.eq_zero_or_pos c with z | z
        · refine absurd ?_ (cI_pos b h31 hab ha)
          rw [ec, z]
          decide
        · exact z
      rw [if_pos hb, ec, nI_1]
      exact ⟨c + 1, by omega, by omega, rfl⟩
    · obtain ⟨c, h2, hc, ec⟩ := cI_two hab h31 ha hb n (by omega)
      by_cases q : P n = true
      · rw [if_pos q, ec, nI_1]
        exact ⟨c + 1, by omega, by omega, rfl⟩
      · rw [if_neg q]
        exact ⟨c, h2, by omega, ec⟩
theorem cI_tw {P : Nat → Bool} {a b n : Nat} (hab : a ≠ b) (h31 : n < 2 ^ 31) (hn : a < n) (hm : b < n) (ha : P a = true) (hb : P b = true) : ¬ cI P n ≤ 1 := fun q => by
  obtain ⟨c, h2, hc, ec⟩ : ∃ c, 2 ≤ c ∧ c ≤ n ∧ cI P n = nI c := by
    rcases Nat.lt_or_gt_of_ne hab with z | z
    · exact cI_two z (by omega) ha hb n hm
    · exact cI_two z (by omega) hb ha n hn
  rw [ec] at q
  have := (nI_leI (a := c) (b := 1) (by omega) (by decide)).mp q
  omega
def crQ (M L : Fm) (l m : Int32) (k : Nat) : Bool := rg 60 (L 3) (nI k) == 1 && ansC L (nI k) l && oppC M (rg 60 (L 5) (nI k)) m
theorem crJ_eq {M L : Fm} {l m a : Int32} : ∀ k, crJ M L l m a k = a + cI (crQ M L l m) k
  | 0 => (Int32.add_zero a).symm
  | k + 1 => by
    rw [crJ, cI, crJ_eq k]
    by_cases c1 : rg 60 (L 3) (nI k) = 1
    · by_cases c2 : ansC L (nI k) l = true
      · by_cases c3 : oppC M (rg 60 (L 5) (nI k)) m = true
        · rw [if_pos c1, if_pos c2, if_pos c3, if_pos (show crQ M L l m k = true by simp [crQ, c1, c2, c3]), Int32.add_assoc]
        · rw [if_pos c1, if_pos c2, if_neg c3, if_neg (show ¬ crQ M L l m k = true by simp [crQ, c3])]
      · rw [if_pos c1, if_neg c2, if_neg (show ¬ crQ M L l m k = true by simp [crQ, c2])]
    · rw [if_neg c1, if_neg (show ¬ crQ M L l m k = true by simp [crQ, c1])]
theorem crF_eq {M L : Fm} {ne : Nat} {m cr : Int32} : ∀ k, crF M L ne m cr k = cr + crG M L ne m k
  | 0 => (Int32.add_zero cr).symm
  | k + 1 => by
    rw [crF, crG, crF_eq k]
    by_cases c : withC L (nI k) m = true
    · rw [if_pos c, if_pos c, crJ_eq, Int32.add_assoc]
      rfl
    · rw [if_neg c, if_neg c]
theorem crF_none {M L : Fm} {ne : Nat} {m cr : Int32} (h : ∀ l, l < ne → crsC M L ne (nI l) m = 0) : ∀ k, k ≤ ne → crF M L ne m cr k = cr
  | 0, _ => rfl
  | k + 1, hk => by
    rw [crF, crF_none h k (by omega)]
    by_cases c : withC L (nI k) m = true
    · rw [if_pos c, h k (by omega), Int32.add_zero]
    · rw [if_neg c]
theorem ou_own {Ld Lm K N : Fm} {ns nr nm ne m : Nat} {cr : Int32} (hn : ne ≤ 60) (hm : m < nm) (hU : okU N Ld nr nm) (hO : okE K ns nm ne) (hV : mvI K N nm ne) (eN : N = outM Ld Lm (nI m)) (e0 : N 0 = Lm 0) (h3 : ¬ N 3 m = 0) : ouC Ld Lm K nm ne (nI m) cr = crF (outM Ld Lm (nI m)) K ne (nI m) cr ne := by
  have h12 := hU.1
  unfold ouC
  rw [← eN, ← e0, rg_k (f := N 0) (show m < 12 by omega) (by decide)]
  by_cases c : onWC N nm (N 0 m) ≤ 1
  · rw [if_pos c]
    refine (crF_none (fun l hl => ?_) ne (Nat.le_refl _)).symm
    show cI (crQ N K (nI l) (nI m)) ne = 0
    refine cI_none ne fun k hk => ?_
    cases q : crQ N K (nI l) (nI m) k with
    | false => rfl
    | true =>
      exfalso
      unfold crQ at q
      rw [Bool.and_eq_true, Bool.and_eq_true, beq_iff_eq, rg_k (f := K 3) (show k < 60 by omega) (by decide), rg_k (f := K 5) (show k < 60 by omega) (by decide)] at q
      obtain ⟨⟨q3, -⟩, q4⟩ := q
      obtain ⟨-, -, -, o⟩ := hO k hk
      rcases o with ⟨-, ⟨w, hw, e5⟩, -⟩ | ⟨o, -⟩
      · have e5 : K 5 k = nI w := e5
        rw [e5] at q4
        unfold oppC at q4
        rw [Bool.and_eq_true, beq_iff_eq, rg_k (f := N 0) (show w < 12 by omega) (by decide), rg_k (f := N 0) (show m < 12 by omega) (by decide)] at q4
        obtain ⟨q5, q6⟩ := q4
        have hwm : w ≠ m := fun z => by
          subst z
          rw [beq_self_eq_true] at q6
          exact Bool.noConfusion q6
        have on : ∀ j, j < nm → N 0 j = N 0 m → ¬ N 3 j = 0 → (rg 12 (N 0) (nI j) == N 0 m && uwC N (nI j)) = true := fun j hj ej nj => by
          obtain ⟨-, -, x, hx, ex⟩ := hU.2 j hj
          have hx0 : x ≠ 0 := fun z => nj (by rw [ex, z]; exact nI_0)
          rw [rg_k (show j < 12 by omega) (by decide), ej, beq_self_eq_true, (uw_iff (show j < 12 by omega) hx ex).mpr hx0]
          rfl
        exact cI_tw (P := fun j => rg 12 (N 0) (nI j) == N 0 m && uwC N (nI j)) hwm (by omega) hw hm (on w hw q5 (hV k w hk hw q3 e5)) (on m hm rfl h3) c
      · rcases o with ⟨z, -⟩ | ⟨z, -⟩
        · have z : K 3 k = 0 := z
          rw [q3] at z
          exact absurd z (by decide)
        · have z : K 3 k = 2 ∨ K 3 k = 3 := z
          rw [q3] at z
          exact absurd z (by decide)
  · rw [if_neg c, crF_eq]
