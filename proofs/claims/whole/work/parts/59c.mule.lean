/-! a mule more; a letter more; a letter recalled -/
theorem pmC_at {M : Fm} {nm j w : Nat} {a b c : Int32} (hn : nm < 12) (hw : w < 5) : pmC M nm a b c w j = if j = nm then ar5 a b c w else M w j := by
  rcases (show w = 0 ∨ w = 1 ∨ w = 2 ∨ w = 3 ∨ w = 4 by omega) with rfl | rfl | rfl | rfl | rfl
  · show rs 12 (M 0) (nI nm) a j = _
    rw [row_k hn (by decide)]; rfl
  · show rs 12 (M 1) (nI nm) b j = _
    rw [row_k hn (by decide)]; rfl
  · show rs 12 (M 2) (nI nm) c j = _
    rw [row_k hn (by decide)]; rfl
  · show rs 12 (M 3) (nI nm) 0 j = _
    rw [row_k hn (by decide)]; rfl
  · show rs 12 (M 4) (nI nm) 0 j = _
    rw [row_k hn (by decide)]; rfl
/-- a mule on a road that counts already: the ways stay as they are -/
theorem okY_same {W Ld Lm : Fm} {e : Int32} {nr nm r c : Nat} (h15 : nr ≤ 15) (hnm : nm < 12) (hr : r < nr) (hY : okY W Ld Lm nr nm) (h1 : ¬ ofRC (pmC Lm nm (nI r) (nI c) e) (nm + 1) (nI r) = 1) : okY W Ld (pmC Lm nm (nI r) (nI c) e) nr (nm + 1) := by
  have cnt : ∀ j, j < nr → ofRC (pmC Lm nm (nI r) (nI c) e) (nm + 1) (nI j) = if r = j then ofRC Lm nm (nI j) + 1 else ofRC Lm nm (nI j) := fun j hj => by
    have e0 : ∀ k, k < 12 → rg 12 (pmC Lm nm (nI r) (nI c) e 0) (nI k) = if k = nm then nI r else Lm 0 k := fun k hk => by
      rw [rg_k hk (by decide), pmC_at hnm (by decide)]
      rfl
    have e1 : cI (fun k => rg 12 (pmC Lm nm (nI r) (nI c) e 0) (nI k) == nI j) nm = ofRC Lm nm (nI j) := cI_cg nm fun k hk => by
      rw [e0 k (by omega), if_neg (by omega), rg_k (show k < 12 by omega) (by decide)]
    show (if (rg 12 (pmC Lm nm (nI r) (nI c) e 0) (nI nm) == nI j) = true then cI (fun k => rg 12 (pmC Lm nm (nI r) (nI c) e 0) (nI k) == nI j) nm + 1 else cI (fun k => rg 12 (pmC Lm nm (nI r) (nI c) e 0) (nI k) == nI j) nm) = _
    rw [e0 nm hnm, if_pos rfl, e1]
    by_cases q : r = j
    · subst q
      rw [if_pos rfl, if_pos (beq_self_eq_true _)]
    · rw [if_neg q, if_neg (fun z => q ((nI_eq (by omega) (by omega)).mp (eq_of_beq z)))]
  obtain ⟨c0, hc0, ec0⟩ := cI_nat (fun k => rg 12 (Lm 0) (nI k) == nI r) nm
  have ec0 : ofRC Lm nm (nI r) = nI c0 := ec0
  have hc1 : c0 ≠ 0 := fun z => by
    rw [cnt r hr, if_pos rfl, ec0, z] at h1
    exact h1 (by decide)
  have ag : ∀ j, j < nr → (gC Ld (pmC Lm nm (nI r) (nI c) e) (nm + 1)).1 j = (gC Ld Lm nm).1 j ∧ (gC Ld (pmC Lm nm (nI r) (nI c) e) (nm + 1)).2.1 j = (gC Ld Lm nm).2.1 j ∧ (gC Ld (pmC Lm nm (nI r) (nI c) e) (nm + 1)).2.2.1 j = (gC Ld Lm nm).2.2.1 j ∧ (gC Ld (pmC Lm nm (nI r) (nI c) e) (nm + 1)).2.2.2.1 j = (gC Ld Lm nm).2.2.2.1 j ∧ (gC Ld (pmC Lm nm (nI r) (nI c) e) (nm + 1)).2.2.2.2 j = (gC Ld Lm nm).2.2.2.2 j := fun j hj => ⟨by
    rw [Bool.eq_iff_iff, gC_1, gC_1, cnt j hj]
    by_cases q : r = j
    · subst q
      rw [if_pos rfl, ec0, nI_1]
      exact ⟨fun _ => nI_nle (by omega) (by omega), fun _ => nI_nle (by omega) (by omega)⟩
    · rw [if_neg q], rfl, rfl, rfl, rfl⟩
  refine ⟨?_, fun a b ha hb => ?_⟩
  · rw [agW ag]
    exact hY.1
  · rw [agF ag a b]
    exact hY.2 a b ha hb
theorem mu_core {W Ld Lm Le L : Fm} {hou cro e : Int32} {ns nr nm ne h r c : Nat} (hS : SY W Ld Lm Le hou cro L ns nr nm ne h) (hnm : nm < 12) (hr : r < nr) (hc1 : 1 ≤ c) (hc2 : c ≤ 6) (he : e = Ld 2 r ∨ e = Ld 3 r) : SY (fwC W Ld (pmC Lm nm (nI r) (nI c) e) ns nr (nm + 1) (nI r)) Ld (pmC Lm nm (nI r) (nI c) e) Le hou cro (pmT L nm (nI r) (nI c) e) ns nr (nm + 1) ne h := by
  obtain ⟨⟨hL, hY, hU, hn, hO, hV, hI, hD, hM, hE, hh, h0, h1⟩, hB⟩ := hS
  have at' : ∀ w j, w < 5 → pmC Lm nm (nI r) (nI c) e w j = if j = nm then ar5 (nI r) (nI c) e w else Lm w j := fun w j hw => pmC_at hnm hw
  have hmore : moreG (gC Ld Lm nm) (gC Ld (pmC Lm nm (nI r) (nI c) e) (nm + 1)) nr nr := by
    refine ⟨Nat.le_refl _, fun j hj hc => ⟨?_, rfl, rfl, rfl, rfl⟩⟩
    obtain ⟨k, hk, hp⟩ := cI_some nm (gC_1.mp hc)
    refine gC_1.mpr (cI_pos (k := k) (nm + 1) (by omega) (by omega) ?_)
    have hp : rg 12 (Lm 0) (nI k) = nI j := eq_of_beq hp
    rw [rg_k (by omega) (by decide)] at hp
    show (rg 12 (pmC Lm nm (nI r) (nI c) e 0) (nI k) == nI j) = true
    rw [rg_k (by omega) (by decide), at' 0 k (by decide), if_neg (by omega), hp]
    exact beq_self_eq_true _
  have nU : okU (pmC Lm nm (nI r) (nI c) e) Ld nr (nm + 1) := by
    refine ⟨by omega, fun k hk => ?_⟩
    rw [at' 0 k (by decide), at' 1 k (by decide), at' 2 k (by decide), at' 3 k (by decide)]
    by_cases q : k = nm
    · rw [if_pos q, if_pos q, if_pos q, if_pos q]
      exact ⟨⟨r, hr, rfl, he⟩, ⟨c, hc1, hc2, rfl⟩, 0, by omega, rfl⟩
    · rw [if_neg q, if_neg q, if_neg q, if_neg q]
      exact hU.2 k (by omega)
  have nM : rM (pmC Lm nm (nI r) (nI c) e) (pmT L nm (nI r) (nI c) e) (nm + 1) := fun j w hj hw => by
    rw [at' w j hw]
    unfold mcol
    rw [if_pos ⟨by omega, hw⟩, pm3 hnm]
    by_cases q : j = nm
    · subst q
      rw [if_pos rfl, if_pos (by omega), show 0 + (5 * j + w - 5 * j) = w by omega]
    · rw [if_neg q, if_neg (by omega)]
      have := hM j w (by omega) hw
      unfold mcol at this
      rw [if_pos ⟨by omega, hw⟩] at this
      exact this
  have nV : mvI Le (pmC Lm nm (nI r) (nI c) e) (nm + 1) ne := fun l m hl hm a b => by
    obtain ⟨-, -, -, o⟩ := hO l hl
    have hmn : m < nm := by
      rcases o with ⟨-, ⟨q, hq, e5⟩, -⟩ | ⟨o3, -⟩
      · have e5 : Le 5 l = nI q := e5
        rw [b, nI_eq (by omega) (by omega)] at e5
        omega
      · rcases o3 with ⟨z, -⟩ | ⟨z, -⟩
        · have z : Le 3 l = 0 := z
          rw [a] at z; exact absurd z (by decide)
        · have z : Le 3 l = 2 ∨ Le 3 l = 3 := z
          rw [a] at z; exact absurd z (by decide)
    rw [at' 3 m (by decide), if_neg (by omega)]
    exact hV l m hl hmn a b
  have nY : okY (fwC W Ld (pmC Lm nm (nI r) (nI c) e) ns nr (nm + 1) (nI r)) Ld (pmC Lm nm (nI r) (nI c) e) nr (nm + 1) := by
    unfold fwC
    by_cases q : ofRC (pmC Lm nm (nI r) (nI c) e) (nm + 1) (nI r) = 1
    · rw [if_pos q]
      exact okY_find hL hY hmore
    · rw [if_neg q]
      exact okY_same hL.2.1 hnm hr hY q
  exact ⟨⟨hL, nY, nU, hn, okE_mono (Nat.le_refl _) (by omega) hO, nV, hI, rD_of hD rfl rfl rfl, nM, rE_of hE rfl, hh, h0, h1⟩, hB.1, hB.2⟩
theorem am_rel {W Ld Lm Le L : Fm} {hou cro a b c : Int32} {ns nr nm ne h : Nat} (hS : SY W Ld Lm Le hou cro L ns nr nm ne h) : (pam L nr nm a b c).2.1 = nI (kAM nr nm a b) ∧ (¬ kAM nr nm a b = 0 → (pam L nr nm a b c).2.2 = (nm, L)) ∧ (kAM nr nm a b = 0 → (pam L nr nm a b c).1 = nI nm ∧ (pam L nr nm a b c).2.2.1 = nm + 1 ∧ SY (fwC W Ld (pmC Lm nm a b (if c = 0 then rg 15 (Ld 2) a else rg 15 (Ld 3) a)) ns nr (nm + 1) a) Ld (pmC Lm nm a b (if c = 0 then rg 15 (Ld 2) a else rg 15 (Ld 3) a)) Le hou cro (pam L nr nm a b c).2.2.2 ns nr (nm + 1) ne h) := by
  have hD := hS.1.2.2.2.2.2.2.2.1
  have h15 := hS.1.1.2.1
  have h12 := hS.1.2.2.1.1
  unfold pam kAM
  by_cases c1 : inB a 0 (nI nr - 1) = true
  · rw [if_pos c1, if_pos c1]
    by_cases c2 : inB b 1 6 = true
    · rw [if_pos c2, if_pos c2]
      by_cases c3 : nm < 12
      · rw [if_pos (show nI nm < 12 from nI_lt (b := 12) c3 (by decide)), if_neg (fun q => by have := (nI_eq (b := 12) (by omega) (by decide)).mp q; omega)]
        obtain ⟨r, hr, rfl⟩ := inB_vd (by omega) c1
        obtain ⟨hw, ew⟩ := inB_cl1 (b := 6) (by decide) c2
        have hw1 : 1 ≤ b.toNatClampNeg := by
          rcases Nat.eq_zero_or_pos b.toNatClampNeg with z | z
          · rw [z] at ew
            rw [ew] at c2
            exact absurd c2 (by decide)
          · exact z
        obtain ⟨l, hl⟩ : ∃ l, l = b.toNatClampNeg := ⟨_, rfl⟩
        rw [← hl] at hw hw1 ew
        subst ew
        have er : roM L (nI r) (if c = 0 then 0 else 1) = if c = 0 then rg 15 (Ld 2) (nI r) else rg 15 (Ld 3) (nI r) := by
          by_cases z : c = 0
          · rw [if_pos z, if_pos z, rg_k (by omega) (by decide)]
            exact ro_eq (c := 0) hD h15 hr (by decide)
          · rw [if_neg z, if_neg z, rg_k (by omega) (by decide)]
            exact ro_eq (c := 1) hD h15 hr (by decide)
        rw [er]
        refine ⟨rfl, fun q => absurd rfl q, fun _ => ⟨rfl, rfl, mu_core hS c3 hr hw1 hw ?_⟩⟩
        by_cases z : c = 0
        · rw [if_pos z, rg_k (by omega) (by decide)]; exact Or.inl rfl
        · rw [if_neg z, rg_k (by omega) (by decide)]; exact Or.inr rfl
      · have e : nm = 12 := by omega
        subst e
        rw [if_neg (show ¬ nI 12 < 12 by decide), if_pos (show nI 12 = 12 by decide)]
        exact ⟨rfl, fun _ => rfl, fun q => absurd q (by decide)⟩
    · rw [if_neg c2, if_neg c2]
      exact ⟨rfl, fun _ => rfl, fun q => absurd q (by decide)⟩
  · rw [if_neg c1, if_neg c1]
    exact ⟨rfl, fun _ => rfl, fun q => absurd q (by decide)⟩
/-! letters -/
theorem po4 {L : Fm} {nl i : Nat} {a b c : Int32} (hn : nl < 60) : poT L nl a b c 4 i = if 11 * nl ≤ i ∧ i < 11 * nl + 11 then ar11 a b c (rg 2 (L 5) 0) (0 + (i - 11 * nl)) else L 4 i := by
  have e : ((11 : Int32) * nI nl).toNatClampNeg = 11 * nl := clm (a := 11) (m := 660) (by omega) (by decide)
  show va_cpy (ar11 a b c (rg 2 (L 5) (0 : Int32))) (L 4) (0 : Int32).toNatClampNeg ((11 : Int32) * nI nl).toNatClampNeg (11 : Int32).toNatClampNeg i = _
  rw [e]
  rfl
theorem poC_at {M : Fm} {ne j w : Nat} {a b c d : Int32} (hn : ne < 60) (hw : w < 10) : poC M ne a b c d w j = if j = ne then ar11 a b c d w else M w j := by
  rcases (show w = 0 ∨ w = 1 ∨ w = 2 ∨ w = 3 ∨ w = 4 ∨ w = 5 ∨ w = 6 ∨ w = 7 ∨ w = 8 ∨ w = 9 by omega) with rfl | rfl | rfl | rfl | rfl | rfl | rfl | rfl | rfl | rfl
  · show rs 60 (M 0) (nI ne) a j = _
    rw [row_k hn (by decide)]; rfl
  · show rs 60 (M 1) (nI ne) b j = _
    rw [row_k hn (by decide)]; rfl
  · show rs 60 (M 2) (nI ne) c j = _
    rw [row_k hn (by decide)]; rfl
  · show rs 60 (M 3) (nI ne) 0 j = _
    rw [row_k hn (by decide)]; rfl
  · show rs 60 (M 4) (nI ne) a j = _
    rw [row_k hn (by decide)]; rfl
  · show rs 60 (M 5) (nI ne) (-1) j = _
    rw [row_k hn (by decide)]; rfl
  · show rs 60 (M 6) (nI ne) 0 j = _
    rw [row_k hn (by decide)]; rfl
  · show rs 60 (M 7) (nI ne) 0 j = _
    rw [row_k hn (by decide)]; rfl
  · show rs 60 (M 8) (nI ne) d j = _
    rw [row_k hn (by decide)]; rfl
  · show rs 60 (M 9) (nI ne) (-1) j = _
    rw [row_k hn (by decide)]; rfl
/-- a letter put into the order -/
theorem pio_spec {ur : Nat → Int32} {u x : Int32} : ∀ (r : Nat) (o : Nat → Int32), r < 60 → ∃ pos, pos ≤ r ∧ (∀ i, pio ur u x r o i = if i < pos then o i else if i = pos then x else if i ≤ r then o (i - 1) else o i) ∧ (pos = 0 ∨ u ≤ rg 60 ur (o (pos - 1))) ∧ ∀ i, pos ≤ i → i < r → ¬ u ≤ rg 60 ur (o i)
  | 0, o, _ => ⟨0, Nat.le_refl _, fun i => by
      rw [pio, row_k (by decide) (by decide), if_neg (show ¬ i < 0 by omega)]
      by_cases h : i = 0
      · rw [if_pos h, if_pos h]
      · rw [if_neg h, if_neg h, if_neg (show ¬ i ≤ 0 by omega)], Or.inl rfl, fun i _ h => absurd h (by omega)⟩
  | r + 1, o, hr => by
    rw [pio, nI_pred, rg_k (f := o) (show r < 60 by omega) (by decide)]
    by_cases c : u ≤ rg 60 ur (o r)
    · rw [if_pos c]
      refine ⟨r + 1, Nat.le_refl _, fun i => ?_, Or.inr c, fun i h1 h2 => absurd h1 (by omega)⟩
      rw [row_k hr (by decide)]
      by_cases h : i = r + 1
      · rw [if_pos h, if_neg (by omega), if_pos h]
      · rw [if_neg h]
        by_cases h2 : i < r + 1
        · rw [if_pos h2]
        · rw [if_neg h2, if_neg h, if_neg (by omega)]
    · rw [if_neg c]
      obtain ⟨pos, h1, h2, h3, h4⟩ := pio_spec (ur := ur) (u := u) (x := x) r (rs 60 o (nI (r + 1)) (o r)) (by omega)
      have o1 : ∀ i, i ≠ r + 1 → rs 60 o (nI (r + 1)) (o r) i = o i := fun i hi => by rw [row_k hr (by decide), if_neg hi]
      have o2 : rs 60 o (nI (r + 1)) (o r) (r + 1) = o r := by rw [row_k hr (by decide), if_pos rfl]
      refine ⟨pos, by omega, fun i => ?_, ?_, fun i a b => ?_⟩
      · rw [h2]
        by_cases a : i < pos
        · rw [if_pos a, if_pos a]; exact o1 i (by omega)
        · rw [if_neg a, if_neg a]
          by_cases b : i = pos
          · rw [if_pos b, if_pos b]
          · rw [if_neg b, if_neg b]
            by_cases d : i ≤ r
            · rw [if_pos d, if_pos (show i ≤ r + 1 by omega)]; exact o1 _ (by omega)
            · rw [if_neg d]
              by_cases e : i = r + 1
              · subst e
                rw [if_pos (Nat.le_refl _), o2, Nat.add_sub_cancel]
              · rw [if_neg (show ¬ i ≤ r + 1 by omega)]; exact o1 i e
      · rcases h3 with z | z
        · exact Or.inl z
        · rcases Nat.eq_zero_or_pos pos with y | y
          · exact Or.inl y
          · right
            rw [o1 _ (by omega)] at z
            exact z
      · by_cases e : i = r
        · subst e; exact c
        · have := h4 i a (by omega)
          rw [o1 i (by omega)] at this
          exact this
theorem okO_post {Le : Fm} {ne : Nat} {a b c d : Int32} (hn : ne < 60) (hI : okO Le ne) : okO (poC Le ne a b c d) (ne + 1) := by
  obtain ⟨pos, h1, h2, h3, h4⟩ := pio_spec (ur := rs 60 (Le 2) (nI ne) c) (u := c) (x := nI ne) ne (Le 10) hn
  have r10 : ∀ i, poC Le ne a b c d 10 i = if i < pos then Le 10 i else if i = pos then nI ne else if i ≤ ne then Le 10 (i - 1) else Le 10 i := h2
  have r2 : ∀ j, poC Le ne a b c d 2 j = if j = ne then c else Le 2 j := fun j => by
    show rs 60 (Le 2) (nI ne) c j = _
    exact row_k hn (by decide)
  have ur : ∀ l, l < ne → rg 60 (rs 60 (Le 2) (nI ne) c) (nI l) = Le 2 l := fun l hl => by
    rw [rg_k (by omega) (by decide), row_k hn (by decide), if_neg (by omega)]
  -- each place holds the new letter, or an elder one from an elder place
  have old : ∀ i, i < ne + 1 → i ≠ pos → ∃ i', i' < ne ∧ poC Le ne a b c d 10 i = Le 10 i' ∧ ((i < pos ∧ i' = i) ∨ (pos < i ∧ i = i' + 1)) := fun i hi hp => by
    rw [r10]
    by_cases z : i < pos
    · rw [if_pos z]; exact ⟨i, by omega, rfl, Or.inl ⟨z, rfl⟩⟩
    · rw [if_neg z, if_neg hp, if_pos (show i ≤ ne by omega)]
      exact ⟨i - 1, by omega, rfl, Or.inr ⟨by omega, by omega⟩⟩
  have new : poC Le ne a b c d 10 pos = nI ne := by rw [r10, if_neg (by omega), if_pos rfl]
  refine ⟨fun i hi => ?_, fun l hl => ?_, fun i j x y hij hj hx hy ei ej => ?_⟩
  · by_cases z : i = pos
    · exact ⟨ne, by omega, by rw [z]; exact new⟩
    · obtain ⟨i', hi', e, -⟩ := old i hi z
      obtain ⟨l, hl, el⟩ := hI.1 i' hi'
      exact ⟨l, by omega, e.trans el⟩
  · by_cases z : l = ne
    · exact ⟨pos, by omega, by rw [z]; exact new⟩
    · obtain ⟨i, hi, ei⟩ := hI.2.1 l (by omega)
      by_cases q : i < pos
      · exact ⟨i, by omega, by rw [r10, if_pos q]; exact ei⟩
      · refine ⟨i + 1, by omega, ?_⟩
        rw [r10, if_neg (by omega), if_neg (by omega), if_pos (by omega), Nat.add_sub_cancel]
        exact ei
  · rw [r2, r2]
    by_cases zi : i = pos
    · subst zi
      have ex : x = ne := (nI_eq (by omega) (by omega)).mp (ei.symm.trans new)
      obtain ⟨j', hj', e, o⟩ := old j hj (by omega)
      obtain ⟨l, hl, el⟩ := hI.1 j' hj'
      have ey : y = l := (nI_eq (by omega) (by omega)).mp (ej.symm.trans (e.trans el))
      have := h4 j' (by omega) hj'
      rw [el, ur l hl] at this
      rw [if_pos ex, if_neg (show ¬ y = ne by omega), ey]
      exact Or.inl (Int32.not_le.mp this)
    · obtain ⟨i', hi', e, o⟩ := old i (by omega) zi
      obtain ⟨l, hl, el⟩ := hI.1 i' hi'
      have ex : x = l := (nI_eq (by omega) (by omega)).mp (ei.symm.trans (e.trans el))
      by_cases zj : j = pos
      · subst zj
        have ey : y = ne := (nI_eq (by omega) (by omega)).mp (ej.symm.trans new)
        rw [if_neg (show ¬ x = ne by omega), if_pos ey, ex]
        have hle : c ≤ Le 2 l := by
          have h3 := h3.resolve_left (by omega)
          obtain ⟨l2, hl2, el2⟩ := hI.1 (j - 1) (by omega)
          rw [el2, ur l2 hl2] at h3
          have hii : i' = i := by omega
          subst hii
          by_cases q : i' = j - 1
          · have : l = l2 := (nI_eq (by omega) (by omega)).mp (by rw [← el, ← el2, q])
            rw [this]; exact h3
          · rcases hI.2.2 i' (j - 1) l l2 (by omega) (by omega) hl hl2 el el2 with w | ⟨w, -⟩
            · exact Int32.le_of_lt (Int32.lt_of_le_of_lt h3 w)
            · rw [← w]; exact h3
        rcases Int32.lt_or_eq_of_le hle with w | w
        · exact Or.inl w
        · exact Or.inr ⟨w, by omega⟩
      · obtain ⟨j', hj', e2, o2⟩ := old j hj zj
        obtain ⟨l2, hl2, el2⟩ := hI.1 j' hj'
        have ey : y = l2 := (nI_eq (by omega) (by omega)).mp (ej.symm.trans (e2.trans el2))
        rw [if_neg (show ¬ x = ne by omega), if_neg (show ¬ y = ne by omega), ex, ey]
        exact hI.2.2 i' j' l l2 (by omega) hj' hl hl2 el el2
theorem po_rel {W Ld Lm Le L : Fm} {hou cro a b c : Int32} {ns nr nm ne h : Nat} (hS : SY W Ld Lm Le hou cro L ns nr nm ne h) : (ppo L ns ne a b c).2.1 = nI (kPO ns ne a b c) ∧ (¬ kPO ns ne a b c = 0 → (ppo L ns ne a b c).2.2 = (ne, L)) ∧ (kPO ns ne a b c = 0 → (ppo L ns ne a b c).1 = nI ne ∧ (ppo L ns ne a b c).2.2.1 = ne + 1 ∧ SY W Ld Lm (poC Le ne a b c hou) hou cro (ppo L ns ne a b c).2.2.2 ns nr nm (ne + 1) h) := by
  obtain ⟨⟨hL, hY, hU, hn, hO, hV, hI, hD, hM, hE, hh, h0, h1⟩, hB⟩ := hS
  have h10 := hL.1
  unfold ppo kPO
  by_cases c1 : inB a 0 (nI ns - 1) = true
  · rw [if_pos c1, if_pos c1]
    by_cases c2 : inB b 0 (nI ns - 1) = true
    · rw [if_pos c2, if_pos c2]
      by_cases c3 : a = b
      · rw [if_pos c3, if_pos c3]
        exact ⟨rfl, fun _ => rfl, fun q => absurd q (by decide)⟩
      · rw [if_neg c3, if_neg c3]
        by_cases c4 : inB c 0 9 = true
        · rw [if_pos c4, if_pos c4]
          by_cases c5 : ne < 60
          · rw [if_pos (show nI ne < 60 from nI_lt (b := 60) c5 (by decide)), if_neg (fun q => by have := (nI_eq (b := 60) (by omega) (by decide)).mp q; omega)]
            refine ⟨rfl, fun q => absurd rfl q, fun _ => ⟨rfl, rfl, ?_⟩⟩
            obtain ⟨x, hx, rfl⟩ := inB_vd (by omega) c1
            obtain ⟨y, hy, rfl⟩ := inB_vd (by omega) c2
            have at' : ∀ w j, w < 10 → poC Le ne (nI x) (nI y) c hou w j = if j = ne then ar11 (nI x) (nI y) c hou w else Le w j := fun w j hw => poC_at c5 hw
            have nE : rE (poC Le ne (nI x) (nI y) c hou) (poT L ne (nI x) (nI y) c) (ne + 1) := fun j w hj hw => by
              have ehr : rg 2 (L 5) 0 = hou := h0.trans hh.symm
              unfold col
              rw [if_pos ⟨by omega, hw⟩, po4 c5, ehr]
              by_cases q : j = ne
              · subst q
                rw [if_pos (by omega), show 0 + (11 * j + w - 11 * j) = w by omega]
                unfold pcf
                rw [at' 6 j (by decide), if_pos rfl]
                by_cases w6 : w = 6
                · rw [if_pos w6, w6]; rfl
                · rw [if_neg w6]
                  by_cases w10 : w = 10
                  · rw [if_pos w10, w10]; rfl
                  · rw [if_neg w10, at' w j (by omega), if_pos rfl]
              · rw [if_neg (by omega)]
                have b := hE j w (by omega) hw
                unfold col at b
                rw [if_pos ⟨by omega, hw⟩] at b
                rw [b]
                unfold pcf
                rw [at' 6 j (by decide), if_neg q]
                by_cases w6 : w = 6
                · rw [if_pos w6, if_pos w6]
                · rw [if_neg w6, if_neg w6]
                  by_cases w10 : w = 10
                  · rw [if_pos w10, if_pos w10]
                  · rw [if_neg w10, if_neg w10, at' w j (by omega), if_neg q]
            have nO : okE (poC Le ne (nI x) (nI y) c hou) ns nm (ne + 1) := fun k hk => by
              by_cases q : k = ne
              · subst q
                refine ⟨⟨x, hx, ?_⟩, ⟨y, hy, ?_⟩, Or.inl ?_, Or.inr ⟨Or.inl ⟨?_, ?_⟩, ?_, x, hx, ?_⟩⟩
                · show poC Le k (nI x) (nI y) c hou 0 k = _
                  rw [at' 0 k (by decide), if_pos rfl]; rfl
                · show poC Le k (nI x) (nI y) c hou 1 k = _
                  rw [at' 1 k (by decide), if_pos rfl]; rfl
                · show poC Le k (nI x) (nI y) c hou 7 k = _
                  rw [at' 7 k (by decide), if_pos rfl]; rfl
                · show poC Le k (nI x) (nI y) c hou 3 k = _
                  rw [at' 3 k (by decide), if_pos rfl]; rfl
                · show poC Le k (nI x) (nI y) c hou 9 k = _
                  rw [at' 9 k (by decide), if_pos rfl]; rfl
                · show poC Le k (nI x) (nI y) c hou 5 k = _
                  rw [at' 5 k (by decide), if_pos rfl]; rfl
                · show poC Le k (nI x) (nI y) c hou 4 k = _
                  rw [at' 4 k (by decide), if_pos rfl]; rfl
              · exact okE1_cg (fun w hw _ => by rw [at' w k hw, if_neg q]) (hO k (by omega))
            have nV : mvI (poC Le ne (nI x) (nI y) c hou) Lm nm (ne + 1) := fun l m hl hm z1 z2 => by
              rw [at' 3 l (by decide)] at z1
              rw [at' 5 l (by decide)] at z2
              by_cases q : l = ne
              · rw [if_pos q] at z1
                exact absurd (show (0 : Int32) = 1 from z1) (by decide)
              · rw [if_neg q] at z1 z2
                exact hV l m (by omega) hm z1 z2
            exact ⟨⟨hL, hY, hU, by omega, nO, nV, okO_post c5 hI, rD_of hD rfl rfl rfl, rM_of hM rfl, nE, hh, h0, h1⟩, hB.1, hB.2⟩
          · have e : ne = 60 := by omega
            subst e
            rw [if_neg (show ¬ nI 60 < 60 by decide), if_pos (show nI 60 = 60 by decide)]
            exact ⟨rfl, fun _ => rfl, fun q => absurd q (by decide)⟩
        · rw [if_neg c4, if_neg c4]
          exact ⟨rfl, fun _ => rfl, fun q => absurd q (by decide)⟩
    · rw [if_neg c2, if_neg c2]
      exact ⟨rfl, fun _ => rfl, fun q => absurd q (by decide)⟩
  · rw [if_neg c1, if_neg c1]
    exact ⟨rfl, fun _ => rfl, fun q => absurd q (by decide)⟩
/-! a recall -/
theorem bW_0 (s : Int32) : bW 0 s = (1 : Int32) <<< (s &&& 31) := by
  unfold bW
  refine btz_ext fun i hi => ?_
  rw [btz_or, btz_0, Bool.false_or]
theorem ev_eq {Ld L : Fm} {ns nr : Nat} {fog s : Int32} (hn : ns ≤ 10) (h : rD Ld L ns nr) : ∀ k, evM L ns fog (bW 0 s) k = evF Ld ns fog s k
  | 0 => rfl
  | k + 1 => by rw [evM, evF, litM_eq hn h, ev_eq hn h k]
theorem end_iff {Le : Fm} {ns nm ne l : Nat} (hO : okE Le ns nm ne) (hn : ne ≤ 60) (hl : l < ne) : (endedC Le (nI l) = true ↔ ¬ Le 9 l = -1) ∧ (Le 9 l = -1 ↔ Le 3 l ≤ 1) := by
  have e9 : rg 60 (Le 9) (nI l) = Le 9 l := rg_k (by omega) (by decide)
  refine ⟨by unfold endedC; rw [e9]; simp, ?_⟩
  obtain ⟨-, -, -, o⟩ := hO l hl
  rcases o with ⟨o3, -, o9⟩ | ⟨o, -⟩
  · have o3 : Le 3 l = 1 := o3
    have o9 : Le 9 l = -1 := o9
    rw [o3, o9]; decide
  · rcases o with ⟨o3, o9⟩ | ⟨o3, h, hh, o9⟩
    · have o3 : Le 3 l = 0 := o3
      have o9 : Le 9 l = -1 := o9
      rw [o3, o9]; decide
    · have o3 : Le 3 l = 2 ∨ Le 3 l = 3 := o3
      have o9 : Le 9 l = nI h := o9
      rw [o9]
      constructor
      · intro q; exact absurd q (n_m1 (by omega))
      · intro q
        rcases o3 with z | z <;> rw [z] at q <;> exact absurd q (by decide)
theorem rc_rel {W Ld Lm Le L : Fm} {hou cro fog l : Int32} {ns nr nm ne h : Nat} (hS : SY W Ld Lm Le hou cro L ns nr nm ne h) : (prc L ns fog ne l).2.1 = nI (kRC Le ne l) ∧ (¬ kRC Le ne l = 0 → (prc L ns fog ne l).2.2 = L) ∧ (kRC Le ne l = 0 → (prc L ns fog ne l).1 = bitC (evF Ld ns fog (rg 60 (Le 0) l) ns) - 1 ∧ SY W Ld Lm (sr Le 6 (rs 60 (Le 6) l (bW 0 (rg 60 (Le 0) l)))) hou cro (prc L ns fog ne l).2.2 ns nr nm ne h) := by
  obtain ⟨⟨hL, hY, hU, hn, hO, hV, hI, hD, hM, hE, hh, h0, h1⟩, hB⟩ := hS
  have h10 := hL.1
  unfold prc kRC
  by_cases c1 : inB l 0 (nI ne - 1) = true
  · rw [if_pos c1, if_pos c1]
    obtain ⟨k, hk, rfl⟩ := inB_vd (by omega) c1
    have hk60 : k < 60 := by omega
    have e6 : leM L (nI k) 6 = z2 (!(Le 6 k == 0)) := rE_le (c := 6) hE hn hk (by decide)
    have e3 : leM L (nI k) 3 = Le 3 k := rE_le (c := 3) hE hn hk (by decide)
    have hrec := isRec_iff (L := Le) hk60
    obtain ⟨hend, hle⟩ := end_iff hO hn hk
    have q6 : leM L (nI k) 6 = 1 ↔ isRecC Le (nI k) = true := by
      rw [e6, hrec, z2_1]
      simp
    rw [e3]
    by_cases c2 : isRecC Le (nI k) = true
    · rw [if_pos c2, if_pos (q6.mpr c2)]
      exact ⟨rfl, fun _ => rfl, fun q => absurd q (by decide)⟩
    · rw [if_neg c2, if_neg (fun q => c2 (q6.mp q))]
      by_cases c3 : endedC Le (nI k) = true
      · rw [if_pos c3, if_neg (fun q => hend.mp c3 (hle.mpr q))]
        exact ⟨rfl, fun _ => rfl, fun q => absurd q (by decide)⟩
      · have c4 : Le 9 k = -1 := Classical.byContradiction fun q => c3 (hend.mpr q)
        rw [if_neg c3, if_pos (hle.mp c4)]
        refine ⟨rfl, fun q => absurd rfl q, fun _ => ?_⟩
        obtain ⟨⟨x, hx, ex⟩, -⟩ := hO k hk
        have ex : Le 0 k = nI x := ex
        have g0 : rg 60 (Le 0) (nI k) = nI x := by rw [rg_k hk60 (by decide)]; exact ex
        have z0 : leM (seM L (nI k) 6 1) (nI k) 0 = nI x := by
          rw [show leM (seM L (nI k) 6 1) (nI k) 0 = col (seM L (nI k) (nI 6) 1) k 0 from le_col hk60 (by decide), col_se hk60 (by decide), put_c (by decide), hE k 0 hk (by decide)]
          exact ex
        have er : rc1 L (nI k) = seM (seM L (nI k) (nI 6) 1) (nI k) (nI 10) (bW 0 (nI x)) := by
          unfold rc1
          rw [z0, bW_0]
          rfl
        have z10 : leM (rc1 L (nI k)) (nI k) 10 = bW 0 (nI x) := by
          rw [show leM (rc1 L (nI k)) (nI k) 10 = col (rc1 L (nI k)) k 10 from le_col hk60 (by decide), er, col_se hk60 (by decide), put_s]
        have rr : ∀ i, i ≠ 4 → rc1 L (nI k) i = L i := fun i hi => by rw [er]; unfold seM; rw [sr_n hi, sr_n hi]
        have nD : rD Ld (rc1 L (nI k)) ns nr := rD_of hD (rr 0 (by decide)) (rr 1 (by decide)) (rr 2 (by decide))
        have nb : ¬ bW 0 (nI x) = 0 := fun q => by
          have := btz_one x (by omega) x (by omega)
          rw [← bW_0, q, btz_0, decide_eq_true (rfl : x = x)] at this
          exact Bool.noConfusion this
        rw [g0]
        refine ⟨?_, ⟨hL, hY, hU, hn, fun j hj => okE1_cg (fun c _ h6 => by rw [sr_n h6]) (hO j hj), hV, okO_of hI rfl rfl, nD, rM_of hM (rr 3 (by decide)), ?_, hh, by show rg 2 (rc1 L (nI k) 5) 0 = _; rw [rr 5 (by decide)]; exact h0, by show rg 2 (rc1 L (nI k) 5) 1 = _; rw [rr 5 (by decide)]; exact h1⟩, hB.1, fun j a b => by show Ld 1 j = 0 ∧ rc1 L (nI k) 1 j = 0; rw [rr 1 (by decide)]; exact hB.2 j a b⟩
        · show bitC (evM (rc1 L (nI k)) ns fog (leM (rc1 L (nI k)) (nI k) 10) ns) - 1 = _
          rw [z10, ev_eq h10 nD]
        · show rE _ (rc1 L (nI k)) ne
          intro j c hj hc
          rw [er, col_se hk60 (by decide), col_se hk60 (by decide), pcf_6 hk60 nb]
          have b := hE j c hj hc
          unfold put
          repeat' split
          all_goals first | rfl | exact b | omega
  · rw [if_neg c1, if_neg c1]
    exact ⟨rfl, fun _ => rfl, fun q => absurd q (by decide)⟩
