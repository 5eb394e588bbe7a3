/-! crosses, and a mule that sets out -/
theorem ro_at {L : Fm} {k c : Nat} (hk : k < 15) (hc : c < 3) : roM L (nI k) (nI c) = L 2 (3 * k + c) := by
  unfold roM
  rw [show (3 : Int32) = nI 3 from rfl, pk_mul, nI_add]
  exact rg_k (by omega) (by decide)
theorem ro_eq {Ld L : Fm} {ns nr k c : Nat} (hD : rD Ld L ns nr) (h15 : nr ≤ 15) (hk : k < nr) (hc : c < 3) : roM L (nI k) (nI c) = Ld (2 + c) k := by rw [ro_at (by omega) hc]; exact hD.2 k c hk hc
theorem oth_eq {Ld L : Fm} {ns nr k : Nat} {s : Int32} (hD : rD Ld L ns nr) (h15 : nr ≤ 15) (hk : k < nr) : othM L (nI k) s = othC Ld (nI k) s := by
  have e0 : roM L (nI k) 0 = Ld 2 k := ro_eq (c := 0) hD h15 hk (by decide)
  have e1 : roM L (nI k) 1 = Ld 3 k := ro_eq (c := 1) hD h15 hk (by decide)
  unfold othM othC
  rw [e0, e1, rg_k (by omega) (by decide), rg_k (by omega) (by decide)]
  by_cases h : s = Ld 2 k
  · rw [if_pos h, if_pos h.symm]
  · rw [if_neg h, if_neg (fun q => h q.symm)]
theorem oth_vd {Ld : Fm} {ns nr k : Nat} {s : Int32} (hL : okL Ld ns nr) (hk : k < nr) : ∃ x, x < ns ∧ othC Ld (nI k) s = nI x := by
  obtain ⟨a, b, w, ha, hb, -, -, -, e2, e3, -⟩ := hL.2.2.2 k hk
  have h15 := hL.2.1
  unfold othC
  rw [rg_k (by omega) (by decide), rg_k (by omega) (by decide)]
  split
  · exact ⟨b, hb, e3⟩
  · exact ⟨a, ha, e2⟩
theorem hrs_eq {Ld L : Fm} {ns nr k f : Nat} (hL : okL Ld ns nr) (hD : rD Ld L ns nr) (hk : k < nr) (hf : f < ns) : hrsM L (nI k) (nI f) = hrsC Ld (nI k) (nI f) (othC Ld (nI k) (nI f)) := by
  have h10 := hL.1
  have h15 := hL.2.1
  obtain ⟨x, hx, ex⟩ := oth_vd (s := nI f) hL hk
  have e2 : roM L (nI k) 2 = Ld 4 k := ro_eq (c := 2) hD h15 hk (by decide)
  unfold hrsM hrsC
  rw [oth_eq hD h15 hk, ex, e2, rg_k (f := L 0) (by omega) (by decide), rg_k (f := L 0) (by omega) (by decide), rg_k (f := Ld 0) (by omega) (by decide), rg_k (f := Ld 0) (by omega) (by decide), rg_k (f := Ld 4) (by omega) (by decide), (hD.1 x hx).1, (hD.1 f hf).1]
/-- the two ends of a mule's road -/
theorem ends_at {Ld Lm : Fm} {ns nr k r : Nat} (hL : okL Ld ns nr) (hr : r < nr) (hpl : Lm 2 k = Ld 2 r ∨ Lm 2 k = Ld 3 r) : ∃ p q x, p < ns ∧ q < ns ∧ p ≠ q ∧ Lm 2 k = nI p ∧ othC Ld (nI r) (nI p) = nI q ∧ 1 ≤ x ∧ x ≤ 40 ∧ hrsC Ld (nI r) (nI p) (nI q) = nI x ∧ ((Ld 2 r = nI p ∧ Ld 3 r = nI q) ∨ (Ld 2 r = nI q ∧ Ld 3 r = nI p)) := by
  obtain ⟨a, b, w, ha, hb, hab, hw1, hw2, e2, e3, e4⟩ := hL.2.2.2 r hr
  have h10 := hL.1
  have h15 := hL.2.1
  have r2 : rg 15 (Ld 2) (nI r) = nI a := by rw [rg_k (by omega) (by decide)]; exact e2
  have r3 : rg 15 (Ld 3) (nI r) = nI b := by rw [rg_k (by omega) (by decide)]; exact e3
  rcases hpl with z | z
  · obtain ⟨x, hx1, hx2, ex⟩ := hrs_at hL hr ha hb hw1 hw2 e4
    refine ⟨a, b, x, ha, hb, hab, z.trans e2, ?_, hx1, hx2, ex, Or.inl ⟨e2, e3⟩⟩
    unfold othC
    rw [r2, if_pos rfl, r3]
  · obtain ⟨x, hx1, hx2, ex⟩ := hrs_at hL hr hb ha hw1 hw2 e4
    refine ⟨b, a, x, hb, ha, fun e => hab e.symm, z.trans e3, ?_, hx1, hx2, ex, Or.inr ⟨e2, e3⟩⟩
    unfold othC
    rw [r2, if_neg (fun e => hab ((nI_eq (by omega) (by omega)).mp e).symm)]
/-- the reference's count of crosses -/
def crP (L : Fm) (r fr one : Int32) (o : Nat) : Bool := !(leM L (nI o) 5 == -1) && (muM L (leM L (nI o) 5) 0 == r && (!(muM L (leM L (nI o) 5) 3 == 0) && (muM L (leM L (nI o) 5) 2 == fr && (leM L one 0 == leM L (nI o) 1 && leM L (nI o) 0 == leM L one 1))))
theorem n5_1 {f : Nat → Int32} {v : Int32} : rg 2 (rs 2 f 1 v) 1 = v := by
  rw [show (1 : Int32) = nI 1 from rfl, rs_k (by decide) (by decide), rg_k (by decide) (by decide)]
  exact pk_us
theorem n5_0 {f : Nat → Int32} {v : Int32} : rg 2 (rs 2 f 1 v) 0 = rg 2 f 0 := by
  rw [show (1 : Int32) = nI 1 from rfl, show (0 : Int32) = nI 0 from rfl, rs_k (by decide) (by decide), rg_k (by decide) (by decide), rg_k (by decide) (by decide)]
  exact pk_un (by decide)
theorem crI_val {L : Fm} {r fr one : Int32} : ∀ k, rg 2 (crI L r fr one k 5) 1 = rg 2 (L 5) 1 + cI (crP L r fr one) k ∧ rg 2 (crI L r fr one k 5) 0 = rg 2 (L 5) 0
  | 0 => ⟨(Int32.add_zero _).symm, rfl⟩
  | k + 1 => by
    obtain ⟨i1, i2⟩ := crI_val (L := L) (r := r) (fr := fr) (one := one) k
    have el : ∀ x c, leM (crI L r fr one k) x c = leM L x c := fun x c => by unfold leM; rw [crI_r (by decide)]
    have em : ∀ x c, muM (crI L r fr one k) x c = muM L x c := fun x c => by unfold muM; rw [crI_r (by decide)]
    have no : crP L r fr one k = false → rg 2 (crI L r fr one k 5) 1 = rg 2 (L 5) 1 + cI (crP L r fr one) (k + 1) ∧ rg 2 (crI L r fr one k 5) 0 = rg 2 (L 5) 0 := fun h => by
      rw [cI, if_neg (by rw [h]; exact Bool.false_ne_true)]
      exact ⟨i1, i2⟩
    rw [crI]
    simp only [el, em]
    by_cases c1 : leM L (nI k) 5 = -1
    · rw [if_pos c1]
      exact no (by unfold crP; rw [c1]; rfl)
    · rw [if_neg c1]
      by_cases c2 : muM L (leM L (nI k) 5) 0 = r
      · rw [if_pos c2]
        by_cases c3 : muM L (leM L (nI k) 5) 3 = 0
        · rw [if_pos c3]
          exact no (by unfold crP; rw [c3]; simp)
        · rw [if_neg c3]
          by_cases c4 : muM L (leM L (nI k) 5) 2 = fr
          · rw [if_pos c4]
            by_cases c5 : leM L one 0 = leM L (nI k) 1
            · rw [if_pos c5]
              by_cases c6 : leM L (nI k) 0 = leM L one 1
              · rw [if_pos c6, sr_s, n5_1, n5_0, i1, i2, cI, if_pos (by unfold crP; simp [c1, c2, c3, c4, c5, c6]), Int32.add_assoc]
                exact ⟨rfl, rfl⟩
              · rw [if_neg c6]
                exact no (by unfold crP; simp [c6])
            · rw [if_neg c5]
              exact no (by unfold crP; simp [c5])
          · rw [if_neg c4]
            exact no (by unfold crP; simp [c4])
      · rw [if_neg c2]
        exact no (by unfold crP; simp [c2])
theorem crP_cg {L X : Fm} {r fr one : Int32} (h3 : X 3 = L 3) (h4 : X 4 = L 4) : crP X r fr one = crP L r fr one := by
  funext o
  unfold crP leM muM
  rw [h3, h4]
theorem crO_val {M X L : Fm} {ne m : Nat} {r fr cr : Int32} (h0 : rg 2 (L 5) 1 = cr) (hw : ∀ k, k < ne → (withC X (nI k) (nI m) = true ↔ leM L (nI k) 5 = nI m)) (hc : ∀ k, k < ne → withC X (nI k) (nI m) = true → crsC M X ne (nI k) (nI m) = cI (crP L r fr (nI k)) ne) : ∀ k, k ≤ ne → rg 2 (crO L (nI m) r fr ne k 5) 1 = crF M X ne (nI m) cr k ∧ rg 2 (crO L (nI m) r fr ne k 5) 0 = rg 2 (L 5) 0
  | 0, _ => ⟨h0, rfl⟩
  | k + 1, hk => by
    obtain ⟨i1, i2⟩ := crO_val h0 hw hc k (by omega)
    have e4 : crO L (nI m) r fr ne k 4 = L 4 := crO_r (by decide) k
    have e3 : crO L (nI m) r fr ne k 3 = L 3 := crO_r (by decide) k
    have el : leM (crO L (nI m) r fr ne k) (nI k) 5 = leM L (nI k) 5 := by unfold leM; rw [e4]
    rw [crO, crF, el]
    by_cases c : leM L (nI k) 5 = nI m
    · have c2 := (hw k (by omega)).mpr c
      obtain ⟨j1, j2⟩ := crI_val (L := crO L (nI m) r fr ne k) (r := r) (fr := fr) (one := nI k) ne
      rw [if_pos c, if_pos c2, j1, j2, i1, i2, crP_cg e3 e4, hc k (by omega) c2]
      exact ⟨rfl, rfl⟩
    · rw [if_neg c, if_neg (fun q => c ((hw k (by omega)).mp q))]
      exact ⟨i1, i2⟩
theorem out_at {Ld M : Fm} {m p r q x : Nat} (hm : m < 12) (e2 : M 2 m = nI p) (e0 : M 0 m = nI r) (eo : othC Ld (nI r) (nI p) = nI q) (eh : hrsC Ld (nI r) (nI p) (nI q) = nI x) : outM Ld M (nI m) = sr (sr M 2 (rs 12 (M 2) (nI m) (nI q))) 3 (rs 12 (M 3) (nI m) (nI x)) := by
  unfold outM
  rw [rg_k (f := M 2) hm (by decide), rg_k (f := M 0) hm (by decide), e2, e0, eo, eh]
theorem out_row {M : Fm} {m : Nat} {u v : Int32} (hm : m < 12) (c j : Nat) : sr (sr M 2 (rs 12 (M 2) (nI m) u)) 3 (rs 12 (M 3) (nI m) v) c j = if j = m ∧ c = 2 then u else if j = m ∧ c = 3 then v else M c j := by
  rw [sr_at, rs_k hm (by decide), sr_at, rs_k hm (by decide)]
  by_cases h3 : c = 3
  · rw [if_pos h3, h3]
    by_cases e : j = m
    · rw [if_neg (by omega), if_pos ⟨e, rfl⟩, e]; exact pk_us
    · rw [if_neg (by omega), if_neg (by omega)]; exact pk_un e
  · rw [if_neg h3]
    by_cases h2 : c = 2
    · rw [if_pos h2, h2]
      by_cases e : j = m
      · rw [if_pos ⟨e, rfl⟩, e]; exact pk_us
      · rw [if_neg (by omega), if_neg (by omega)]; exact pk_un e
    · rw [if_neg h2, if_neg (by omega), if_neg (by omega)]
/-- two letters that meet: the class's test and the reference's -/
theorem crs_eq {Ld Lm X L : Fm} {ns nr nm ne m p q r : Nat} (hL : okL Ld ns nr) (hU : okU Lm Ld nr nm) (hn : ne ≤ 60) (hm : m < nm) (hE : rE X L ne) (hM : rM Lm L nm) (hO : okE X ns nm ne) (hp : p < ns) (hq : q < ns) (hpq : p ≠ q) (e2 : Lm 2 m = nI p) (e0 : Lm 0 m = nI r) (e3 : Lm 3 m = 0) (hends : (Ld 2 r = nI p ∧ Ld 3 r = nI q) ∨ (Ld 2 r = nI q ∧ Ld 3 r = nI p)) (hr : r < nr)
    (hV : ∀ l w, l < ne → w < nm → X 3 l = 1 → X 5 l = nI w → w ≠ m → ¬ Lm 3 w = 0) {N : Fm} (hN : ∀ c j, N c j = if j = m ∧ c = 2 then nI q else if j = m ∧ c = 3 then N 3 m else Lm c j) {k : Nat} (hk : k < ne) : crsC N X ne (nI k) (nI m) = cI (crP L (nI r) (nI p) (nI k)) ne := by
  have h12 := hU.1
  have h10 := hL.1
  have h15 := hL.2.1
  unfold crsC
  refine cI_cg ne fun o ho => ?_
  have l5 : leM L (nI o) 5 = X 5 o := rE_le (c := 5) hE hn ho (by decide)
  have l0 : leM L (nI o) 0 = X 0 o := rE_le (c := 0) hE hn ho (by decide)
  have l1 : leM L (nI o) 1 = X 1 o := rE_le (c := 1) hE hn ho (by decide)
  have k0 : leM L (nI k) 0 = X 0 k := rE_le (c := 0) hE hn hk (by decide)
  have k1 : leM L (nI k) 1 = X 1 k := rE_le (c := 1) hE hn hk (by decide)
  have g : ∀ c j, j < ne → rg 60 (X c) (nI j) = X c j := fun c j hj => rg_k (by omega) (by decide)
  unfold crP ansC
  rw [l5, l0, l1, k0, k1, g 3 o ho, g 0 o ho, g 1 k hk, g 0 k hk, g 1 o ho, g 5 o ho]
  obtain ⟨-, -, -, oo⟩ := hO o ho
  rcases oo with ⟨q3, ⟨w, hw, q5⟩, -⟩ | ⟨q3, q5, -⟩
  · have q3 : X 3 o = 1 := q3
    have q5 : X 5 o = nI w := q5
    have m0 : muM L (nI w) 0 = Lm 0 w := rM_mu (c := 0) hM h12 hw (by decide)
    have m3 : muM L (nI w) 3 = Lm 3 w := rM_mu (c := 3) hM h12 hw (by decide)
    have m2 : muM L (nI w) 2 = Lm 2 w := rM_mu (c := 2) hM h12 hw (by decide)
    have n1 : (nI w == (-1 : Int32)) = false := beq_eq_false_iff_ne.mpr (n_m1 (by omega))
    have N0 : ∀ j, N 0 j = Lm 0 j := fun j => by rw [hN, if_neg (by omega), if_neg (by omega)]
    unfold oppC
    rw [q3, q5, m0, m3, m2, n1, rg_k (f := N 0) (by omega) (by decide), rg_k (f := N 0) (by omega) (by decide), rg_k (f := N 2) (by omega) (by decide), rg_k (f := N 2) (by omega) (by decide), N0, N0, e0, hN 2 m, if_pos ⟨rfl, rfl⟩]
    by_cases z : w = m
    · subst z
      rw [hN 2 w, if_pos ⟨rfl, rfl⟩, e3]
      simp
    · have v3 := hV o w ho hw q3 q5 z
      rw [hN 2 w, if_neg (by omega), if_neg (by omega)]
      by_cases y : Lm 0 w = nI r
      · obtain ⟨⟨r2, hr2, er2, epl⟩, -⟩ := hU.2 w hw
        have : r2 = r := (nI_eq (by omega) (by omega)).mp (er2.symm.trans y)
        subst this
        have pl : Lm 2 w = nI p ∨ Lm 2 w = nI q := by
          rcases hends with ⟨a, b⟩ | ⟨a, b⟩
          · rcases epl with z | z
            · exact Or.inl (z.trans a)
            · exact Or.inr (z.trans b)
          · rcases epl with z | z
            · exact Or.inr (z.trans a)
            · exact Or.inl (z.trans b)
        have npq : ¬ nI p = nI q := fun e => hpq ((nI_eq (by omega) (by omega)).mp e)
        rcases pl with z2 | z2
        · rw [y, z2]
          simp only [beq_self_eq_true, Bool.true_and, Bool.not_false, beq_eq_false_iff_ne.mpr v3, beq_eq_false_iff_ne.mpr npq, Bool.and_true]
          exact Bool.and_comm _ _
        · rw [y, z2]
          have nqp : ¬ nI q = nI p := fun e => npq e.symm
          simp [nqp]
      · rw [beq_eq_false_iff_ne.mpr y]
        simp
  · have q5 : X 5 o = -1 := q5
    have q3 : (X 3 o == 1) = false := by
      refine beq_eq_false_iff_ne.mpr fun z => ?_
      rcases q3 with ⟨a, -⟩ | ⟨a, -⟩
      · have a : X 3 o = 0 := a
        rw [z] at a; exact absurd a (by decide)
      · have a : X 3 o = 2 ∨ X 3 o = 3 := a
        rw [z] at a; exact absurd a (by decide)
    rw [q3, q5]
    rfl
