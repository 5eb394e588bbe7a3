/-! what the calls tell, side by side -/
theorem i32_mod {k w : Nat} (hk : k < 2 ^ 31) (h0 : 0 < w) (hw : w < 2 ^ 31) : nI k / nI w = nI (k / w) ∧ nI k - nI k / nI w * nI w = nI (k % w) := ⟨pk_div hk h0 hw, pk_rem hk h0 hw⟩
theorem lat_eq {Le L : Fm} {ne c : Nat} {st v : Int32} (hn : ne ≤ 60) (hE : rE Le L ne) (hc : c < 11) (h6 : c ≠ 6) (h10 : c ≠ 10) : latM L ne st (nI c) v = cI (fun k => rg 60 (Le 3) (nI k) == st && rg 60 (Le c) (nI k) == v) ne := by
  unfold latM
  refine cI_cg ne fun k hk => ?_
  have e3 : leM L (nI k) 3 = Le 3 k := rE_le (c := 3) hE hn hk (by decide)
  have ec : leM L (nI k) (nI c) = Le c k := (rE_le (c := c) hE hn hk hc).trans (row_pcf h6 h10).symm
  have n1 : (nI c == (-1 : Int32)) = false := beq_eq_false_iff_ne.mpr (n_m1 (by omega))
  show (leM L (nI k) 3 == st && (nI c == -1 || leM L (nI k) (nI c) == v)) = _
  rw [e3, ec, n1, Bool.false_or, rg_k (by omega) (by decide), rg_k (by omega) (by decide)]
theorem latS_eq {Le L : Fm} {ne : Nat} {st v : Int32} (hn : ne ≤ 60) (hE : rE Le L ne) : latM L ne st (-1) v = inStC Le ne st := by
  unfold latM inStC
  refine cI_cg ne fun k hk => ?_
  have e3 : leM L (nI k) 3 = Le 3 k := rE_le (c := 3) hE hn hk (by decide)
  show (leM L (nI k) 3 == st && ((-1 : Int32) == -1 || leM L (nI k) (-1) == v)) = _
  rw [e3, rg_k (by omega) (by decide), beq_self_eq_true, Bool.true_or, Bool.and_true]
theorem st_eq {Ld Lm Le L : Fm} {fog : Int32} {ns nr nm ne s : Nat} {w : Int32} (h10 : ns ≤ 10) (hU : okU Lm Ld nr nm) (hn : ne ≤ 60) (hD : rD Ld L ns nr) (hM : rM Lm L nm) (hE : rE Le L ne) (hs : s < ns) : stM L fog nm ne (nI s) w = tsC Ld Lm Le fog nm ne (nI s) w := by
  have h12 := hU.1
  unfold stM tsC
  have e0 : rg 10 (L 0) (nI s) = rg 10 (Ld 0) (nI s) := by rw [rg_k (by omega) (by decide), rg_k (by omega) (by decide), (hD.1 s hs).1]
  have e1 : rg 10 (L 1) (nI s) = rg 10 (Ld 1) (nI s) := by rw [rg_k (by omega) (by decide), rg_k (by omega) (by decide), (hD.1 s hs).2]
  have e2 : latM L ne 0 4 (nI s) = waitC Le ne (nI s) := lat_eq (c := 4) hn hE (by decide) (by decide) (by decide)
  have e3 : stdM L nm (nI s) = stndC Lm nm (nI s) := by
    unfold stdM stndC
    refine cI_cg nm fun k hk => ?_
    have m2 : muM L (nI k) 2 = Lm 2 k := rM_mu (c := 2) hM h12 hk (by decide)
    have m3 : muM L (nI k) 3 = Lm 3 k := rM_mu (c := 3) hM h12 hk (by decide)
    obtain ⟨-, -, x, hx, ex⟩ := hU.2 k hk
    have u := uw_iff (M := Lm) (show k < 12 by omega) hx ex
    show (muM L (nI k) 2 == nI s && muM L (nI k) 3 == 0) = (rg 12 (Lm 2) (nI k) == nI s && !(uwC Lm (nI k)))
    rw [m2, m3, rg_k (by omega) (by decide), ex]
    congr 1
    by_cases z : x = 0
    · subst z
      cases q : uwC Lm (nI k) with
      | false => rfl
      | true => exact absurd rfl (u.mp q)
    · rw [u.mpr z, beq_eq_false_iff_ne.mpr (nI_ne0 (by omega) (by omega))]
      rfl
  have e4 : (fog >>> (nI s &&& 31)) &&& 1 = z2 (bH fog (nI s)) := by
    rw [bH_bit (by omega), ← bHm_bit (by omega)]
    unfold bHm z2
    by_cases q : (fog >>> (nI s &&& 31)) &&& 1 = 1
    · rw [decide_eq_true q, if_pos rfl]
      exact q
    · rw [decide_eq_false q, if_neg Bool.false_ne_true]
      refine btz_ext fun i hi => ?_
      rw [btz_and, btz_lit1 i hi, btz_0]
      by_cases z : i = 0
      · subst z
        cases b : btz (fog >>> (nI s &&& 31)) 0 with
        | false => rfl
        | true =>
          exfalso
          apply q
          refine btz_ext fun i hi => ?_
          rw [btz_and, btz_lit1 i hi]
          by_cases y : i = 0
          · subst y; rw [b]; rfl
          · rw [decide_eq_false y, Bool.and_false]
      · rw [decide_eq_false z, Bool.and_false]
  rw [e0, e1, e2, e3, e4]
theorem tr_eq {Ld Lm L : Fm} {ns nr nm r w : Nat} (hL : okL Ld ns nr) (hU : okU Lm Ld nr nm) (hD : rD Ld L ns nr) (hM : rM Lm L nm) (hr : r < nr) (hw : w < 6) : trM L nm (nI r) (nI w) = trC Ld Lm nm (nI r) (nI w) := by
  have h12 := hU.1
  have h15 := hL.2.1
  have h10 := hL.1
  obtain ⟨g1, g2, g3, -, -, r2, r3, -⟩ := gC_at (M := Lm) (nm := nm) hL hr
  have e0 : roM L (nI r) 0 = rg 15 (Ld 2) (nI r) := (ro_eq (c := 0) hD h15 hr (by decide)).trans (rg_k (n := 15) (by omega) (by decide)).symm
  have e1 : roM L (nI r) 1 = rg 15 (Ld 3) (nI r) := (ro_eq (c := 1) hD h15 hr (by decide)).trans (rg_k (n := 15) (by omega) (by decide)).symm
  have h2 : hrsM L (nI r) (rg 15 (Ld 2) (nI r)) = hrsC Ld (nI r) (rg 15 (Ld 2) (nI r)) (rg 15 (Ld 3) (nI r)) := by rw [r2, hrs_eq hL hD hr g1, oth_a hL hr, r3]
  have h3 : hrsM L (nI r) (rg 15 (Ld 3) (nI r)) = hrsC Ld (nI r) (rg 15 (Ld 3) (nI r)) (rg 15 (Ld 2) (nI r)) := by rw [r3, hrs_eq hL hD hr g2, oth_b hL hr, r2]
  have o0 : onM L nm (nI r) 0 = ofRC Lm nm (nI r) := on_eq h12 hM
  have o1 : onM L nm (nI r) 1 = onWC Lm nm (nI r) := by
    unfold onM onWC
    refine cI_cg nm fun k hk => ?_
    have m0 : muM L (nI k) 0 = Lm 0 k := rM_mu (c := 0) hM h12 hk (by decide)
    have m3 : muM L (nI k) 3 = Lm 3 k := rM_mu (c := 3) hM h12 hk (by decide)
    show (muM L (nI k) 0 == nI r && ((1 : Int32) == 0 || !(decide (muM L (nI k) 3 ≤ 0)))) = (rg 12 (Lm 0) (nI k) == nI r && uwC Lm (nI k))
    unfold uwC
    rw [m0, m3, rg_k (by omega) (by decide), rg_k (by omega) (by decide)]
    rfl
  rcases (show w = 0 ∨ w = 1 ∨ w = 2 ∨ w = 3 ∨ w = 4 ∨ w = 5 by omega) with rfl | rfl | rfl | rfl | rfl | rfl
  · show (if (2 : Int32) ≤ nI 0 then _ else roM L (nI r) 0) = _
    rw [if_neg (by decide), e0]; rfl
  · show (if (2 : Int32) ≤ nI 1 then _ else roM L (nI r) 1) = _
    rw [if_neg (by decide), e1]; rfl
  · show (if (2 : Int32) ≤ nI 2 then (if (4 : Int32) ≤ nI 2 then _ else hrsM L (nI r) (roM L (nI r) 0)) else _) = _
    rw [if_pos (by decide), if_neg (by decide), e0, h2]; rfl
  · show (if (2 : Int32) ≤ nI 3 then (if (4 : Int32) ≤ nI 3 then _ else hrsM L (nI r) (roM L (nI r) 1)) else _) = _
    rw [if_pos (by decide), if_neg (by decide), e1, h3]; rfl
  · show (if (2 : Int32) ≤ nI 4 then (if (4 : Int32) ≤ nI 4 then (if nI 4 = 5 then _ else onM L nm (nI r) 0) else _) else _) = _
    rw [if_pos (by decide), if_pos (by decide), if_neg (by decide), o0]; rfl
  · show (if (2 : Int32) ≤ nI 5 then (if (4 : Int32) ≤ nI 5 then (if nI 5 = 5 then onM L nm (nI r) 1 else _) else _) else _) = _
    rw [if_pos (by decide), if_pos (by decide), if_pos (show nI 5 = 5 from rfl), o1]; rfl
theorem tm_eq {Ld Lm Le L : Fm} {nr nm ne m w : Nat} (hU : okU Lm Ld nr nm) (hn : ne ≤ 60) (hM : rM Lm L nm) (hE : rE Le L ne) (hO : ∃ ns, okE Le ns nm ne) (hm : m < nm) (hw : w < 6) : tmM L ne (nI m) (nI w) = tmC Lm Le ne (nI m) (nI w) := by
  have h12 := hU.1
  obtain ⟨ns, hO⟩ := hO
  have g : ∀ c, c < 5 → muM L (nI m) (nI c) = rg 12 (Lm c) (nI m) := fun c hc => (rM_mu hM h12 hm hc).trans (rg_k (by omega) (by decide)).symm
  have e4 : latM L ne 1 5 (nI m) = carrC Le ne (nI m) := lat_eq (c := 5) hn hE (by decide) (by decide) (by decide)
  rcases (show w = 0 ∨ w = 1 ∨ w = 2 ∨ w = 3 ∨ w = 4 ∨ w = 5 by omega) with rfl | rfl | rfl | rfl | rfl | rfl
  · show (if (4 : Int32) ≤ nI 0 then _ else muM L (nI m) (nI 0)) = _
    rw [if_neg (by decide), g 0 (by decide)]; rfl
  · show (if (4 : Int32) ≤ nI 1 then _ else muM L (nI m) (nI 1)) = _
    rw [if_neg (by decide), g 1 (by decide)]; rfl
  · show (if (4 : Int32) ≤ nI 2 then _ else muM L (nI m) (nI 2)) = _
    rw [if_neg (by decide), g 2 (by decide)]; rfl
  · show (if (4 : Int32) ≤ nI 3 then _ else muM L (nI m) (nI 3)) = _
    rw [if_neg (by decide), g 3 (by decide)]; rfl
  · show (if (4 : Int32) ≤ nI 4 then (if nI 4 = 4 then latM L ne 1 5 (nI m) else _) else _) = _
    rw [if_pos (by decide), if_pos (show nI 4 = 4 from rfl), e4]; rfl
  · show (if (4 : Int32) ≤ nI 5 then (if nI 5 = 4 then _ else muM L (nI m) (nI 4)) else _) = _
    rw [if_pos (by decide), if_neg (by decide), g 4 (by decide)]; rfl
theorem tl_eq {Le L : Fm} {ne l w : Nat} (hn : ne ≤ 60) (hE : rE Le L ne) (hl : l < ne) (hw : w < 11) : tlM L (nI l) (nI w) = tlC Le (nI l) (nI w) := by
  have g : ∀ c, c < 11 → leM L (nI l) (nI c) = pcf Le l c := fun c hc => rE_le hE hn hl hc
  have k : ∀ c, rg 60 (Le c) (nI l) = Le c l := fun c => rg_k (by omega) (by decide)
  have isr : isRecC Le (nI l) = !(Le 6 l == 0) := by unfold isRecC; rw [k 6]
  rcases (show w = 0 ∨ w = 1 ∨ w = 2 ∨ w = 3 ∨ w = 4 ∨ w = 5 ∨ w = 6 ∨ w = 7 ∨ w = 8 ∨ w = 9 ∨ w = 10 by omega) with rfl | rfl | rfl | rfl | rfl | rfl | rfl | rfl | rfl | rfl | rfl
  · show leM L (nI l) (nI 0) = rg 60 (Le 0) (nI l)
    rw [g 0 (by decide), k 0]; rfl
  · show leM L (nI l) (nI 1) = rg 60 (Le 1) (nI l)
    rw [g 1 (by decide), k 1]; rfl
  · show leM L (nI l) (nI 2) = rg 60 (Le 2) (nI l)
    rw [g 2 (by decide), k 2]; rfl
  · show leM L (nI l) (nI 3) = rg 60 (Le 3) (nI l)
    rw [g 3 (by decide), k 3]; rfl
  · show leM L (nI l) (nI 4) = rg 60 (Le 4) (nI l)
    rw [g 4 (by decide), k 4]; rfl
  · show leM L (nI l) (nI 5) = rg 60 (Le 5) (nI l)
    rw [g 5 (by decide), k 5]; rfl
  · show leM L (nI l) (nI 6) = z2 (isRecC Le (nI l))
    rw [g 6 (by decide), isr]; rfl
  · show leM L (nI l) (nI 7) = rg 60 (Le 7) (nI l)
    rw [g 7 (by decide), k 7]; rfl
  · show leM L (nI l) (nI 8) = rg 60 (Le 8) (nI l)
    rw [g 8 (by decide), k 8]; rfl
  · show leM L (nI l) (nI 9) = rg 60 (Le 9) (nI l)
    rw [g 9 (by decide), k 9]; rfl
  · show bitC (leM L (nI l) (nI 10)) = bitC (rg 60 (Le 6) (nI l))
    rw [g 10 (by decide), k 6]; rfl
theorem tc_eq {Le L : Fm} {hou cro : Int32} {ns nr nm ne w : Nat} (hn : ne ≤ 60) (hE : rE Le L ne) (h0 : rg 2 (L 5) 0 = hou) (h1 : rg 2 (L 5) 1 = cro) (hw : w < 10) : cnM L ns nr nm ne (nI w) = tcC Le hou cro ns nr nm ne (nI w) := by
  have e : ∀ st : Int32, latM L ne st (-1) 0 = inStC Le ne st := fun st => latS_eq hn hE
  rcases (show w = 0 ∨ w = 1 ∨ w = 2 ∨ w = 3 ∨ w = 4 ∨ w = 5 ∨ w = 6 ∨ w = 7 ∨ w = 8 ∨ w = 9 by omega) with rfl | rfl | rfl | rfl | rfl | rfl | rfl | rfl | rfl | rfl
  · exact h0
  · rfl
  · rfl
  · rfl
  · rfl
  · show latM L ne (nI 5 - 5) (-1) 0 = inStC Le ne 0
    rw [e]; rfl
  · show latM L ne (nI 6 - 5) (-1) 0 = inStC Le ne 1
    rw [e]; rfl
  · show latM L ne (nI 7 - 5) (-1) 0 = inStC Le ne 2
    rw [e]; rfl
  · show latM L ne (nI 8 - 5) (-1) 0 = inStC Le ne 3
    rw [e]; rfl
  · exact h1
/-! sums -/
theorem d31_cg {t u : Nat → Int32} {d : Int64} : ∀ n, (∀ k, k < n → t k = u k) → d31 t d n = d31 u d n
  | 0, _ => rfl
  | n + 1, h => by rw [d31, d31, h n (by omega), d31_cg n (fun k hk => h k (by omega))]
theorem d31_add {t : Nat → Int32} {d : Int64} (a : Nat) : ∀ b, d31 t d (a + b) = d31 (fun k => t (a + k)) (d31 t d a) b
  | 0 => rfl
  | b + 1 => by
    rw [← Nat.add_assoc, d31, d31, d31_add a b]
/-- numbers told one after another, and told row by row -/
theorem d31_62 {t : Nat → Int32} {u : Nat → Nat → Int32} {w : Nat} {d : Int64} : ∀ n, (∀ i k, i < n → k < w → t (i * w + k) = u i k) → d31 t d (n * w) = d62 u w d n
  | 0, _ => by rw [Nat.zero_mul]; rfl
  | n + 1, h => by
    rw [d62, Nat.succ_mul, d31_add, d31_62 n (fun i k hi hk => h i k (by omega) hk)]
    exact d31_cg w (fun k hk => h n k (by omega) hk)
theorem d62_cg {t u : Nat → Nat → Int32} {w : Nat} {d : Int64} : ∀ n, (∀ i k, i < n → k < w → t i k = u i k) → d62 t w d n = d62 u w d n
  | 0, _ => rfl
  | n + 1, h => by
    rw [d62, d62, d62_cg n (fun i k hi hk => h i k (by omega) hk)]
    exact d31_cg w (fun k hk => h n k (by omega) hk)
theorem sum_eq {Le L : Fm} {ne : Nat} (hn : ne ≤ 60) (hE : rE Le L ne) : ∀ k, k ≤ ne → sumM L k = sumH Le k
  | 0, _ => rfl
  | k + 1, hk => by
    have e3 : leM L (nI k) 3 = rg 60 (Le 3) (nI k) := (rE_le (c := 3) hE hn (by omega) (by decide)).trans (rg_k (n := 60) (k := k) (by omega) (by decide)).symm
    have e8 : leM L (nI k) 8 = rg 60 (Le 8) (nI k) := (rE_le (c := 8) hE hn (by omega) (by decide)).trans (rg_k (n := 60) (k := k) (by omega) (by decide)).symm
    have e9 : leM L (nI k) 9 = rg 60 (Le 9) (nI k) := (rE_le (c := 9) hE hn (by omega) (by decide)).trans (rg_k (n := 60) (k := k) (by omega) (by decide)).symm
    rw [sumM, sumH, e3, e8, e9, sum_eq hn hE k (by omega)]
theorem mean_eq {Le L : Fm} {ne : Nat} (hn : ne ≤ 60) (hE : rE Le L ne) : meanM L ne = meanC Le ne := by
  have ec : cntM L ne = inStC Le ne 2 := by
    unfold cntM inStC
    refine cI_cg ne fun k hk => ?_
    have e3 : leM L (nI k) 3 = rg 60 (Le 3) (nI k) := (rE_le (c := 3) hE hn hk (by decide)).trans (rg_k (n := 60) (k := k) (by omega) (by decide)).symm
    show (leM L (nI k) 3 == 2) = _
    rw [e3]
  have ez : inStC Le ne 2 = 0 ↔ inStC Le ne 2 ≤ 0 := cI_zero (by omega)
  unfold meanM meanC
  rw [ec, sum_eq hn hE ne (Nat.le_refl _)]
  by_cases h : inStC Le ne 2 ≤ 0
  · rw [if_pos h, if_pos (ez.mpr h)]
  · rw [if_neg h, if_neg (fun q => h (ez.mp q))]
theorem digest_eq {W Ld Lm Le L : Fm} {hou cro fog : Int32} {ns nr nm ne h : Nat} (hR : REL W Ld Lm Le hou cro L ns nr nm ne h) :
    d31 (fun k => tlC Le (nI k / 11) (nI k - nI k / 11 * 11)) (d31 (fun k => tmC Lm Le ne (nI k / 6) (nI k - nI k / 6 * 6)) (d31 (fun k => trC Ld Lm nm (nI k / 6) (nI k - nI k / 6 * 6)) (d31 (fun k => tsC Ld Lm Le fog nm ne (nI k / 5) (nI k - nI k / 5 * 5)) (d31 (fun k => tcC Le hou cro ns nr nm ne (nI k)) 547 10) (ns * 5)) (nr * 6)) (nm * 6)) (ne * 11) =
    d62 (fun i k => tlM L (nI i) (nI k)) 11 (d62 (fun i k => tmM L ne (nI i) (nI k)) 6 (d62 (fun i k => trM L nm (nI i) (nI k)) 6 (d62 (fun i k => stM L fog nm ne (nI i) (nI k)) 5 (d31 (fun k => cnM L ns nr nm ne (nI k)) 547 10) ns) nr) nm) ne := by
  obtain ⟨hL, -, hU, hn, hO, -, -, hD, hM, hE, hh, h0, h1⟩ := hR
  have h10 := hL.1
  have h15 := hL.2.1
  have h12 := hU.1
  have sp : ∀ i k w n : Nat, i < n → n ≤ 60 → k < w → 0 < w → w ≤ 11 → nI (i * w + k) / nI w = nI i ∧ nI (i * w + k) - nI (i * w + k) / nI w * nI w = nI k := fun i k w n hi hn2 hk h0 hw => by
    have hb : i * w ≤ 60 * 11 := Nat.mul_le_mul (by omega) hw
    obtain ⟨a, b⟩ := i32_mod (k := i * w + k) (w := w) (by omega) h0 (by omega)
    rw [a] at b ⊢
    have d1 : (i * w + k) / w = i := by
      rw [Nat.mul_comm, Nat.mul_add_div h0, Nat.div_eq_of_lt hk, Nat.add_zero]
    have d2 : (i * w + k) % w = k := by
      rw [Nat.mul_comm, Nat.mul_add_mod, Nat.mod_eq_of_lt hk]
    rw [d1] at b ⊢
    rw [d2] at b
    exact ⟨rfl, b⟩
  have e0 : d31 (fun k => tcC Le hou cro ns nr nm ne (nI k)) 547 10 = d31 (fun k => cnM L ns nr nm ne (nI k)) 547 10 := d31_cg 10 (fun k hk => (tc_eq hn hE (h0.trans hh.symm) h1 hk).symm)
  have e1 : ∀ d, d31 (fun k => tsC Ld Lm Le fog nm ne (nI k / 5) (nI k - nI k / 5 * 5)) d (ns * 5) = d62 (fun i k => stM L fog nm ne (nI i) (nI k)) 5 d ns := fun d => d31_62 ns (fun i k hi hk => by
    obtain ⟨a, b⟩ := sp i k 5 ns hi (by omega) hk (by decide) (by decide)
    show tsC Ld Lm Le fog nm ne (nI (i * 5 + k) / nI 5) (nI (i * 5 + k) - nI (i * 5 + k) / nI 5 * nI 5) = _
    rw [b, a]
    exact (st_eq h10 hU hn hD hM hE hi).symm)
  have e2 : ∀ d, d31 (fun k => trC Ld Lm nm (nI k / 6) (nI k - nI k / 6 * 6)) d (nr * 6) = d62 (fun i k => trM L nm (nI i) (nI k)) 6 d nr := fun d => d31_62 nr (fun i k hi hk => by
    obtain ⟨a, b⟩ := sp i k 6 nr hi (by omega) hk (by decide) (by decide)
    show trC Ld Lm nm (nI (i * 6 + k) / nI 6) (nI (i * 6 + k) - nI (i * 6 + k) / nI 6 * nI 6) = _
    rw [b, a]
    exact (tr_eq hL hU hD hM hi hk).symm)
  have e3 : ∀ d, d31 (fun k => tmC Lm Le ne (nI k / 6) (nI k - nI k / 6 * 6)) d (nm * 6) = d62 (fun i k => tmM L ne (nI i) (nI k)) 6 d nm := fun d => d31_62 nm (fun i k hi hk => by
    obtain ⟨a, b⟩ := sp i k 6 nm hi (by omega) hk (by decide) (by decide)
    show tmC Lm Le ne (nI (i * 6 + k) / nI 6) (nI (i * 6 + k) - nI (i * 6 + k) / nI 6 * nI 6) = _
    rw [b, a]
    exact (tm_eq hU hn hM hE ⟨ns, hO⟩ hi hk).symm)
  have e4 : ∀ d, d31 (fun k => tlC Le (nI k / 11) (nI k - nI k / 11 * 11)) d (ne * 11) = d62 (fun i k => tlM L (nI i) (nI k)) 11 d ne := fun d => d31_62 ne (fun i k hi hk => by
    obtain ⟨a, b⟩ := sp i k 11 ne hi (by omega) hk (by decide) (by decide)
    show tlC Le (nI (i * 11 + k) / nI 11) (nI (i * 11 + k) - nI (i * 11 + k) / nI 11 * nI 11) = _
    rw [b, a]
    exact (tl_eq hn hE hi hk).symm)
  rw [e4, e3, e2, e1, e0]
