/-! an hour, and many, side by side -/
def REL (W Ld Lm Le : Fm) (hou cro : Int32) (L : Fm) (ns nr nm ne h : Nat) : Prop := okL Ld ns nr ∧ okY W Ld Lm nr nm ∧ okU Lm Ld nr nm ∧ ne ≤ 60 ∧ okE Le ns nm ne ∧ mvI Le Lm nm ne ∧ okO Le ne ∧ rD Ld L ns nr ∧ rM Lm L nm ∧ rE Le L ne ∧ hou = nI h ∧ rg 2 (L 5) 0 = nI h ∧ rg 2 (L 5) 1 = cro
theorem on_eq {Lm L : Fm} {nm k : Nat} (hn : nm ≤ 12) (hM : rM Lm L nm) : onM L nm (nI k) 0 = ofRC Lm nm (nI k) := by
  unfold onM ofRC
  refine cI_cg nm fun j hj => ?_
  have e : muM L (nI j) 0 = Lm 0 j := rM_mu (c := 0) hM hn hj (by decide)
  rw [e, rg_k (by omega) (by decide)]
  simp
theorem okH_rel {Ld Lm L : Fm} {ns nr nm : Nat} (hL : okL Ld ns nr) (hU : okU Lm Ld nr nm) (hD : rD Ld L ns nr) (hM : rM Lm L nm) : okH (gC Ld Lm nm) L ns nr nm := fun k hk => by
  obtain ⟨g1, g2, g3, ⟨-, g5⟩, ⟨-, g7⟩, r2, r3, r4, r5⟩ := gC_at (M := Lm) (nm := nm) hL hk
  have h15 := hL.2.1
  have h12 := hU.1
  have e0 : roM L (nI k) 0 = Ld 2 k := ro_eq (c := 0) hD h15 hk (by decide)
  have e1 : roM L (nI k) 1 = Ld 3 k := ro_eq (c := 1) hD h15 hk (by decide)
  refine ⟨?_, ?_, ?_, ?_, ?_, g1, g2, g3, g5, g7⟩
  · rw [e0, ← r2, rg_k (by omega) (by decide)]
  · rw [e1, ← r3, rg_k (by omega) (by decide)]
  · rw [hrs_eq hL hD hk g1, oth_a hL hk, r4]
  · rw [hrs_eq hL hD hk g2, oth_b hL hk, r5]
  · rw [on_eq h12 hM]
    have q : (gC Ld Lm nm).1 k = false ↔ ofRC Lm nm (nI k) ≤ 0 := by
      show (!(decide (ofRC Lm nm (nI k) ≤ 0))) = false ↔ _
      simp
    rw [q]
    exact cI_zero (by omega)
theorem rel_W {W Ld Lm L : Fm} {ns nr nm : Nat} (hL : okL Ld ns nr) (hY : okY W Ld Lm nr nm) (hU : okU Lm Ld nr nm) (hD : rD Ld L ns nr) (hM : rM Lm L nm) : rW W (rkM L ns nr nm) := fun a b ha hb => by
  rw [(rkM_at hL.1 (okH_rel hL hU hD hM) (gC_ok hL)).2 a b ha hb, hY.2 a b ha hb]
theorem n0_up {f : Nat → Int32} {v : Int32} : rg 2 (rs 2 f 0 v) 0 = v ∧ rg 2 (rs 2 f 0 v) 1 = rg 2 f 1 := by
  rw [show (1 : Int32) = nI 1 from rfl, show (0 : Int32) = nI 0 from rfl, rs_k (by decide) (by decide), rg_k (by decide) (by decide), rg_k (by decide) (by decide), rg_k (by decide) (by decide)]
  exact ⟨pk_us, pk_un (by decide)⟩
theorem inSt_eq {X Y : Fm} {ne : Nat} (hn : ne ≤ 60) (h : ∀ l, l < ne → (X 3 l = 2 ↔ Y 3 l = 2)) : inStC X ne 2 = inStC Y ne 2 := by
  unfold inStC
  refine cI_cg ne fun l hl => ?_
  rw [rg_k (by omega) (by decide), rg_k (by omega) (by decide), Bool.eq_iff_iff, beq_iff_eq, beq_iff_eq]
  exact h l hl
theorem ho_rel {W Ld Lm Le L : Fm} {hou cro fog : Int32} {ns nr nm ne h : Nat} (hR : REL W Ld Lm Le hou cro L ns nr nm ne h) (hh : h + 1 < 2 ^ 30) : REL W Ld (hoS W Ld ns fog nm ne (Lm, Le, hou, cro)).1 (hoS W Ld ns fog nm ne (Lm, Le, hou, cro)).2.1 (hoS W Ld ns fog nm ne (Lm, Le, hou, cro)).2.2.1 (hoS W Ld ns fog nm ne (Lm, Le, hou, cro)).2.2.2 (hoM L ns fog nr nm ne) ns nr nm ne (h + 1) ∧ (hr1 L ns nr nm ne).2 + inStC Le ne 2 = inStC (hoS W Ld ns fog nm ne (Lm, Le, hou, cro)).2.1 ne 2 := by
  obtain ⟨hL, hY, hU, hn, hO, hV, hI, hD, hM, hE, rfl, h0, h1⟩ := hR
  obtain ⟨R, hRk⟩ : ∃ R, R = rkM L ns nr nm := ⟨_, rfl⟩
  have rr : ∀ i, i ≠ 6 → i ≠ 7 → R i = L i := fun i a b => by rw [hRk]; exact rkM_q L ns nr nm a b
  have hWR : rW W R := by rw [hRk]; exact rel_W hL hY hU hD hM
  obtain ⟨b1, b2, b3, b4, b5, b6, b7, b8, b9⟩ := br_rel hL hU hn hO hV (rM_of hM (rr 3 (by decide) (by decide))) (rE_of hE (rr 4 (by decide) (by decide))) (show rg 2 (R 5) 0 = nI h by rw [rr 5 (by decide) (by decide)]; exact h0) (by omega) nm (Nat.le_refl _)
  obtain ⟨B, hB⟩ : ∃ B, B = brF Lm Le ne (nI h) nm := ⟨_, rfl⟩
  obtain ⟨P, hP⟩ : ∃ P, P = bmF ne R nm := ⟨_, rfl⟩
  have hhr : hr1 L ns nr nm ne = P := by rw [hP, hRk]; rfl
  rw [← hB] at b1 b2 b3 b4 b5 b7 b8 b9
  rw [← hP] at b1 b2 b6 b7
  have pr : ∀ i, i ≠ 3 → i ≠ 4 → i ≠ 6 → i ≠ 7 → P.1 i = L i := fun i a b c d => (b6 i a b).trans (rr i c d)
  have hDP : rD Ld P.1 ns nr := rD_of hD (pr 0 (by decide) (by decide) (by decide) (by decide)) (pr 1 (by decide) (by decide) (by decide) (by decide)) (pr 2 (by decide) (by decide) (by decide) (by decide))
  obtain ⟨s1, s2, s3, s4, s5⟩ := sp_rel (fog := fog) hn hL.1 hDP b2 b4 (show rg 2 (P.1 5) 0 = nI h by rw [pr 5 (by decide) (by decide) (by decide) (by decide)]; exact h0) (by omega) ne (Nat.le_refl _)
  obtain ⟨S, hS⟩ : ∃ S, S = spF B.2 Ld ns fog (nI h) ne := ⟨_, rfl⟩
  obtain ⟨F, hF⟩ : ∃ F, F = frF P.1 ns fog ne := ⟨_, rfl⟩
  rw [← hS] at s1 s2 s3 s5
  rw [← hF] at s1 s4
  have fr : ∀ i, i ≠ 3 → i ≠ 4 → i ≠ 6 → i ≠ 7 → F i = L i := fun i a b c d => (s4 i b).trans (pr i a b c d)
  have hDF : rD Ld F ns nr := rD_of hD (fr 0 (by decide) (by decide) (by decide) (by decide)) (fr 1 (by decide) (by decide) (by decide) (by decide)) (fr 2 (by decide) (by decide) (by decide) (by decide))
  have hVS : mvI S B.1 nm ne := fun l m hl hm a b => b5 l m hl hm ((s3 l hl).1.mp a) ((s3 l hl).2.2.symm.trans b)
  have hIS : okO S ne := okO_of (okO_of hI (b9 2 (by decide) (by decide) (by decide) (by decide)) (b9 10 (by decide) (by decide) (by decide) (by decide))) (s5 2 (by decide) (by decide) (by decide) (by decide) (by decide) (by decide)) (s5 10 (by decide) (by decide) (by decide) (by decide) (by decide) (by decide))
  have hWF : rW W F := fun a b ha hb => by rw [s4 7 (by decide), b6 7 (by decide) (by decide)]; exact hWR a b ha hb
  have hYB : okY W Ld B.1 nr nm := okY_of hY b8
  obtain ⟨d1, d2, d3, d4, d5, d6, d7, d8, d9, d10, d11⟩ := sd_rel hL b3 hn hYB hDF (rM_of b1 (s4 3 (by decide))) s1 s2 hIS hVS hWF (show rg 2 (F 5) 1 = cro by rw [fr 5 (by decide) (by decide) (by decide) (by decide)]; exact h1) nm (Nat.le_refl _)
  obtain ⟨Q, hQ⟩ : ∃ Q, Q = sdF W B.1 S Ld ne cro nm := ⟨_, rfl⟩
  obtain ⟨G, hG⟩ : ∃ G, G = sgF F ne nm := ⟨_, rfl⟩
  rw [← hQ] at d1 d2 d3 d5 d6 d7 d9 d10 d11
  rw [← hG] at d1 d2 d3 d4 d8
  have eh : hoS W Ld ns fog nm ne (Lm, Le, nI h, cro) = (Q.1, Q.2.1, nI h + 1, Q.2.2) := by
    rw [hQ, hS, hB]
    rfl
  have e3 : hr3 L ns fog nr nm ne = G := by
    unfold hr3
    rw [hhr, ← hF, ← hG]
  have em : hoM L ns fog nr nm ne = sr G 5 (rs 2 (G 5) 0 (rg 2 (G 5) 0 + 1)) := by
    unfold hoM
    rw [e3]
  have g0 : rg 2 (G 5) 0 = nI h := d4.trans (by rw [fr 5 (by decide) (by decide) (by decide) (by decide)]; exact h0)
  rw [eh, em, hhr]
  have mr : ∀ i, i ≠ 5 → sr G 5 (rs 2 (G 5) 0 (rg 2 (G 5) 0 + 1)) i = G i := fun i hi => sr_n hi
  have gD : rD Ld (sr G 5 (rs 2 (G 5) 0 (rg 2 (G 5) 0 + 1))) ns nr := rD_of hDF ((mr 0 (by decide)).trans (d8 0 (by decide) (by decide) (by decide))) ((mr 1 (by decide)).trans (d8 1 (by decide) (by decide) (by decide))) ((mr 2 (by decide)).trans (d8 2 (by decide) (by decide) (by decide)))
  refine ⟨⟨hL, okY_of hYB d9, d5, hn, d6, d7, okO_of hIS (d10 2 (by decide) (by decide) (by decide)) (d10 10 (by decide) (by decide) (by decide)), gD, rM_of d1 (mr 3 (by decide)), rE_of d2 (mr 4 (by decide)), nI_1 h, ?_, ?_⟩, ?_⟩
  · rw [sr_s, n0_up.1, g0]
    exact nI_1 h
  · rw [sr_s, n0_up.2]
    exact d3
  · rw [b7]
    exact (inSt_eq hn (fun l hl => ((d11 l hl).trans (s3 l hl).2.1))).symm
theorem pa_rel {W Ld Lm Le L : Fm} {hou cro fog : Int32} {ns nr nm ne h : Nat} (hR : REL W Ld Lm Le hou cro L ns nr nm ne h) : ∀ k, h + k < 2 ^ 30 → REL W Ld (hoF W Ld ns fog nm ne (Lm, Le, hou, cro) k).1 (hoF W Ld ns fog nm ne (Lm, Le, hou, cro) k).2.1 (hoF W Ld ns fog nm ne (Lm, Le, hou, cro) k).2.2.1 (hoF W Ld ns fog nm ne (Lm, Le, hou, cro) k).2.2.2 (paF L ns fog nr nm ne k).1 ns nr nm ne (h + k) ∧ (paF L ns fog nr nm ne k).2 + inStC Le ne 2 = inStC (hoF W Ld ns fog nm ne (Lm, Le, hou, cro) k).2.1 ne 2
  | 0, _ => ⟨hR, Int32.zero_add _⟩
  | k + 1, hk => by
    obtain ⟨i1, i2⟩ := pa_rel (fog := fog) hR k (by omega)
    obtain ⟨j1, j2⟩ := ho_rel (fog := fog) i1 (by omega)
    refine ⟨j1, ?_⟩
    show (paF L ns fog nr nm ne k).2 + (hr1 (paF L ns fog nr nm ne k).1 ns nr nm ne).2 + inStC Le ne 2 = _
    rw [Int32.add_assoc, Int32.add_comm (hr1 (paF L ns fog nr nm ne k).1 ns nr nm ne).2, ← Int32.add_assoc, i2, Int32.add_comm, j2]
    rfl
theorem cm_rel {W Ld Lm Le L : Fm} {hou cro fog : Int32} {ns nr nm ne h k : Nat} (hR : REL W Ld Lm Le hou cro L ns nr nm ne h) (hk : h + k < 2 ^ 30) : (paF L ns fog nr nm ne k).2 = cmC W Ld ns fog nm ne Lm Le hou cro k := by
  obtain ⟨-, i2⟩ := pa_rel (fog := fog) hR k hk
  unfold cmC
  rw [← i2, Int32.add_sub_cancel]
