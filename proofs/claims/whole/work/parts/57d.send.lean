/-! a mule at an end of its road: both sides -/
theorem okU_out {Ld Lm N : Fm} {ns nr nm m p q x : Nat} (hU : okU Lm Ld nr nm) (hx : x ≤ 40) (hp : p < ns) (hq : q < ns) (h10 : ns ≤ 10) (hpq : p ≠ q) (e2 : Lm 2 m = nI p) (hN : ∀ c j, N c j = if j = m ∧ c = 2 then nI q else if j = m ∧ c = 3 then nI x else Lm c j) {r : Nat} (h15 : nr ≤ 15) (hr : r < nr) (e0 : Lm 0 m = nI r) (hends : (Ld 2 r = nI p ∧ Ld 3 r = nI q) ∨ (Ld 2 r = nI q ∧ Ld 3 r = nI p)) : okU N Ld nr nm := by
  refine ⟨hU.1, fun j hj => ?_⟩
  obtain ⟨⟨r2, hr2, er, epl⟩, o2, y, hy, ey⟩ := hU.2 j hj
  have n0 : N 0 j = Lm 0 j := by rw [hN, if_neg (by omega), if_neg (by omega)]
  have n1 : N 1 j = Lm 1 j := by rw [hN, if_neg (by omega), if_neg (by omega)]
  rw [n0, n1]
  refine ⟨⟨r2, hr2, er, ?_⟩, o2, ?_⟩
  · by_cases e : j = m
    · subst e
      have : r2 = r := (nI_eq (by omega) (by omega)).mp (er.symm.trans e0)
      subst this
      rw [hN, if_pos ⟨rfl, rfl⟩]
      rcases hends with ⟨a, b⟩ | ⟨a, b⟩
      · exact Or.inr b.symm
      · exact Or.inl a.symm
    · rw [hN, if_neg (by omega), if_neg (by omega)]
      exact epl
  · by_cases e : j = m
    · subst e
      exact ⟨x, hx, by rw [hN, if_neg (by omega), if_pos ⟨rfl, rfl⟩]⟩
    · exact ⟨y, hy, by rw [hN, if_neg (by omega), if_neg (by omega)]; exact ey⟩
theorem okY_of {W Ld M N : Fm} {nr nm : Nat} (h : okY W Ld M nr nm) (e : N 0 = M 0) : okY W Ld N nr nm := by
  have g : gC Ld N nm = gC Ld M nm := by
    unfold gC ofRC
    rw [e]
  unfold okY
  rw [g]
  exact h
theorem so_rel {W Ld Lm X L : Fm} {ns nr nm ne m : Nat} {cr : Int32} (hL : okL Ld ns nr) (hU : okU Lm Ld nr nm) (hn : ne ≤ 60) (hm : m < nm) (h3 : Lm 3 m = 0) (hY : okY W Ld Lm nr nm) (hD : rD Ld L ns nr) (hM : rM Lm L nm) (hE : rE X L ne) (hO : okE X ns nm ne) (hI : okO X ne) (hV : mvI X Lm nm ne) (hW : rW W L) (h5 : rg 2 (L 5) 1 = cr) :
    let K := ldC W Lm X ne (nI m)
    let N := if K.2.2 = true then outM Ld Lm (nI m) else Lm
    let C := if K.2.2 = true then crF (outM Ld Lm (nI m)) K.1 ne (nI m) cr ne else cr
    rM N (soM L (nI m) ne) nm ∧ rE K.1 (soM L (nI m) ne) ne ∧ rg 2 (soM L (nI m) ne 5) 1 = C ∧ rg 2 (soM L (nI m) ne 5) 0 = rg 2 (L 5) 0 ∧ okU N Ld nr nm ∧ okE K.1 ns nm ne ∧ mvI K.1 N nm ne ∧ (∀ i, i ≠ 3 → i ≠ 4 → i ≠ 5 → soM L (nI m) ne i = L i) ∧ N 0 = Lm 0 ∧ (∀ w, w ≠ 3 → w ≠ 4 → w ≠ 5 → K.1 w = X w) ∧ (∀ l, l < ne → (K.1 3 l = 2 ↔ X 3 l = 2)) ∧ ∀ j, j < nm → j ≠ m → N 3 j = Lm 3 j := by
  intro K N C
  have h10 := hL.1
  have h15 := hL.2.1
  have h12 := hU.1
  have hm12 : m < 12 := by omega
  obtain ⟨⟨r, hr, e0, epl⟩, ⟨c, hc1, hc2, e1⟩, -⟩ := hU.2 m hm
  obtain ⟨p, q, x, hp, hq, hpq, e2, eo, hx1, hx2, eh, hends⟩ := ends_at hL hr epl
  have g2 : rg 12 (Lm 2) (nI m) = nI p := by rw [rg_k hm12 (by decide)]; exact e2
  have g0 : rg 12 (Lm 0) (nI m) = nI r := by rw [rg_k hm12 (by decide)]; exact e0
  have g1 : rg 12 (Lm 1) (nI m) = nI c := by rw [rg_k hm12 (by decide)]; exact e1
  have hK : K = ldF W X (nI p) (nI r) (nI m) (nI c) ne := by
    show ldF W X (rg 12 (Lm 2) (nI m)) (rg 12 (Lm 0) (nI m)) (nI m) (rg 12 (Lm 1) (nI m)) ne = _
    rw [g2, g0, g1]
  obtain ⟨k1, k2, -, -, k5, k6, k7⟩ := ld_inv (W := W) (here := nI p) (road := nI r) hn hm h12 hc2 hO hI ne (Nat.le_refl _)
  rw [← hK] at k1 k2 k5 k6 k7
  have m2 : muM L (nI m) 2 = nI p := (rM_mu (c := 2) hM h12 hm (by decide)).trans e2
  have m0 : muM L (nI m) 0 = nI r := (rM_mu (c := 0) hM h12 hm (by decide)).trans e0
  have m1 : muM L (nI m) 1 = nI c := (rM_mu (c := 1) hM h12 hm (by decide)).trans e1
  obtain ⟨T, hT⟩ : ∃ T, T = tkF ne (nI p) (nI r) (nI m) c 0 L := ⟨_, rfl⟩
  have eS : soM L (nI m) ne = so2 T (nI m) (nI r) (nI p) (nI q) ne := by
    unfold soM
    rw [m2, m0, m1, nI_clamp (by omega), oth_eq hD h15 hr, eo, ← hT]
  have hTE : rE K.1 T.1 ne := by
    rw [hK, hT]
    exact ld_sim h10 hn hm h12 hc2 hp hO hI ne 0 (by omega) L 0 c rfl (Nat.le_refl _) hE hW (Or.inr (fun q l hq => absurd hq (by omega)))
  have tr : ∀ i, i ≠ 4 → T.1 i = L i := fun i hi => by rw [hT]; exact tk_r hi c 0 L
  have hTM : rM Lm T.1 nm := rM_of hM (tr 3 (by decide))
  obtain ⟨t1, t2⟩ := tk_0 (nl := ne) (fr := nI p) (r := nI r) (m := nI m) (L := L) hc1 hc2
  rw [← hT] at t1 t2
  have hhas : K.2.2 = true ↔ ∃ l, l < ne ∧ wbB W X (nI r) l = true := by
    rw [k5]
    constructor
    · rintro ⟨_, l, -, hl, -, z⟩
      exact ⟨l, hl, z⟩
    · rintro ⟨l, hl, z⟩
      obtain ⟨i, hi, ei⟩ := hI.2.1 l hl
      exact ⟨i, l, hi, hl, ei, z⟩
  have nocd : ∀ s, s < ns → (nxF L (nI s) (nI r) ne = -1 ↔ ∀ l, l < ne → cdB W X (nI r) (nI s) l = false) := fun s hs => by
    constructor
    · intro z l hl
      rcases nx_spec (L := L) (s := nI s) (r := nI r) ne (by omega) with ⟨a, -⟩ | ⟨b, hb, eb, -, -⟩
      · rw [← wf_eq h10 hn hl hs hE hO hW]; exact a l hl
      · rw [eb] at z; exact absurd z (n_m1 (by omega))
    · intro z
      rcases nx_spec (L := L) (s := nI s) (r := nI r) ne (by omega) with ⟨-, a⟩ | ⟨b, hb, -, hpb, -⟩
      · exact a
      · rw [wf_eq h10 hn hb hs hE hO hW, z b hb] at hpb
        exact Bool.noConfusion hpb
  by_cases hh : K.2.2 = true
  · -- it sets out
    have eN : N = outM Ld Lm (nI m) := if_pos hh
    have eC : C = crF (outM Ld Lm (nI m)) K.1 ne (nI m) cr ne := if_pos hh
    have eOut := out_at hm12 e2 e0 eo eh
    have hN : ∀ c j, N c j = if j = m ∧ c = 2 then nI q else if j = m ∧ c = 3 then nI x else Lm c j := fun c j => by rw [eN, eOut]; exact out_row hm12 c j
    have eS2 : soM L (nI m) ne = outG T.1 (nI m) (nI r) (nI p) (nI q) ne := by
      rw [eS]
      unfold so2
      by_cases z : nI T.2 = 0
      · rw [if_pos z]
        have z1 := t1.mp z
        rw [t2 z1]
        by_cases y : nxF L (nI q) (nI r) ne = -1
        · exfalso
          obtain ⟨l, hl, hw⟩ := hhas.mp hh
          have hw1 : X 3 l = 0 := eq_of_beq (Bool.and_eq_true _ _ ▸ hw : _ ∧ _).1
          have hw2 : froC W X (nI l) = nI r := eq_of_beq (Bool.and_eq_true _ _ ▸ hw : _ ∧ _).2
          obtain ⟨-, -, s, hs, es⟩ := wait_pl hO hl hw1
          obtain ⟨gg, hg, eg⟩ := goal_vd hO hn hl
          have hf : Fst (gC Ld Lm nm) nr s gg = nI r := by
            rw [← hY.2 s gg (by omega) (by omega), ← fi_at (W := W) (a := s) (b := gg) (by omega) (by omega)]
            unfold froC at hw2
            rw [rg_k (by omega) (by decide), es, eg] at hw2
            exact hw2
          obtain ⟨-, -, he⟩ := Fst_end (by omega) hf (by omega)
          obtain ⟨-, -, -, -, -, r2, r3, -⟩ := gC_at (M := Lm) (nm := nm) hL hr
          have E2 : Ld 2 r = nI ((gC Ld Lm nm).2.1 r) := by rw [← r2, rg_k (by omega) (by decide)]
          have E3 : Ld 3 r = nI ((gC Ld Lm nm).2.2.1 r) := by rw [← r3, rg_k (by omega) (by decide)]
          have hs2 : nI s = nI p ∨ nI s = nI q := by
            rcases he with a | a
            · rw [a, ← E2]
              rcases hends with ⟨b, -⟩ | ⟨b, -⟩
              · exact Or.inl b
              · exact Or.inr b
            · rw [a, ← E3]
              rcases hends with ⟨-, b⟩ | ⟨-, b⟩
              · exact Or.inr b
              · exact Or.inl b
          have cd : cdB W X (nI r) (nI s) l = true := by
            unfold cdB
            rw [hw, es, beq_self_eq_true]
            rfl
          rcases hs2 with a | a
          · rw [a, (nocd p hp).mp z1 l hl] at cd
            exact Bool.noConfusion cd
          · rw [a, (nocd q hq).mp y l hl] at cd
            exact Bool.noConfusion cd
        · rw [if_neg y]
      · rw [if_neg z]
    have hV2 : ∀ l w, l < ne → w < nm → K.1 3 l = 1 → K.1 5 l = nI w → w ≠ m → ¬ Lm 3 w = 0 := fun l w hl hw a b d => by
      rcases k6 l hl a with ⟨f1, f2⟩ | f
      · exact hV l w hl hw f1 (f2.symm.trans b)
      · exact absurd ((nI_eq (by omega) (by omega)).mp (b.symm.trans f)) d
    obtain ⟨v1, v2⟩ := crO_val (M := outM Ld Lm (nI m)) (X := K.1) (L := T.1) (ne := ne) (m := m) (r := nI r) (fr := nI p) (cr := cr) (by rw [tr 5 (by decide)]; exact h5) (fun k hk => with_iff hTE k1 hn hk (by omega)) (fun k hk _ => by
      rw [← eN]
      exact crs_eq hL hU hn hm hTE hTM k1 hp hq hpq e2 e0 h3 hends hr hV2 (N := N) (fun c j => by
        rw [hN]
        by_cases z : j = m ∧ c = 3
        · rw [if_neg (by omega), if_pos z, if_neg (by omega), if_pos z, hN, if_neg (by omega), if_pos ⟨rfl, rfl⟩]
        · rw [if_neg z, if_neg z]) hk) ne (Nat.le_refl _)
    obtain ⟨CC, hCC⟩ : ∃ CC, CC = crO T.1 (nI m) (nI r) (nI p) ne ne := ⟨_, rfl⟩
    rw [← hCC] at v1 v2
    have cr_ : ∀ i, i ≠ 5 → CC i = T.1 i := fun i hi => by rw [hCC]; exact crO_r hi ne
    obtain ⟨Y1, hY1⟩ : ∃ Y1, Y1 = smM CC (nI m) 2 (nI q) := ⟨_, rfl⟩
    have y1r : ∀ i, i ≠ 3 → Y1 i = CC i := fun i hi => by rw [hY1]; unfold smM; exact sr_n hi
    have hD1 : rD Ld Y1 ns nr := rD_of hD ((y1r 0 (by decide)).trans ((cr_ 0 (by decide)).trans (tr 0 (by decide)))) ((y1r 1 (by decide)).trans ((cr_ 1 (by decide)).trans (tr 1 (by decide)))) ((y1r 2 (by decide)).trans ((cr_ 2 (by decide)).trans (tr 2 (by decide))))
    have ehM : hrsM Y1 (nI r) (nI p) = nI x := by rw [hrs_eq hL hD1 hr hp, eo, eh]
    have eG : soM L (nI m) ne = smM Y1 (nI m) 3 (nI x) := by
      rw [eS2]
      unfold outG
      rw [← hCC, ← hY1, ehM]
    have gr : ∀ i, i ≠ 3 → soM L (nI m) ne i = CC i := fun i hi => by rw [eG]; unfold smM; rw [sr_n hi]; exact y1r i hi
    have M1 : rM (sr Lm 2 (rs 12 (Lm 2) (nI m) (nI q))) Y1 nm := by
      rw [hY1]
      exact rM_put (rM_of hTM (cr_ 3 (by decide))) hm12 (mcol_sm (w := 2) hm12 (by decide))
    have M2 : rM N (soM L (nI m) ne) nm := by
      rw [eN, eOut, eG]
      have := rM_put (w := 3) (v := nI x) M1 hm12 (mcol_sm (L := Y1) (w := 3) hm12 (by decide))
      rw [sr_n (show (3 : Nat) ≠ 2 by decide)] at this
      exact this
    refine ⟨M2, rE_of hTE ((gr 4 (by decide)).trans (cr_ 4 (by decide))), ?_, ?_, okU_out hU hx2 hp hq h10 hpq e2 hN h15 hr e0 hends, k1, ?_, fun i a b d => (gr i a).trans ((cr_ i d).trans (tr i b)), ?_, k2, k7, fun j _ hj => ?_⟩
    · rw [gr 5 (by decide), eC]; exact v1
    · rw [gr 5 (by decide), v2, tr 5 (by decide)]
    · intro l w hl hw a b
      by_cases d : w = m
      · subst d
        rw [hN, if_neg (by omega), if_pos ⟨rfl, rfl⟩]
        exact nI_ne0 (by omega) (by omega)
      · rw [hN, if_neg (by omega), if_neg (by omega)]
        exact hV2 l w hl hw a b d
    · funext j
      rw [hN, if_neg (by omega), if_neg (by omega)]
    · rw [hN, if_neg (by omega), if_neg (by omega)]
  · -- it stays
    have eN : N = Lm := if_neg hh
    have eC : C = cr := if_neg hh
    have none : ∀ l, l < ne → wbB W X (nI r) l = false := fun l hl => by
      cases z : wbB W X (nI r) l with
      | false => rfl
      | true => exact absurd (hhas.mpr ⟨l, hl, z⟩) hh
    have nocd2 : ∀ s l, l < ne → cdB W X (nI r) s l = false := fun s l hl => by
      unfold cdB
      rw [none l hl]
      rfl
    have z1 := (nocd p hp).mpr (fun l hl => nocd2 _ l hl)
    have z2 := (nocd q hq).mpr (fun l hl => nocd2 _ l hl)
    have eS2 : soM L (nI m) ne = L := by
      rw [eS]
      unfold so2
      rw [if_pos (t1.mpr z1), t2 z1, if_pos z2]
    have eT : T.1 = L := t2 z1
    rw [eT] at hTE
    rw [eS2, eN, eC]
    refine ⟨hM, hTE, h5, rfl, hU, k1, ?_, fun _ _ _ _ => rfl, rfl, k2, k7, fun _ _ _ => rfl⟩
    intro l w hl hw a b
    rcases k6 l hl a with ⟨f1, f2⟩ | f
    · exact hV l w hl hw f1 (f2.symm.trans b)
    · -- with the mule itself: then it has a reason
      exfalso
      have hx1 : leM L (nI l) 5 = nI m := (rE_le (c := 5) hTE hn hl (by decide)).trans f
      have hx2 := (with_iff hE hO hn hl (by omega)).mpr hx1
      obtain ⟨y1, y2⟩ := (withC_iff (by omega)).mp hx2
      exact hV l m hl hm y1 y2 h3
/-- the third step, side by side -/
theorem sd_rel {W Ld Lm X L : Fm} {ns nr nm ne : Nat} {cr : Int32} (hL : okL Ld ns nr) (hU : okU Lm Ld nr nm) (hn : ne ≤ 60) (hY : okY W Ld Lm nr nm) (hD : rD Ld L ns nr) (hM : rM Lm L nm) (hE : rE X L ne) (hO : okE X ns nm ne) (hI : okO X ne) (hV : mvI X Lm nm ne) (hW : rW W L) (h5 : rg 2 (L 5) 1 = cr) : ∀ k, k ≤ nm →
    rM (sdF W Lm X Ld ne cr k).1 (sgF L ne k) nm ∧ rE (sdF W Lm X Ld ne cr k).2.1 (sgF L ne k) ne ∧ rg 2 (sgF L ne k 5) 1 = (sdF W Lm X Ld ne cr k).2.2 ∧ rg 2 (sgF L ne k 5) 0 = rg 2 (L 5) 0 ∧ okU (sdF W Lm X Ld ne cr k).1 Ld nr nm ∧ okE (sdF W Lm X Ld ne cr k).2.1 ns nm ne ∧ mvI (sdF W Lm X Ld ne cr k).2.1 (sdF W Lm X Ld ne cr k).1 nm ne ∧ (∀ i, i ≠ 3 → i ≠ 4 → i ≠ 5 → sgF L ne k i = L i) ∧ (sdF W Lm X Ld ne cr k).1 0 = Lm 0 ∧ (∀ w, w ≠ 3 → w ≠ 4 → w ≠ 5 → (sdF W Lm X Ld ne cr k).2.1 w = X w) ∧ ∀ l, l < ne → ((sdF W Lm X Ld ne cr k).2.1 3 l = 2 ↔ X 3 l = 2)
  | 0, _ => ⟨hM, hE, h5, rfl, hU, hO, hV, fun _ _ _ _ => rfl, rfl, fun _ _ _ _ => rfl, fun _ _ => Iff.rfl⟩
  | k + 1, hk => by
    obtain ⟨i1, i2, i3, i4, i5, i6, i7, i8, i9, i10, i11⟩ := sd_rel hL hU hn hY hD hM hE hO hI hV hW h5 k (by omega)
    obtain ⟨S, hS⟩ : ∃ S, S = sdF W Lm X Ld ne cr k := ⟨_, rfl⟩
    obtain ⟨P, hP⟩ : ∃ P, P = sgF L ne k := ⟨_, rfl⟩
    rw [← hS] at i1 i2 i3 i5 i6 i7 i9 i10 i11
    rw [← hP] at i1 i2 i3 i4 i8
    have hkm : k < nm := by omega
    have hk12 : k < 12 := by have := i5.1; omega
    obtain ⟨-, -, x, hx, ex⟩ := i5.2 k hkm
    have e3 : muM P (nI k) 3 = nI x := (rM_mu (c := 3) i1 i5.1 hkm (by decide)).trans ex
    have huw := uw_iff hk12 hx ex
    rw [sdF, sgF, ← hS, ← hP]
    by_cases z : x = 0
    · subst z
      rw [if_neg (fun q => huw.mp q rfl), if_pos (show muM P (nI k) 3 = 0 from e3)]
      have := so_rel hL i5 hn hkm ex (okY_of hY i9) (rD_of hD (i8 0 (by decide) (by decide) (by decide)) (i8 1 (by decide) (by decide) (by decide)) (i8 2 (by decide) (by decide) (by decide))) i1 i2 i6 (okO_of hI (i10 2 (by decide) (by decide) (by decide)) (i10 10 (by decide) (by decide) (by decide))) i7 (fun a b ha hb => by rw [i8 7 (by decide) (by decide) (by decide)]; exact hW a b ha hb) i3
      obtain ⟨j1, j2, j3, j4, j5, j6, j7, j8, j9, j10, j11, -⟩ := this
      by_cases hh : (ldC W S.1 S.2.1 ne (nI k)).2.2 = true
      · rw [if_pos hh] at j1 j3 j5 j7 j9 ⊢
        exact ⟨j1, j2, j3, j4.trans i4, j5, j6, j7, fun i a b d => (j8 i a b d).trans (i8 i a b d), j9.trans i9, fun w a b d => (j10 w a b d).trans (i10 w a b d), fun l hl => (j11 l hl).trans (i11 l hl)⟩
      · rw [if_neg hh] at j1 j3 j5 j7 j9 ⊢
        exact ⟨j1, j2, j3, j4.trans i4, j5, j6, j7, fun i a b d => (j8 i a b d).trans (i8 i a b d), j9.trans i9, fun w a b d => (j10 w a b d).trans (i10 w a b d), fun l hl => (j11 l hl).trans (i11 l hl)⟩
    · rw [if_pos (huw.mpr z), if_neg (by rw [e3]; exact nI_ne0 (by omega) (by omega))]
      exact ⟨i1, i2, i3, i4, i5, i6, i7, i8, i9, i10, i11⟩
