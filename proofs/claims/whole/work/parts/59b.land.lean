/-! calls that change the land, side by side -/
def okB (Ld L : Fm) (ns : Nat) : Prop := (∀ k i, k < ns → ns ≤ i → i < 32 → btz (Ld 1 k) i = false) ∧ ∀ k, ns ≤ k → k < 10 → Ld 1 k = 0 ∧ L 1 k = 0
def SY (W Ld Lm Le : Fm) (hou cro : Int32) (L : Fm) (ns nr nm ne h : Nat) : Prop := REL W Ld Lm Le hou cro L ns nr nm ne h ∧ okB Ld L ns
theorem REL_of {W Ld Lm Le L X : Fm} {hou cro : Int32} {ns nr nm ne h : Nat} (hR : REL W Ld Lm Le hou cro L ns nr nm ne h) (e : ∀ i, i < 6 → X i = L i) : REL W Ld Lm Le hou cro X ns nr nm ne h := by
  obtain ⟨hL, hY, hU, hn, hO, hV, hI, hD, hM, hE, hh, h0, h1⟩ := hR
  exact ⟨hL, hY, hU, hn, hO, hV, hI, rD_of hD (e 0 (by decide)) (e 1 (by decide)) (e 2 (by decide)), rM_of hM (e 3 (by decide)), rE_of hE (e 4 (by decide)), hh, by rw [e 5 (by decide)]; exact h0, by rw [e 5 (by decide)]; exact h1⟩
theorem SY_of {W Ld Lm Le L X : Fm} {hou cro : Int32} {ns nr nm ne h : Nat} (hR : SY W Ld Lm Le hou cro L ns nr nm ne h) (e : ∀ i, i < 6 → X i = L i) : SY W Ld Lm Le hou cro X ns nr nm ne h := ⟨REL_of hR.1 e, hR.2.1, fun k a b => by rw [e 1 (by decide)]; exact hR.2.2 k a b⟩
theorem okE_mono {Le : Fm} {ns nm ne ms mm : Nat} (hs : ns ≤ ms) (hm : nm ≤ mm) (h : okE Le ns nm ne) : okE Le ms mm ne := fun k hk => by
  obtain ⟨⟨a, ha, ea⟩, ⟨b, hb, eb⟩, h7, o⟩ := h k hk
  refine ⟨⟨a, by omega, ea⟩, ⟨b, by omega, eb⟩, h7, ?_⟩
  rcases o with ⟨o3, ⟨m, hm', e5⟩, o9⟩ | ⟨o3, o5, p, hp, e4⟩
  · exact Or.inl ⟨o3, ⟨m, by omega, e5⟩, o9⟩
  · exact Or.inr ⟨o3, o5, p, by omega, e4⟩
theorem okY_ag {W Ld Md Lm : Fm} {ns nr nm : Nat} (hL : okL Ld ns nr) (h2 : Md 2 = Ld 2) (h3 : Md 3 = Ld 3) (h4 : Md 4 = Ld 4) (h0 : ∀ k, k < ns → Md 0 k = Ld 0 k) (hY : okY W Ld Lm nr nm) : okY W Md Lm nr nm := by
  have h10 := hL.1
  have ag : ∀ j, j < nr → (gC Ld Lm nm).1 j = (gC Md Lm nm).1 j ∧ (gC Ld Lm nm).2.1 j = (gC Md Lm nm).2.1 j ∧ (gC Ld Lm nm).2.2.1 j = (gC Md Lm nm).2.2.1 j ∧ (gC Ld Lm nm).2.2.2.1 j = (gC Md Lm nm).2.2.2.1 j ∧ (gC Ld Lm nm).2.2.2.2 j = (gC Md Lm nm).2.2.2.2 j := fun j hj => by
    obtain ⟨g1, g2, -, -, -, r2, r3, -⟩ := gC_at (M := Lm) (nm := nm) hL hj
    have eh : ∀ a b, a < ns → b < ns → hrsC Md (nI j) (nI a) (nI b) = hrsC Ld (nI j) (nI a) (nI b) := fun a b ha hb => by
      unfold hrsC
      rw [h4, rg_k (f := Md 0) (by omega) (by decide), rg_k (f := Md 0) (by omega) (by decide), rg_k (f := Ld 0) (by omega) (by decide), rg_k (f := Ld 0) (by omega) (by decide), h0 a ha, h0 b hb]
    refine ⟨rfl, ?_, ?_, ?_, ?_⟩
    · show (rg 15 (Ld 2) (nI j)).toNatClampNeg = (rg 15 (Md 2) (nI j)).toNatClampNeg
      rw [h2]
    · show (rg 15 (Ld 3) (nI j)).toNatClampNeg = (rg 15 (Md 3) (nI j)).toNatClampNeg
      rw [h3]
    · show (hrsC Ld (nI j) (rg 15 (Ld 2) (nI j)) (rg 15 (Ld 3) (nI j))).toNatClampNeg = (hrsC Md (nI j) (rg 15 (Md 2) (nI j)) (rg 15 (Md 3) (nI j))).toNatClampNeg
      rw [h2, h3, r2, r3, eh _ _ g1 g2]
    · show (hrsC Ld (nI j) (rg 15 (Ld 3) (nI j)) (rg 15 (Ld 2) (nI j))).toNatClampNeg = (hrsC Md (nI j) (rg 15 (Md 3) (nI j)) (rg 15 (Md 2) (nI j))).toNatClampNeg
      rw [h2, h3, r2, r3, eh _ _ g2 g1]
  refine ⟨?_, fun a b ha hb => ?_⟩
  · rw [← agW ag]; exact hY.1
  · rw [← agF ag]; exact hY.2 a b ha hb
theorem okU_ld {Lm Ld Md : Fm} {nr mr nm : Nat} (hU : okU Lm Ld nr nm) (hr : nr ≤ mr) (h : ∀ r, r < nr → Md 2 r = Ld 2 r ∧ Md 3 r = Ld 3 r) : okU Lm Md mr nm := ⟨hU.1, fun k hk => by
  obtain ⟨⟨r, hr', er, ep⟩, o⟩ := hU.2 k hk
  exact ⟨⟨r, by omega, er, by rw [(h r hr').1, (h r hr').2]; exact ep⟩, o⟩⟩
theorem row_k {f : Nat → Int32} {n k j : Nat} {v : Int32} (hk : k < n) (hn : n < 2 ^ 31) : rs n f (nI k) v j = if j = k then v else f j := by
  rw [rs_k hk hn]
  by_cases e : j = k
  · rw [if_pos e, e]; exact pk_us
  · rw [if_neg e]; exact pk_un e
theorem as_rel {W Ld Lm Le L : Fm} {hou cro p : Int32} {ns nr nm ne h : Nat} (hS : SY W Ld Lm Le hou cro L ns nr nm ne h) : (pas L ns p).2.1 = nI (kAS ns p) ∧ (¬ kAS ns p = 0 → (pas L ns p).2.2 = (ns, L)) ∧ (kAS ns p = 0 → (pas L ns p).1 = nI ns ∧ (pas L ns p).2.2.1 = ns + 1 ∧ SY W (sr Ld 0 (rs 10 (Ld 0) (nI ns) p)) Lm Le hou cro (pas L ns p).2.2.2 (ns + 1) nr nm ne h) := by
  obtain ⟨⟨hL, hY, hU, hn, hO, hV, hI, hD, hM, hE, hh, h0, h1⟩, hB⟩ := hS
  obtain ⟨h10, h15, hht, hrd⟩ := hL
  unfold pas kAS
  by_cases c : inB p 0 4000 = true
  · rw [if_pos c, if_pos c]
    by_cases c2 : ns < 10
    · rw [if_pos (show nI ns < 10 from nI_lt (b := 10) c2 (by decide)), if_neg (fun q => by have := (nI_eq (b := 10) (by omega) (by decide)).mp q; omega)]
      refine ⟨rfl, fun q => absurd rfl q, fun _ => ⟨rfl, rfl, ?_⟩⟩
      obtain ⟨hx, ex⟩ := inB_cl (b := 4000) (by decide) c
      have r0 : ∀ (X : Fm) j, sr X 0 (rs 10 (X 0) (nI ns) p) 0 j = if j = ns then p else X 0 j := fun X j => by rw [sr_s]; exact row_k c2 (by decide)
      refine ⟨⟨⟨by omega, h15, fun k hk => ?_, fun k hk => ?_⟩, okY_ag ⟨h10, h15, hht, hrd⟩ rfl rfl rfl (fun k hk => by rw [r0, if_neg (by omega)]) hY, okU_ld hU (Nat.le_refl _) (fun r _ => ⟨rfl, rfl⟩), hn, okE_mono (by omega) (Nat.le_refl _) hO, hV, hI, ⟨fun k hk => ?_, fun k c hk hc => hD.2 k c hk hc |>.trans ?_⟩, rM_of hM rfl, rE_of hE rfl, hh, h0, h1⟩, fun k i hk hi hi2 => ?_, fun k hk hk2 => hB.2 k (by omega) hk2⟩
      · rw [r0]
        by_cases e : k = ns
        · rw [if_pos e]; exact ⟨_, hx, ex⟩
        · rw [if_neg e]; exact hht k (by omega)
      · obtain ⟨a, b, w, ha, hb, o⟩ := hrd k hk
        exact ⟨a, b, w, by omega, by omega, o⟩
      · show sr L 0 (rs 10 (L 0) (nI ns) p) 0 k = sr Ld 0 (rs 10 (Ld 0) (nI ns) p) 0 k ∧ L 1 k = Ld 1 k
        rw [r0, r0]
        by_cases e : k = ns
        · rw [if_pos e, if_pos e, e]
          refine ⟨rfl, ?_⟩
          show L 1 ns = Ld 1 ns
          rw [(hB.2 ns (Nat.le_refl _) c2).1, (hB.2 ns (Nat.le_refl _) c2).2]
        · rw [if_neg e, if_neg e]
          exact hD.1 k (by omega)
      · exact (congrFun (sr_n (show 2 + c ≠ 0 by omega)) k).symm
      · show btz (Ld 1 k) i = false
        by_cases e : k = ns
        · rw [e, (hB.2 ns (Nat.le_refl _) c2).1]; exact btz_0 i
        · exact hB.1 k i (by omega) (by omega) hi2
    · have e : ns = 10 := by omega
      subst e
      rw [if_neg (show ¬ nI 10 < 10 by decide), if_pos (show nI 10 = 10 by decide)]
      exact ⟨rfl, fun _ => rfl, fun q => absurd q (by decide)⟩
  · rw [if_neg c, if_neg c]
    exact ⟨rfl, fun _ => rfl, fun q => absurd q (by decide)⟩
/-! sight and fog -/
theorem sg_eq {g a v : Int32} {b : Nat} (hb : b < 32) : sgM g a (nI b) v = if v = 0 then bN g (nI b) else bW g (nI b) := by
  unfold sgM bN bW
  by_cases c : v = 0
  · rw [if_pos c, if_pos c]
    refine btz_ext fun i hi => ?_
    rw [btz_or, btz_0, Bool.or_false]
  · rw [if_neg c, if_neg c]
    refine btz_ext fun i hi => ?_
    rw [btz_or, btz_and, btz_xor, btz_m1 i hi, btz_or]
    cases btz g i <;> cases btz ((1 : Int32) <<< (nI b &&& 31)) i <;> rfl
theorem sg_bit {g v : Int32} {b i : Nat} (hb : b < 32) (hi : i < 32) (hbi : b ≠ i) (hg : btz g i = false) : btz (if v = 0 then bN g (nI b) else bW g (nI b)) i = false := by
  by_cases c : v = 0
  · rw [if_pos c]
    unfold bN
    rw [btz_and, hg]
    rfl
  · rw [if_neg c]
    unfold bW
    rw [btz_or, hg, btz_one b hb i hi, decide_eq_false (fun q => hbi q.symm)]
    rfl
theorem ps_rel {Ld L : Fm} {v : Int32} {ns nr x y : Nat} (h10 : ns ≤ 10) (hx : x < ns) (hy : y < ns) (hD : rD Ld L ns nr) (hB : okB Ld L ns) : rD (psC Ld (nI x) (nI y) v) (ss1 L (nI x) (nI y) v) ns nr ∧ okB (psC Ld (nI x) (nI y) v) (ss1 L (nI x) (nI y) v) ns := by
  have e1 : ∀ j, psC Ld (nI x) (nI y) v 1 j = if j = x then (if v = 0 then bN (Ld 1 x) (nI y) else bW (Ld 1 x) (nI y)) else Ld 1 j := fun j => by
    unfold psC
    rw [sr_s, row_k (by omega) (by decide), rg_k (by omega) (by decide)]
  have e2 : ∀ j, ss1 L (nI x) (nI y) v 1 j = if j = x then (if v = 0 then bN (L 1 x) (nI y) else bW (L 1 x) (nI y)) else L 1 j := fun j => by
    unfold ss1
    rw [sr_s, row_k (by omega) (by decide), rg_k (by omega) (by decide), sg_eq (by omega)]
  refine ⟨⟨fun k hk => ⟨(hD.1 k hk).1, ?_⟩, fun k c hk hc => (hD.2 k c hk hc).trans (congrFun (sr_n (show 2 + c ≠ 1 by omega)) k).symm⟩, fun k i hk hi hi2 => ?_, fun k hk hk2 => ?_⟩
  · rw [e1, e2, (hD.1 x hx).2, (hD.1 k hk).2]
  · rw [e1]
    by_cases e : k = x
    · rw [if_pos e]
      exact sg_bit (by omega) hi2 (by omega) (hB.1 x i hx hi hi2)
    · rw [if_neg e]
      exact hB.1 k i hk hi hi2
  · rw [e1, e2, if_neg (by omega), if_neg (by omega)]
    exact hB.2 k hk hk2
theorem SY_sight {W Ld Lm Le L : Fm} {hou cro v : Int32} {ns nr nm ne h x y : Nat} (hx : x < ns) (hy : y < ns) (hS : SY W Ld Lm Le hou cro L ns nr nm ne h) : SY W (psC Ld (nI x) (nI y) v) Lm Le hou cro (ss1 L (nI x) (nI y) v) ns nr nm ne h := by
  obtain ⟨⟨hL, hY, hU, hn, hO, hV, hI, hD, hM, hE, hh, h0, h1⟩, hB⟩ := hS
  obtain ⟨d, b⟩ := ps_rel (v := v) hL.1 hx hy hD hB
  exact ⟨⟨hL, okY_ag hL rfl rfl rfl (fun _ _ => rfl) hY, okU_ld hU (Nat.le_refl _) (fun _ _ => ⟨rfl, rfl⟩), hn, hO, hV, hI, d, rM_of hM rfl, rE_of hE rfl, hh, h0, h1⟩, b⟩
theorem ss_rel {W Ld Lm Le L : Fm} {hou cro a b v : Int32} {ns nr nm ne h : Nat} (hS : SY W Ld Lm Le hou cro L ns nr nm ne h) : (pss L ns a b v).2.1 = nI (kSS ns a b) ∧ (¬ kSS ns a b = 0 → (pss L ns a b v).2.2 = L) ∧ (kSS ns a b = 0 → (pss L ns a b v).1 = bitC (rg 10 (psC (psC Ld a b v) b a v 1) a) ∧ SY W (psC (psC Ld a b v) b a v) Lm Le hou cro (pss L ns a b v).2.2 ns nr nm ne h) := by
  have h10 := hS.1.1.1
  unfold pss kSS
  by_cases c1 : inB a 0 (nI ns - 1) = true
  · rw [if_pos c1, if_pos c1]
    by_cases c2 : inB b 0 (nI ns - 1) = true
    · rw [if_pos c2, if_pos c2]
      by_cases c3 : a = b
      · rw [if_pos c3, if_pos c3]
        exact ⟨rfl, fun _ => rfl, fun q => absurd q (by decide)⟩
      · rw [if_neg c3, if_neg c3]
        obtain ⟨x, hx, rfl⟩ := inB_vd (by omega) c1
        obtain ⟨y, hy, rfl⟩ := inB_vd (by omega) c2
        have s1 := SY_sight (v := v) hx hy hS
        have s2 := SY_sight (v := v) hy hx s1
        refine ⟨rfl, fun q => absurd rfl q, fun _ => ⟨?_, s2⟩⟩
        have d := s2.1.2.2.2.2.2.2.2.1
        show bitC (rg 10 (ss1 (ss1 L (nI x) (nI y) v) (nI y) (nI x) v 1) (nI x)) = _
        rw [rg_k (by omega) (by decide), rg_k (by omega) (by decide), (d.1 x hx).2]
    · rw [if_neg c2, if_neg c2]
      exact ⟨rfl, fun _ => rfl, fun q => absurd q (by decide)⟩
  · rw [if_neg c1, if_neg c1]
    exact ⟨rfl, fun _ => rfl, fun q => absurd q (by decide)⟩
theorem sf_rel {fog a v : Int32} {ns : Nat} (h10 : ns ≤ 10) : (psf fog ns a v).2.1 = nI (kSF ns a) ∧ (¬ kSF ns a = 0 → (psf fog ns a v).2.2 = fog) ∧ (kSF ns a = 0 → (psf fog ns a v).1 = bitC (if v = 0 then bN fog a else bW fog a) ∧ (psf fog ns a v).2.2 = if v = 0 then bN fog a else bW fog a) := by
  unfold psf kSF
  by_cases c1 : inB a 0 (nI ns - 1) = true
  · rw [if_pos c1, if_pos c1]
    obtain ⟨x, hx, rfl⟩ := inB_vd (by omega) c1
    rw [sg_eq (by omega)]
    exact ⟨rfl, fun q => absurd rfl q, fun _ => ⟨rfl, rfl⟩⟩
  · rw [if_neg c1, if_neg c1]
    exact ⟨rfl, fun _ => rfl, fun q => absurd q (by decide)⟩
/-! roads -/
theorem bd2 {L : Fm} {nr i : Nat} {a b c : Int32} (hn : nr < 15) : bdT L nr a b c 2 i = if 3 * nr ≤ i ∧ i < 3 * nr + 3 then ar3 a b c (0 + (i - 3 * nr)) else L 2 i := by
  have e : ((3 : Int32) * nI nr).toNatClampNeg = 3 * nr := clm (a := 3) (m := 60) (by omega) (by decide)
  show va_cpy (ar3 a b c) (L 2) (0 : Int32).toNatClampNeg ((3 : Int32) * nI nr).toNatClampNeg (3 : Int32).toNatClampNeg i = _
  rw [e]
  rfl
theorem bd_rel {W Ld Lm Le L : Fm} {hou cro a b c : Int32} {ns nr nm ne h : Nat} (hS : SY W Ld Lm Le hou cro L ns nr nm ne h) : (pbd L ns nr a b c).2.1 = nI (kBD ns nr a b c) ∧ (¬ kBD ns nr a b c = 0 → (pbd L ns nr a b c).2.2 = (nr, L)) ∧ (kBD ns nr a b c = 0 → (pbd L ns nr a b c).1 = nI nr ∧ (pbd L ns nr a b c).2.2.1 = nr + 1 ∧ SY W (sr (sr (sr Ld 2 (rs 15 (Ld 2) (nI nr) a)) 3 (rs 15 (Ld 3) (nI nr) b)) 4 (rs 15 (Ld 4) (nI nr) c)) Lm Le hou cro (pbd L ns nr a b c).2.2.2 ns (nr + 1) nm ne h) := by
  obtain ⟨⟨hL, hY, hU, hn, hO, hV, hI, hD, hM, hE, hh, h0, h1⟩, hB⟩ := hS
  obtain ⟨h10, h15, hht, hrd⟩ := hL
  unfold pbd kBD
  by_cases c1 : inB a 0 (nI ns - 1) = true
  · rw [if_pos c1, if_pos c1]
    by_cases c2 : inB b 0 (nI ns - 1) = true
    · rw [if_pos c2, if_pos c2]
      by_cases c3 : a = b
      · rw [if_pos c3, if_pos c3]
        exact ⟨rfl, fun _ => rfl, fun q => absurd q (by decide)⟩
      · rw [if_neg c3, if_neg c3]
        by_cases c4 : inB c 1 20 = true
        · rw [if_pos c4, if_pos c4]
          by_cases c5 : nr < 15
          · rw [if_pos (show nI nr < 15 from nI_lt (b := 15) c5 (by decide)), if_neg (fun q => by have := (nI_eq (b := 15) (by omega) (by decide)).mp q; omega)]
            refine ⟨rfl, fun q => absurd rfl q, fun _ => ⟨rfl, rfl, ?_⟩⟩
            obtain ⟨x, hx, rfl⟩ := inB_vd (by omega) c1
            obtain ⟨y, hy, rfl⟩ := inB_vd (by omega) c2
            have hxy : x ≠ y := fun q => c3 (by rw [q])
            obtain ⟨hw, ew⟩ := inB_cl1 (b := 20) (by decide) c4
            have hw1 : 1 ≤ c.toNatClampNeg := by
              rcases Nat.eq_zero_or_pos c.toNatClampNeg with z | z
              · rw [z] at ew
                rw [ew] at c4
                exact absurd c4 (by decide)
              · exact z
            obtain ⟨Md, hMd⟩ : ∃ Md, Md = sr (sr (sr Ld 2 (rs 15 (Ld 2) (nI nr) (nI x))) 3 (rs 15 (Ld 3) (nI nr) (nI y))) 4 (rs 15 (Ld 4) (nI nr) c) := ⟨_, rfl⟩
            rw [← hMd]
            have m0 : Md 0 = Ld 0 := by rw [hMd]; rfl
            have m1 : Md 1 = Ld 1 := by rw [hMd]; rfl
            have m2 : ∀ j, Md 2 j = if j = nr then nI x else Ld 2 j := fun j => by
              rw [hMd]
              show rs 15 (Ld 2) (nI nr) (nI x) j = _
              exact row_k c5 (by decide)
            have m3 : ∀ j, Md 3 j = if j = nr then nI y else Ld 3 j := fun j => by
              rw [hMd]
              show rs 15 (Ld 3) (nI nr) (nI y) j = _
              exact row_k c5 (by decide)
            have m4 : ∀ j, Md 4 j = if j = nr then c else Ld 4 j := fun j => by
              rw [hMd]
              show rs 15 (Ld 4) (nI nr) c j = _
              exact row_k c5 (by decide)
            have nL : okL Md ns (nr + 1) := by
              refine ⟨h10, by omega, fun k hk => by rw [m0]; exact hht k hk, fun k hk => ?_⟩
              rw [m2, m3, m4]
              by_cases e : k = nr
              · rw [if_pos e, if_pos e, if_pos e]
                exact ⟨x, y, _, hx, hy, hxy, hw1, hw, rfl, rfl, ew⟩
              · rw [if_neg e, if_neg e, if_neg e]
                exact hrd k (by omega)
            have none : (gC Md Lm nm).1 nr = false := by
              show (!(decide (ofRC Lm nm (nI nr) ≤ 0))) = false
              cases z : decide (ofRC Lm nm (nI nr) ≤ 0) with
              | true => rfl
              | false =>
                obtain ⟨k, hk, hp⟩ := cI_some nm (of_decide_eq_false z)
                obtain ⟨⟨r, hr, er, -⟩, -⟩ := hU.2 k hk
                have h12 := hU.1
                have hp : rg 12 (Lm 0) (nI k) = nI nr := eq_of_beq hp
                rw [rg_k (by omega) (by decide), er, nI_eq (by omega) (by omega)] at hp
                omega
            have ag : ∀ j, j < nr → (gC Ld Lm nm).1 j = (gC Md Lm nm).1 j ∧ (gC Ld Lm nm).2.1 j = (gC Md Lm nm).2.1 j ∧ (gC Ld Lm nm).2.2.1 j = (gC Md Lm nm).2.2.1 j ∧ (gC Ld Lm nm).2.2.2.1 j = (gC Md Lm nm).2.2.2.1 j ∧ (gC Ld Lm nm).2.2.2.2 j = (gC Md Lm nm).2.2.2.2 j := fun j hj => by
              have e2 : rg 15 (Md 2) (nI j) = rg 15 (Ld 2) (nI j) := by rw [rg_k (by omega) (by decide), rg_k (by omega) (by decide), m2, if_neg (by omega)]
              have e3 : rg 15 (Md 3) (nI j) = rg 15 (Ld 3) (nI j) := by rw [rg_k (by omega) (by decide), rg_k (by omega) (by decide), m3, if_neg (by omega)]
              have e4 : rg 15 (Md 4) (nI j) = rg 15 (Ld 4) (nI j) := by rw [rg_k (by omega) (by decide), rg_k (by omega) (by decide), m4, if_neg (by omega)]
              have eh : ∀ s t, hrsC Md (nI j) s t = hrsC Ld (nI j) s t := fun s t => by
                unfold hrsC
                rw [e4, m0]
              refine ⟨rfl, ?_, ?_, ?_, ?_⟩
              · show (rg 15 (Ld 2) (nI j)).toNatClampNeg = (rg 15 (Md 2) (nI j)).toNatClampNeg
                rw [e2]
              · show (rg 15 (Ld 3) (nI j)).toNatClampNeg = (rg 15 (Md 3) (nI j)).toNatClampNeg
                rw [e3]
              · show (hrsC Ld (nI j) (rg 15 (Ld 2) (nI j)) (rg 15 (Ld 3) (nI j))).toNatClampNeg = (hrsC Md (nI j) (rg 15 (Md 2) (nI j)) (rg 15 (Md 3) (nI j))).toNatClampNeg
                rw [e2, e3, eh]
              · show (hrsC Ld (nI j) (rg 15 (Ld 3) (nI j)) (rg 15 (Ld 2) (nI j))).toNatClampNeg = (hrsC Md (nI j) (rg 15 (Md 3) (nI j)) (rg 15 (Md 2) (nI j))).toNatClampNeg
                rw [e2, e3, eh]
            have nY : okY W Md Lm (nr + 1) nm := by
              refine ⟨?_, fun a b ha hb => ?_⟩
              · rw [noD none, ← agW ag]; exact hY.1
              · rw [noF none, ← agF ag]; exact hY.2 a b ha hb
            have nU : okU Lm Md (nr + 1) nm := okU_ld hU (by omega) (fun r hr => ⟨by rw [m2, if_neg (by omega)], by rw [m3, if_neg (by omega)]⟩)
            have nD : rD Md (bdT L nr (nI x) (nI y) c) ns (nr + 1) := by
              refine ⟨fun k hk => by rw [m0, m1]; exact hD.1 k hk, fun k d hk hd => ?_⟩
              rw [bd2 c5]
              by_cases e : k = nr
              · subst e
                rw [if_pos (by omega), show 0 + (3 * k + d - 3 * k) = d by omega]
                rcases (show d = 0 ∨ d = 1 ∨ d = 2 by omega) with rfl | rfl | rfl
                · rw [m2, if_pos rfl]; rfl
                · rw [show 2 + 1 = 3 from rfl, m3, if_pos rfl]; rfl
                · rw [show 2 + 2 = 4 from rfl, m4, if_pos rfl]; rfl
              · rw [if_neg (by omega), hD.2 k d (by omega) hd]
                rcases (show d = 0 ∨ d = 1 ∨ d = 2 by omega) with rfl | rfl | rfl
                · rw [m2, if_neg e]
                · rw [show 2 + 1 = 3 from rfl, m3, if_neg e]
                · rw [show 2 + 2 = 4 from rfl, m4, if_neg e]
            exact ⟨⟨nL, nY, nU, hn, hO, hV, hI, nD, rM_of hM rfl, rE_of hE rfl, hh, h0, h1⟩, fun k i a b d => by rw [m1]; exact hB.1 k i a b d, fun k a b => by rw [m1]; exact hB.2 k a b⟩
          · have e : nr = 15 := by omega
            subst e
            rw [if_neg (show ¬ nI 15 < 15 by decide), if_pos (show nI 15 = 15 by decide)]
            exact ⟨rfl, fun _ => rfl, fun q => absurd q (by decide)⟩
        · rw [if_neg c4, if_neg c4]
          exact ⟨rfl, fun _ => rfl, fun q => absurd q (by decide)⟩
    · rw [if_neg c2, if_neg c2]
      exact ⟨rfl, fun _ => rfl, fun q => absurd q (by decide)⟩
  · rw [if_neg c1, if_neg c1]
    exact ⟨rfl, fun _ => rfl, fun q => absurd q (by decide)⟩
