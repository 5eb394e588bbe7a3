/-! the third step and the hours, the class's own beside the plain ones -/
theorem sd_own {W Ld Lm X L : Fm} {N : Rw} {wa : Int32} {ns nr nm ne : Nat} {cr : Int32} (hL : okL Ld ns nr) (hU : okU Lm Ld nr nm) (hn : ne ≤ 60) (hY : okY W Ld Lm nr nm) (hD : rD Ld L ns nr) (hM : rM Lm L nm) (hE : rE X L ne) (hO : okE X ns nm ne) (hI : okO X ne) (hV : mvI X Lm nm ne) (hW : rW W L) (h5 : rg 2 (L 5) 1 = cr) (hN : okN W X N ne) (hwa : ∀ l r, l < ne → r < nr → N l = nI r → btz wa r = true) : ∀ k, k ≤ nm →
    (sdG Lm X Ld N wa nm ne cr k).1 = (sdF W Lm X Ld ne cr k).1 ∧ (sdG Lm X Ld N wa nm ne cr k).2.1 = (sdF W Lm X Ld ne cr k).2.1 ∧ (sdG Lm X Ld N wa nm ne cr k).2.2.1 = (sdF W Lm X Ld ne cr k).2.2 ∧ okN W (sdF W Lm X Ld ne cr k).2.1 (sdG Lm X Ld N wa nm ne cr k).2.2.2.1 ne ∧ (∀ l, l < ne → (sdG Lm X Ld N wa nm ne cr k).2.2.2.1 l = N l ∨ (sdG Lm X Ld N wa nm ne cr k).2.2.2.1 l = -1) ∧ ((sdG Lm X Ld N wa nm ne cr k).2.2.2.2 = false → sdF W Lm X Ld ne cr k = (Lm, X, cr) ∧ ∀ m, m < k → uwC Lm (nI m) = false → ∀ l, l < ne → wbB W X (Lm 0 m) l = false)
  | 0, _ => ⟨rfl, rfl, rfl, hN, fun _ _ => Or.inl rfl, fun _ => ⟨rfl, fun m h => absurd h (Nat.not_lt_zero m)⟩⟩
  | k + 1, hk => by
    obtain ⟨g1, g2, g3, g4, g5, g6⟩ := sd_own hL hU hn hY hD hM hE hO hI hV hW h5 hN hwa k (by omega)
    obtain ⟨-, -, -, -, i5, i6, i7, -, -, i10, -⟩ := sd_rel hL hU hn hY hD hM hE hO hI hV hW h5 k (by omega)
    obtain ⟨-, -, -, -, n5, n6, n7, -, -, -, -⟩ := sd_rel hL hU hn hY hD hM hE hO hI hV hW h5 (k + 1) hk
    have hg : sdG Lm X Ld N wa nm ne cr (k + 1) = sgS Ld wa nm ne (sdG Lm X Ld N wa nm ne cr k) (nI k) := rfl
    rw [hg]
    rw [sdF] at n5 n6 n7 ⊢
    obtain ⟨S, hS⟩ : ∃ S, S = sdF W Lm X Ld ne cr k := ⟨_, rfl⟩
    rw [← hS] at g1 g2 g3 g4 g6 i5 i6 i7 i10 n5 n6 n7 ⊢
    obtain ⟨G, hG⟩ : ∃ G, G = sdG Lm X Ld N wa nm ne cr k := ⟨_, rfl⟩
    rw [← hG] at g1 g2 g3 g4 g5 g6 ⊢
    clear hG hS hg
    obtain ⟨GM, GL, Gc, NG, fl⟩ := G
    obtain ⟨SM, SL, Sc⟩ := S
    dsimp only at g1 g2 g3 g4 g5 g6 i5 i6 i7 i10 n5 n6 n7 ⊢
    subst g1 g2 g3
    have h12 := i5.1
    have hkm : k < nm := by omega
    have hk12 : k < 12 := by omega
    obtain ⟨⟨r, hr, e0, epl⟩, ⟨c, hc1, hc2, e1⟩, x, hx, ex⟩ := i5.2 k hkm
    have h15 := hL.2.1
    obtain ⟨p, q, y, hp, hq, hpq, e2, eo, hy1, hy2, eh, hends⟩ := ends_at hL hr epl
    have huw := uw_iff hk12 hx ex
    have r0 : rg 12 (GM 0) (nI k) = nI r := by rw [rg_k hk12 (by decide)]; exact e0
    have r1 : rg 12 (GM 1) (nI k) = nI c := by rw [rg_k hk12 (by decide)]; exact e1
    have r2 : rg 12 (GM 2) (nI k) = nI p := by rw [rg_k hk12 (by decide)]; exact e2
    have hIS : okO GL ne := okO_of hI (i10 2 (by decide) (by decide) (by decide)) (i10 10 (by decide) (by decide) (by decide))
    by_cases z : uwC GM (nI k) = true
    · have s1 : sgS Ld wa nm ne (GM, GL, Gc, NG, fl) (nI k) = (GM, GL, Gc, NG, fl) := if_pos z
      rw [if_pos z, s1]
      refine ⟨rfl, rfl, rfl, g4, g5, fun f => ⟨(g6 f).1, fun m hm hu => ?_⟩⟩
      by_cases em : m = k
      · subst em
        have e := congrArg Prod.fst (g6 f).1
        have e : GM = Lm := e
        rw [e, hu] at z
        exact Bool.noConfusion z
      · exact (g6 f).2 m (by omega) hu
    · rw [if_neg z] at n5 n6 n7 ⊢
      have eK : ldC W GM GL ne (nI k) = ldF W GL (nI p) (nI r) (nI k) (nI c) ne := by
        show ldF W GL (rg 12 (GM 2) (nI k)) (rg 12 (GM 0) (nI k)) (nI k) (rg 12 (GM 1) (nI k)) ne = _
        rw [r0, r1, r2]
      have eC : leC GM GL NG ne (nI k) = leF GL NG (nI p) (nI r) (nI k) (nI c) ne := by
        show leF GL NG (rg 12 (GM 2) (nI k)) (rg 12 (GM 0) (nI k)) (nI k) (rg 12 (GM 1) (nI k)) ne = _
        rw [r0, r1, r2]
      obtain ⟨f1, f2, f3, f4⟩ := le_own (p := p) hn hkm h12 hc2 (by omega) i6 hIS g4 (r := r) ne (Nat.le_refl _)
      obtain ⟨-, -, -, -, k5, -, -⟩ := ld_inv (W := W) (here := nI p) (road := nI r) hn hkm h12 hc2 i6 hIS ne (Nat.le_refl _)
      rw [← eK] at f1 f2 f3 k5
      rw [← eC] at f1 f2 f3 f4
      have still : fl = false → (∀ l, l < ne → wbB W GL (nI r) l = false) → ∀ m, m < k + 1 → uwC Lm (nI m) = false → ∀ l, l < ne → wbB W X (Lm 0 m) l = false := fun f hw m hm hu l hl => by
        by_cases em : m = k
        · subst em
          have a := congrArg Prod.fst (g6 f).1
          have a : GM = Lm := a
          have b := congrArg (fun t : Fm × Fm × Int32 => t.2.1) (g6 f).1
          have b : GL = X := b
          rw [← a, ← b, e0]
          exact hw l hl
        · exact (g6 f).2 m (by omega) hu l hl
      by_cases b : bH wa (nI r) = true
      · by_cases hh : (ldC W GM GL ne (nI k)).2.2 = true
        · have hh2 : (leC GM GL NG ne (nI k)).2.2.2 = true := by rw [f2]; exact hh
          have s1 : sgS Ld wa nm ne (GM, GL, Gc, NG, fl) (nI k) = (outM Ld GM (nI k), (leC GM GL NG ne (nI k)).1, ouC Ld GM (leC GM GL NG ne (nI k)).1 nm ne (nI k) Gc, (leC GM GL NG ne (nI k)).2.1, true) := by
            show (if uwC GM (nI k) = true then _ else if bH wa (rg 12 (GM 0) (nI k)) = true then (if (leC GM GL NG ne (nI k)).2.2.2 = true then _ else _) else _) = _
            rw [if_neg z, r0, if_pos b, if_pos hh2]
          rw [if_pos hh] at n5 n6 n7 ⊢
          rw [s1]
          have hN3 : ¬ outM Ld GM (nI k) 3 k = 0 := by
            rw [out_at hk12 e2 e0 eo eh, out_row hk12, if_neg (by omega), if_pos ⟨rfl, rfl⟩]
            exact nI_ne0 (by omega) (by omega)
          have hN0 : outM Ld GM (nI k) 0 = GM 0 := by
            funext j
            rw [out_at hk12 e2 e0 eo eh, out_row hk12, if_neg (by omega), if_neg (by omega)]
          have eu := ou_own (cr := Gc) (Lm := GM) hn hkm n5 n6 n7 rfl hN0 hN3
          refine ⟨rfl, f1, ?_, f3, fun l hl => ?_, fun f => Bool.noConfusion f⟩
          · show ouC Ld GM (leC GM GL NG ne (nI k)).1 nm ne (nI k) Gc = _
            rw [f1]
            exact eu
          · rcases f4 l hl with w | w
            · rcases g5 l hl with v | v
              · exact Or.inl (w.trans v)
              · exact Or.inr (w.trans v)
            · exact Or.inr w
        · have hh2 : ¬ (leC GM GL NG ne (nI k)).2.2.2 = true := by rw [f2]; exact hh
          have s1 : sgS Ld wa nm ne (GM, GL, Gc, NG, fl) (nI k) = (GM, (leC GM GL NG ne (nI k)).1, Gc, (leC GM GL NG ne (nI k)).2.1, fl) := by
            show (if uwC GM (nI k) = true then _ else if bH wa (rg 12 (GM 0) (nI k)) = true then (if (leC GM GL NG ne (nI k)).2.2.2 = true then _ else _) else _) = _
            rw [if_neg z, r0, if_pos b, if_neg hh2]
          rw [if_neg hh, s1]
          have none : ∀ l, l < ne → wbB W GL (nI r) l = false := fun l hl => by
            cases w : wbB W GL (nI r) l with
            | false => rfl
            | true =>
              obtain ⟨i, hi, ei⟩ := hIS.2.1 l hl
              exact absurd (k5.mpr ⟨i, l, hi, hl, ei, w⟩) hh
          have eS : (ldC W GM GL ne (nI k)).1 = GL := by rw [eK, ld_none hn hIS none ne (Nat.le_refl _)]
          refine ⟨rfl, f1, rfl, f3, fun l hl => ?_, fun f => ⟨?_, still f none⟩⟩
          · rcases f4 l hl with w | w
            · rcases g5 l hl with v | v
              · exact Or.inl (w.trans v)
              · exact Or.inr (w.trans v)
            · exact Or.inr w
          · rw [eS]
            exact (g6 f).1
      · have s1 : sgS Ld wa nm ne (GM, GL, Gc, NG, fl) (nI k) = (GM, GL, Gc, NG, fl) := by
          show (if uwC GM (nI k) = true then _ else if bH wa (rg 12 (GM 0) (nI k)) = true then (if (leC GM GL NG ne (nI k)).2.2.2 = true then _ else _) else _) = _
          rw [if_neg z, r0, if_neg b]
        have none : ∀ l, l < ne → wbB W GL (nI r) l = false := fun l hl => by
          cases w : wbB W GL (nI r) l with
          | false => rfl
          | true =>
            have w2 : NG l = nI r := by rw [g4 l hl]; exact (fnR_wb (by omega) (by omega)).mpr w
            rcases g5 l hl with v | v
            · exact absurd ((bH_bit (by omega)).trans (hwa l r hl hr (v.symm.trans w2))) b
            · exact absurd (w2.symm.trans v) (n_m1 (by omega))
        have eS : ldC W GM GL ne (nI k) = (GL, nI c, false) := by rw [eK, ld_none hn hIS none ne (Nat.le_refl _)]
        rw [eS, s1]
        dsimp only
        rw [if_neg Bool.false_ne_true]
        exact ⟨rfl, rfl, rfl, g4, g5, fun f => ⟨(g6 f).1, still f none⟩⟩
/-! hours in which nothing changes -/
theorem sp_still {L Ld : Fm} {ns : Nat} {fog h l : Int32} (hs : spD L Ld ns fog l = false) : spS L Ld ns fog h l = L := by
  have key : litC Ld ns fog (rg 60 (L 6) l) = rg 60 (L 6) l → sr L 6 (rs 60 (L 6) l (litC Ld ns fog (rg 60 (L 6) l))) = L := fun e => by rw [e, rs_self, sr_self]
  have last : (if litC Ld ns fog (rg 60 (L 6) l) = rg 60 (L 6) l then false else true) = false → sr L 6 (rs 60 (L 6) l (litC Ld ns fog (rg 60 (L 6) l))) = L := fun q => by
    by_cases e : litC Ld ns fog (rg 60 (L 6) l) = rg 60 (L 6) l
    · exact key e
    · rw [if_neg e] at q
      exact Bool.noConfusion q
  unfold spD at hs
  unfold spS
  by_cases c1 : isRecC L l = true
  · rw [if_pos c1] at hs ⊢
    by_cases c2 : rg 60 (L 3) l = 0
    · rw [if_pos c2] at hs ⊢
      by_cases c3 : rg 60 (L 7) l = 0
      · rw [if_pos c3] at hs ⊢
        by_cases c4 : bH (litC Ld ns fog (rg 60 (L 6) l)) (rg 60 (L 4) l) = true
        · rw [if_pos c4] at hs
          exact Bool.noConfusion hs
        · rw [if_neg c4] at hs ⊢
          exact last hs
      · rw [if_neg c3] at hs ⊢
        exact last hs
    · rw [if_neg c2] at hs ⊢
      exact last hs
  · rw [if_neg c1]
theorem spF_still {L Ld : Fm} {ns ne : Nat} {fog h : Int32} (hs : ∀ l, l < ne → spD L Ld ns fog (nI l) = false) : ∀ k, k ≤ ne → spF L Ld ns fog h k = L
  | 0, _ => rfl
  | k + 1, hk => by
    rw [spF, spF_still hs k (by omega)]
    exact sp_still (hs k (by omega))
theorem spB_no {L Ld : Fm} {ns : Nat} {fog h : Int32} : ∀ k, spB L Ld ns fog h k = false → ∀ l, l < k → spD L Ld ns fog (nI l) = false
  | 0, _, l, hl => absurd hl (Nat.not_lt_zero l)
  | k + 1, hb, l, hl => by
    rw [spB, Bool.or_eq_false_iff] at hb
    have ih := spB_no k hb.1
    by_cases e : l = k
    · subst e
      have h2 := hb.2
      rw [spF_still ih l (Nat.le_refl _)] at h2
      exact h2
    · exact ih l (by omega)
theorem brF_still {M L : Fm} {ne nm : Nat} {h : Int32} (hs : ∀ m, m < nm → uwC M (nI m) = false) : ∀ k, k ≤ nm → brF M L ne h k = (M, L)
  | 0, _ => rfl
  | k + 1, hk => by
    rw [brF, brF_still hs k (by omega)]
    exact if_neg (fun q => by rw [show uwC M (nI k) = false from hs k (by omega)] at q; exact Bool.noConfusion q)
theorem brB_no {M L : Fm} {ne : Nat} {h : Int32} : ∀ k, brB M L ne h k = false → ∀ m, m < k → uwC M (nI m) = false
  | 0, _, m, hm => absurd hm (Nat.not_lt_zero m)
  | k + 1, hb, m, hm => by
    rw [brB, Bool.or_eq_false_iff] at hb
    have ih := brB_no k hb.1
    by_cases e : m = k
    · subst e
      have h2 := hb.2
      rw [brF_still ih m (Nat.le_refl _)] at h2
      exact h2
    · exact ih m (by omega)
theorem sd_still {W M L Ld : Fm} {ne nm : Nat} {cr : Int32} (h12 : nm ≤ 12) (hn : ne ≤ 60) (hI : okO L ne) (hs : ∀ m, m < nm → uwC M (nI m) = false) (hw : ∀ m l, m < nm → l < ne → wbB W L (M 0 m) l = false) : ∀ k, k ≤ nm → sdF W M L Ld ne cr k = (M, L, cr)
  | 0, _ => rfl
  | k + 1, hk => by
    rw [sdF, sd_still h12 hn hI hs hw k (by omega)]
    dsimp only
    have e : ldC W M L ne (nI k) = (L, rg 12 (M 1) (nI k), false) := by
      unfold ldC
      rw [rg_k (f := M 0) (show k < 12 by omega) (by decide)]
      exact ld_none hn hI (fun l hl => hw k l (by omega) hl) ne (Nat.le_refl _)
    rw [if_neg (show ¬ uwC M (nI k) = true by rw [hs k (by omega)]; exact Bool.false_ne_true), e]
    exact if_neg Bool.false_ne_true
/-- nothing moves, nothing is lit anew, no letter calls a mule -/
def quiet (W Ld : Fm) (ns : Nat) (fog : Int32) (nm ne : Nat) (M L : Fm) : Prop := (∀ m, m < nm → uwC M (nI m) = false) ∧ (∀ l, l < ne → spD L Ld ns fog (nI l) = false) ∧ ∀ m l, m < nm → l < ne → wbB W L (M 0 m) l = false
theorem ho_quiet {W Ld M L : Fm} {ns nm ne : Nat} {fog hou cro : Int32} (h12 : nm ≤ 12) (hn : ne ≤ 60) (hI : okO L ne) (hq : quiet W Ld ns fog nm ne M L) : hoS W Ld ns fog nm ne (M, L, hou, cro) = (M, L, hou + 1, cro) := by
  have b := brF_still (L := L) (ne := ne) (h := hou) hq.1 nm (Nat.le_refl _)
  have s := spF_still (h := hou) hq.2.1 ne (Nat.le_refl _)
  have d := sd_still (W := W) (Ld := Ld) (cr := cro) h12 hn hI hq.1 hq.2.2 nm (Nat.le_refl _)
  unfold hoS
  dsimp only
  rw [b]
  dsimp only
  rw [s, d]
theorem hg_step {W Ld L : Fm} {X : Hs} {Y : Fm × Fm × Int32 × Int32} {fog : Int32} {ns nr nm ne h : Nat} (hR : REL W Ld Y.1 Y.2.1 Y.2.2.1 Y.2.2.2 L ns nr nm ne h) (hh : h + 1 < 2 ^ 30) (a1 : X.1 = Y.1) (a2 : X.2.1 = Y.2.1) (a3 : X.2.2.1 = Y.2.2.1) (a4 : X.2.2.2.1 = Y.2.2.2) (a5 : X.2.2.2.2.2 = false → quiet W Ld ns fog nm ne Y.1 Y.2.1) :
    ((hgS W Ld ns fog nm ne X).1 = (hoS W Ld ns fog nm ne Y).1 ∧ (hgS W Ld ns fog nm ne X).2.1 = (hoS W Ld ns fog nm ne Y).2.1 ∧ (hgS W Ld ns fog nm ne X).2.2.1 = (hoS W Ld ns fog nm ne Y).2.2.1 ∧ (hgS W Ld ns fog nm ne X).2.2.2.1 = (hoS W Ld ns fog nm ne Y).2.2.2) ∧ ((hgS W Ld ns fog nm ne X).2.2.2.2.2 = false → quiet W Ld ns fog nm ne (hoS W Ld ns fog nm ne Y).1 (hoS W Ld ns fog nm ne Y).2.1) := by
  obtain ⟨M, E, hou, cro⟩ := Y
  obtain ⟨M', E', hou', cro', N, st⟩ := X
  dsimp only at hR a1 a2 a3 a4 a5
  subst a1 a2 a3 a4
  obtain ⟨hL, hY, hU, hn, hO, hV, hI, hD, hM, hE, rfl, h0, h1⟩ := hR
  cases st with
  | false =>
    have q := a5 rfl
    have e : hoS W Ld ns fog nm ne (M', E', nI h, cro') = (M', E', nI h + 1, cro') := ho_quiet hU.1 hn hI q
    have e2 : hgS W Ld ns fog nm ne (M', E', nI h, cro', N, false) = (M', E', nI h + 1, cro', N, false) := if_neg Bool.false_ne_true
    rw [e, e2]
    exact ⟨⟨rfl, rfl, rfl, rfl⟩, fun _ => q⟩
  | true =>
    clear a5
    obtain ⟨R, hRk⟩ : ∃ R, R = rkM L ns nr nm := ⟨_, rfl⟩
    have rr : ∀ i, i ≠ 6 → i ≠ 7 → R i = L i := fun i a b => by rw [hRk]; exact rkM_q L ns nr nm a b
    have hWR : rW W R := by rw [hRk]; exact rel_W hL hY hU hD hM
    obtain ⟨b1, b2, b3, b4, b5, b6, b7, b8, b9⟩ := br_rel hL hU hn hO hV (rM_of hM (rr 3 (by decide) (by decide))) (rE_of hE (rr 4 (by decide) (by decide))) (show rg 2 (R 5) 0 = nI h by rw [rr 5 (by decide) (by decide)]; exact h0) (by omega) nm (Nat.le_refl _)
    have sB := brB_no (M := M') (L := E') (ne := ne) (h := nI h) nm
    have sB2 := fun q => brF_still (L := E') (ne := ne) (h := nI h) (sB q) nm (Nat.le_refl _)
    have eX : hgS W Ld ns fog nm ne (M', E', nI h, cro', N, true) = ((sdG (brF M' E' ne (nI h) nm).1 (spF (brF M' E' ne (nI h) nm).2 Ld ns fog (nI h) ne) Ld (fnF W (spF (brF M' E' ne (nI h) nm).2 Ld ns fog (nI h) ne) N ne).1 (fnF W (spF (brF M' E' ne (nI h) nm).2 Ld ns fog (nI h) ne) N ne).2 nm ne cro' nm).1, (sdG (brF M' E' ne (nI h) nm).1 (spF (brF M' E' ne (nI h) nm).2 Ld ns fog (nI h) ne) Ld (fnF W (spF (brF M' E' ne (nI h) nm).2 Ld ns fog (nI h) ne) N ne).1 (fnF W (spF (brF M' E' ne (nI h) nm).2 Ld ns fog (nI h) ne) N ne).2 nm ne cro' nm).2.1, nI h + 1, (sdG (brF M' E' ne (nI h) nm).1 (spF (brF M' E' ne (nI h) nm).2 Ld ns fog (nI h) ne) Ld (fnF W (spF (brF M' E' ne (nI h) nm).2 Ld ns fog (nI h) ne) N ne).1 (fnF W (spF (brF M' E' ne (nI h) nm).2 Ld ns fog (nI h) ne) N ne).2 nm ne cro' nm).2.2.1, (sdG (brF M' E' ne (nI h) nm).1 (spF (brF M' E' ne (nI h) nm).2 Ld ns fog (nI h) ne) Ld (fnF W (spF (brF M' E' ne (nI h) nm).2 Ld ns fog (nI h) ne) N ne).1 (fnF W (spF (brF M' E' ne (nI h) nm).2 Ld ns fog (nI h) ne) N ne).2 nm ne cro' nm).2.2.2.1, brB M' E' ne (nI h) nm || (spB (brF M' E' ne (nI h) nm).2 Ld ns fog (nI h) ne || (sdG (brF M' E' ne (nI h) nm).1 (spF (brF M' E' ne (nI h) nm).2 Ld ns fog (nI h) ne) Ld (fnF W (spF (brF M' E' ne (nI h) nm).2 Ld ns fog (nI h) ne) N ne).1 (fnF W (spF (brF M' E' ne (nI h) nm).2 Ld ns fog (nI h) ne) N ne).2 nm ne cro' nm).2.2.2.2)) := if_pos rfl
    have eY : hoS W Ld ns fog nm ne (M', E', nI h, cro') = ((sdF W (brF M' E' ne (nI h) nm).1 (spF (brF M' E' ne (nI h) nm).2 Ld ns fog (nI h) ne) Ld ne cro' nm).1, (sdF W (brF M' E' ne (nI h) nm).1 (spF (brF M' E' ne (nI h) nm).2 Ld ns fog (nI h) ne) Ld ne cro' nm).2.1, nI h + 1, (sdF W (brF M' E' ne (nI h) nm).1 (spF (brF M' E' ne (nI h) nm).2 Ld ns fog (nI h) ne) Ld ne cro' nm).2.2) := rfl
    rw [eX, eY]
    clear eX eY
    obtain ⟨B, hB⟩ : ∃ B, B = brF M' E' ne (nI h) nm := ⟨_, rfl⟩
    obtain ⟨P, hP⟩ : ∃ P, P = bmF ne R nm := ⟨_, rfl⟩
    rw [← hB] at b1 b2 b3 b4 b5 b7 b8 b9 sB2 ⊢
    rw [← hP] at b1 b2 b6 b7
    have pr : ∀ i, i ≠ 3 → i ≠ 4 → i ≠ 6 → i ≠ 7 → P.1 i = L i := fun i a b c d => (b6 i a b).trans (rr i c d)
    have hDP : rD Ld P.1 ns nr := rD_of hD (pr 0 (by decide) (by decide) (by decide) (by decide)) (pr 1 (by decide) (by decide) (by decide) (by decide)) (pr 2 (by decide) (by decide) (by decide) (by decide))
    obtain ⟨s1, s2, s3, s4, s5⟩ := sp_rel (fog := fog) hn hL.1 hDP b2 b4 (show rg 2 (P.1 5) 0 = nI h by rw [pr 5 (by decide) (by decide) (by decide) (by decide)]; exact h0) (by omega) ne (Nat.le_refl _)
    have sP1 := spB_no (L := B.2) (Ld := Ld) (ns := ns) (fog := fog) (h := nI h) ne
    have sP2 := fun q => spF_still (h := nI h) (sP1 q) ne (Nat.le_refl _)
    obtain ⟨S, hS⟩ : ∃ S, S = spF B.2 Ld ns fog (nI h) ne := ⟨_, rfl⟩
    obtain ⟨F, hF⟩ : ∃ F, F = frF P.1 ns fog ne := ⟨_, rfl⟩
    rw [← hS] at s1 s2 s3 s5 sP2 ⊢
    rw [← hF] at s1 s4
    have fr : ∀ i, i ≠ 3 → i ≠ 4 → i ≠ 6 → i ≠ 7 → F i = L i := fun i a b c d => (s4 i b).trans (pr i a b c d)
    have hDF : rD Ld F ns nr := rD_of hD (fr 0 (by decide) (by decide) (by decide) (by decide)) (fr 1 (by decide) (by decide) (by decide) (by decide)) (fr 2 (by decide) (by decide) (by decide) (by decide))
    have hVS : mvI S B.1 nm ne := fun l m hl hm a b => b5 l m hl hm ((s3 l hl).1.mp a) ((s3 l hl).2.2.symm.trans b)
    have hIS : okO S ne := okO_of (okO_of hI (b9 2 (by decide) (by decide) (by decide) (by decide)) (b9 10 (by decide) (by decide) (by decide) (by decide))) (s5 2 (by decide) (by decide) (by decide) (by decide) (by decide) (by decide)) (s5 10 (by decide) (by decide) (by decide) (by decide) (by decide) (by decide))
    have hWF : rW W F := fun a b ha hb => by rw [s4 7 (by decide), b6 7 (by decide) (by decide)]; exact hWR a b ha hb
    have hYB : okY W Ld B.1 nr nm := okY_of hY b8
    have hN : okN W S (fnF W S N ne).1 ne := fun l hl => by rw [fn_at hn ne (Nat.le_refl _) l hl, if_pos hl]
    have hwa : ∀ l r, l < ne → r < nr → (fnF W S N ne).1 l = nI r → btz (fnF W S N ne).2 r = true := fun l r hl hr e => fn_wa (by have := hL.2.1; omega) ne l hl ((hN l hl).symm.trans e)
    obtain ⟨g1, g2, g3, -, -, g6⟩ := sd_own hL b3 hn hYB hDF (rM_of b1 (s4 3 (by decide))) s1 s2 hIS hVS hWF (show rg 2 (F 5) 1 = cro' by rw [fr 5 (by decide) (by decide) (by decide) (by decide)]; exact h1) hN hwa nm (Nat.le_refl _)
    refine ⟨⟨g1, g2, rfl, g3⟩, fun q => ?_⟩
    dsimp only at q ⊢
    rw [Bool.or_eq_false_iff, Bool.or_eq_false_iff] at q
    obtain ⟨q1, q2, q3⟩ := q
    obtain ⟨u1, u2⟩ := g6 q3
    have eB := sB2 q1
    have eS := sP2 q2
    have eB1 : B.1 = M' := by rw [eB]
    have eB2 : B.2 = E' := by rw [eB]
    rw [u1]
    show quiet W Ld ns fog nm ne B.1 S
    refine ⟨fun m hm => by rw [eB1]; exact sB q1 m hm, fun l hl => by rw [eS]; exact sP1 q2 l hl, fun m l hm hl => ?_⟩
    exact u2 m hm (by rw [eB1]; exact sB q1 m hm) l hl
theorem hg_eq {W Ld Lm Le L : Fm} {hou cro fog : Int32} {N : Rw} {ns nr nm ne h : Nat} (hR : REL W Ld Lm Le hou cro L ns nr nm ne h) : ∀ k, h + k < 2 ^ 30 →
    ((hgF W Ld ns fog nm ne (Lm, Le, hou, cro, N, true) k).1 = (hoF W Ld ns fog nm ne (Lm, Le, hou, cro) k).1 ∧ (hgF W Ld ns fog nm ne (Lm, Le, hou, cro, N, true) k).2.1 = (hoF W Ld ns fog nm ne (Lm, Le, hou, cro) k).2.1 ∧ (hgF W Ld ns fog nm ne (Lm, Le, hou, cro, N, true) k).2.2.1 = (hoF W Ld ns fog nm ne (Lm, Le, hou, cro) k).2.2.1 ∧ (hgF W Ld ns fog nm ne (Lm, Le, hou, cro, N, true) k).2.2.2.1 = (hoF W Ld ns fog nm ne (Lm, Le, hou, cro) k).2.2.2) ∧ ((hgF W Ld ns fog nm ne (Lm, Le, hou, cro, N, true) k).2.2.2.2.2 = false → quiet W Ld ns fog nm ne (hoF W Ld ns fog nm ne (Lm, Le, hou, cro) k).1 (hoF W Ld ns fog nm ne (Lm, Le, hou, cro) k).2.1)
  | 0, _ => ⟨⟨rfl, rfl, rfl, rfl⟩, fun q => Bool.noConfusion q⟩
  | k + 1, hk => by
    obtain ⟨⟨a1, a2, a3, a4⟩, a5⟩ := hg_eq (fog := fog) (N := N) hR k (by omega)
    obtain ⟨i1, -⟩ := pa_rel (fog := fog) hR k (by omega)
    exact hg_step i1 (by omega) a1 a2 a3 a4 a5
theorem hg_rel {W Ld Lm Le L : Fm} {hou cro fog : Int32} {N : Rw} {ns nr nm ne h k : Nat} (hR : REL W Ld Lm Le hou cro L ns nr nm ne h) (hk : h + k < 2 ^ 30) : REL W Ld (hgF W Ld ns fog nm ne (Lm, Le, hou, cro, N, true) k).1 (hgF W Ld ns fog nm ne (Lm, Le, hou, cro, N, true) k).2.1 (hgF W Ld ns fog nm ne (Lm, Le, hou, cro, N, true) k).2.2.1 (hgF W Ld ns fog nm ne (Lm, Le, hou, cro, N, true) k).2.2.2.1 (paF L ns fog nr nm ne k).1 ns nr nm ne (h + k) := by
  obtain ⟨⟨a1, a2, a3, a4⟩, -⟩ := hg_eq (fog := fog) (N := N) hR k hk
  rw [a1, a2, a3, a4]
  exact (pa_rel (fog := fog) hR k hk).1
theorem cm_hg {W Ld Lm Le L : Fm} {hou cro fog : Int32} {N : Rw} {ns nr nm ne h k : Nat} (hR : REL W Ld Lm Le hou cro L ns nr nm ne h) (hk : h + k < 2 ^ 30) : (paF L ns fog nr nm ne k).2 = cmN W Ld ns fog nm ne Lm Le hou cro N k := by
  unfold cmN
  rw [(hg_eq (fog := fog) (N := N) hR k hk).1.2.1]
  exact cm_rel hR hk
/-! a letter that has come, or is back, stays so -/
theorem unl_keep {L M : Fm} {m h : Int32} {l c : Nat} (h1 : ¬ L 3 l = 1) (h6 : c ≠ 6) (h10 : c ≠ 10) : ∀ k, k ≤ 60 → unlF L M m h k 3 l = L 3 l ∧ unlF L M m h k c l = L c l
  | 0, _ => ⟨rfl, rfl⟩
  | k + 1, hk => by
    obtain ⟨i1, i2⟩ := unl_keep (M := M) (m := m) (h := h) h1 h6 h10 k (by omega)
    rw [unlF]
    by_cases w : withC (unlF L M m h k) (nI k) m = true
    · rw [if_pos w]
      by_cases e : l = k
      · subst e
        unfold withC at w
        rw [Bool.and_eq_true, beq_iff_eq, rg_k (show l < 60 by omega) (by decide), i1] at w
        exact absurd w.1 h1
      · exact ⟨(lay_at (show k < 60 by omega) e (by decide) (by decide)).trans i1, (lay_at (show k < 60 by omega) e h6 h10).trans i2⟩
    · rw [if_neg w]
      exact ⟨i1, i2⟩
theorem br_keep {M L : Fm} {ne : Nat} {h : Int32} {l c : Nat} (hn : ne ≤ 60) (h1 : ¬ L 3 l = 1) (h6 : c ≠ 6) (h10 : c ≠ 10) : ∀ k, (brF M L ne h k).2 3 l = L 3 l ∧ (brF M L ne h k).2 c l = L c l
  | 0 => ⟨rfl, rfl⟩
  | k + 1 => by
    obtain ⟨i1, i2⟩ := br_keep (M := M) (h := h) hn h1 h6 h10 k
    rw [brF]
    by_cases w : uwC (brF M L ne h k).1 (nI k) = true
    · rw [if_pos w]
      by_cases v : uwC (brM (brF M L ne h k).1 (nI k)) (nI k) = true
      · rw [if_pos v]
        exact ⟨i1, i2⟩
      · rw [if_neg v]
        obtain ⟨j1, j2⟩ := unl_keep (L := (brF M L ne h k).2) (M := brM (brF M L ne h k).1 (nI k)) (m := nI k) (h := h) (c := c) (by rw [i1]; exact h1) h6 h10 ne hn
        exact ⟨j1.trans i1, j2.trans i2⟩
    · rw [if_neg w]
      exact ⟨i1, i2⟩
theorem sp_keep {L Ld : Fm} {ns : Nat} {fog h : Int32} {l c : Nat} (h0 : ¬ L 3 l = 0) (h6 : c ≠ 6) (h10 : c ≠ 10) (h7 : c ≠ 7) : ∀ k, k ≤ 60 → spF L Ld ns fog h k 3 l = L 3 l ∧ spF L Ld ns fog h k c l = L c l
  | 0, _ => ⟨rfl, rfl⟩
  | k + 1, hk => by
    obtain ⟨i1, i2⟩ := sp_keep (Ld := Ld) (ns := ns) (fog := fog) (h := h) h0 h6 h10 h7 k (by omega)
    rw [spF]
    obtain ⟨X, hX⟩ : ∃ X, X = spF L Ld ns fog h k := ⟨_, rfl⟩
    rw [← hX] at i1 i2 ⊢
    have s6 : ∀ v j, j ≠ 6 → sr X 6 v j = X j := fun v j hj => sr_n hj
    have p : ∀ v, sr X 6 v 3 l = L 3 l ∧ sr X 6 v c l = L c l := fun v => by rw [s6 v 3 (by decide), s6 v c h6]; exact ⟨i1, i2⟩
    unfold spS
    by_cases c1 : isRecC X (nI k) = true
    · rw [if_pos c1]
      by_cases c2 : rg 60 (X 3) (nI k) = 0
      · have e : l ≠ k := fun e => by
          rw [rg_k (show k < 60 by omega) (by decide), ← e, i1] at c2
          exact h0 c2
        rw [if_pos c2]
        by_cases c3 : rg 60 (X 7) (nI k) = 0
        · rw [if_pos c3]
          by_cases c4 : bH (litC Ld ns fog (rg 60 (X 6) (nI k))) (rg 60 (X 4) (nI k)) = true
          · rw [if_pos c4]
            unfold turnC
            refine ⟨(lay_at (show k < 60 by omega) e (by decide) (by decide)).trans ?_, (lay_at (show k < 60 by omega) e h6 h10).trans ?_⟩
            · rw [sr_n (show (3 : Nat) ≠ 7 by decide)]
              exact (p _).1
            · rw [sr_n h7]
              exact (p _).2
          · rw [if_neg c4]
            exact p _
        · rw [if_neg c3]
          exact p _
      · rw [if_neg c2]
        exact p _
    · rw [if_neg c1]
      exact ⟨i1, i2⟩
theorem ldF_r {W X : Fm} {here road m room : Int32} {w : Nat} (h3 : w ≠ 3) (h4 : w ≠ 4) (h5 : w ≠ 5) : ∀ i, (ldF W X here road m room i).1 w = X w
  | 0 => rfl
  | i + 1 => by
    have ih := ldF_r (W := W) (X := X) (here := here) (road := road) (m := m) (room := room) h3 h4 h5 i
    show (ldS W (ldF W X here road m room i).1 here road m (ldF W X here road m room i).2.1 (ldF W X here road m room i).2.2 (rg 60 ((ldF W X here road m room i).1 10) (nI i))).1 w = X w
    unfold ldS
    repeat' split
    all_goals first | exact ih | exact (hand_r h3 h4 h5).trans ih
theorem sdF_r {W M L Ld : Fm} {ne : Nat} {cr : Int32} {w : Nat} (h3 : w ≠ 3) (h4 : w ≠ 4) (h5 : w ≠ 5) : ∀ k, (sdF W M L Ld ne cr k).2.1 w = L w
  | 0 => rfl
  | k + 1 => by
    have ih := sdF_r (W := W) (M := M) (L := L) (Ld := Ld) (ne := ne) (cr := cr) h3 h4 h5 k
    rw [sdF]
    split
    · exact ih
    · split
      · exact (ldF_r h3 h4 h5 ne).trans ih
      · exact (ldF_r h3 h4 h5 ne).trans ih
theorem ho_keep {W Ld M L : Fm} {ns nm ne l : Nat} {fog hou cro : Int32} (hn : ne ≤ 60) (h0 : ¬ L 3 l = 0) (h1 : ¬ L 3 l = 1) : (hoS W Ld ns fog nm ne (M, L, hou, cro)).2.1 9 l = L 9 l := by
  show (sdF W (brF M L ne hou nm).1 (spF (brF M L ne hou nm).2 Ld ns fog hou ne) Ld ne cro nm).2.1 9 l = L 9 l
  rw [sdF_r (by decide) (by decide) (by decide)]
  obtain ⟨b1, b2⟩ := br_keep (M := M) (h := hou) (c := 9) hn h1 (by decide) (by decide) nm
  rw [(sp_keep (L := (brF M L ne hou nm).2) (l := l) (c := 9) (by rw [b1]; exact h0) (by decide) (by decide) (by decide) ne hn).2, b2]
theorem hoF_keep {W Ld Lm Le L : Fm} {hou cro fog : Int32} {ns nr nm ne h l k : Nat} (hR : REL W Ld Lm Le hou cro L ns nr nm ne h) (hl : l < ne) (h9 : ¬ (hoF W Ld ns fog nm ne (Lm, Le, hou, cro) k).2.1 9 l = -1) : ∀ j, h + (k + j) < 2 ^ 30 → (hoF W Ld ns fog nm ne (Lm, Le, hou, cro) (k + j)).2.1 9 l = (hoF W Ld ns fog nm ne (Lm, Le, hou, cro) k).2.1 9 l
  | 0, _ => rfl
  | j + 1, hj => by
    have ih := hoF_keep hR hl h9 j (by omega)
    obtain ⟨i1, -⟩ := pa_rel (fog := fog) hR (k + j) (by omega)
    have hn : ne ≤ 60 := hR.2.2.2.1
    have hO := i1.2.2.2.2.1
    show (hoS W Ld ns fog nm ne (hoF W Ld ns fog nm ne (Lm, Le, hou, cro) (k + j))).2.1 9 l = _
    rw [← ih] at h9 ⊢
    obtain ⟨Y, hY⟩ : ∃ Y, Y = hoF W Ld ns fog nm ne (Lm, Le, hou, cro) (k + j) := ⟨_, rfl⟩
    rw [← hY] at h9 hO ⊢
    obtain ⟨M, E, hu, cu⟩ := Y
    dsimp only at h9 hO ⊢
    have h3 : ¬ E 3 l = 0 ∧ ¬ E 3 l = 1 := by
      obtain ⟨-, -, -, o⟩ := hO l hl
      rcases o with ⟨-, -, z⟩ | ⟨o, -⟩
      · exact absurd z h9
      · rcases o with ⟨-, z⟩ | ⟨z, -⟩
        · exact absurd z h9
        · have z : E 3 l = 2 ∨ E 3 l = 3 := z
          rcases z with z | z <;> rw [z] <;> decide
    exact ho_keep hn h3.1 h3.2
