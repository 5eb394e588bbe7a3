/-! hours that pass, ways, fires, looking ahead, side by side -/
theorem ulR_q {m : Int32} {i : Nat} (h : i ≠ 4) : ∀ (j k : Nat) (L : Fm) (c : Int32), (ulR m j k L c).1 i = L i
  | 0, _, _, _ => rfl
  | j + 1, k, L, c => by
    rw [ulR]
    split
    · split
      · split
        · rw [ulR_q h j]; exact unM_r h
        · rw [ulR_q h j]; exact unM_r h
      · exact ulR_q h j _ _ _
    · rfl
theorem bmF_q {nl : Nat} {L : Fm} {i : Nat} (h3 : i ≠ 3) (h4 : i ≠ 4) : ∀ k, (bmF nl L k).1 i = L i
  | 0 => rfl
  | k + 1 => by
    rw [bmF]
    split
    · exact bmF_q h3 h4 k
    · rw [ulR_q h4, bm1_r h3]; exact bmF_q h3 h4 k
theorem frF_q {L : Fm} {ns : Nat} {fog : Int32} {i : Nat} (h : i ≠ 4) : ∀ k, frF L ns fog k i = L i
  | 0 => rfl
  | k + 1 => by rw [frF, frS_r h]; exact frF_q h k
theorem soM_q {L : Fm} {m : Int32} {nl i : Nat} (h3 : i ≠ 3) (h4 : i ≠ 4) (h5 : i ≠ 5) : soM L m nl i = L i := by
  have o : ∀ (X : Fm) r fr to, outG X m r fr to nl i = X i := fun X r fr to => by
    unfold outG smM
    rw [sr_n h3, sr_n h3]
    exact crO_r h5 nl
  unfold soM so2
  split
  · split
    · exact tk_r h4 _ _ _
    · rw [o]; exact tk_r h4 _ _ _
  · rw [o]; exact tk_r h4 _ _ _
theorem sgF_q {L : Fm} {nl i : Nat} (h3 : i ≠ 3) (h4 : i ≠ 4) (h5 : i ≠ 5) : ∀ k, sgF L nl k i = L i
  | 0 => rfl
  | k + 1 => by
    rw [sgF]
    split
    · rw [soM_q h3 h4 h5]; exact sgF_q h3 h4 h5 k
    · exact sgF_q h3 h4 h5 k
theorem hoM_q {L : Fm} {ns nr nm nl i : Nat} {fog : Int32} (h : i < 3) : hoM L ns fog nr nm nl i = L i := by
  unfold hoM hr3 hr1
  rw [sr_n (by omega), sgF_q (by omega) (by omega) (by omega), frF_q (by omega), bmF_q (by omega) (by omega), rkM_q L ns nr nm (by omega) (by omega)]
theorem paF_q {L : Fm} {ns nr nm nl i : Nat} {fog : Int32} (h : i < 3) : ∀ k, (paF L ns fog nr nm nl k).1 i = L i
  | 0 => rfl
  | k + 1 => by
    show hoM (paF L ns fog nr nm nl k).1 ns fog nr nm nl i = L i
    rw [hoM_q h]
    exact paF_q h k
theorem SY_pa {W Ld Lm Le L : Fm} {hou cro fog : Int32} {ns nr nm ne h k : Nat} (hS : SY W Ld Lm Le hou cro L ns nr nm ne h) (hk : h + k < 2 ^ 30) : SY W Ld (hoF W Ld ns fog nm ne (Lm, Le, hou, cro) k).1 (hoF W Ld ns fog nm ne (Lm, Le, hou, cro) k).2.1 (hoF W Ld ns fog nm ne (Lm, Le, hou, cro) k).2.2.1 (hoF W Ld ns fog nm ne (Lm, Le, hou, cro) k).2.2.2 (paF L ns fog nr nm ne k).1 ns nr nm ne (h + k) :=
  ⟨(pa_rel hS.1 k hk).1, hS.2.1, fun j a b => by rw [paF_q (by decide)]; exact hS.2.2 j a b⟩
theorem SY_hg {W Ld Lm Le L : Fm} {hou cro fog : Int32} {N : Rw} {ns nr nm ne h k : Nat} (hS : SY W Ld Lm Le hou cro L ns nr nm ne h) (hk : h + k < 2 ^ 30) : SY W Ld (hgF W Ld ns fog nm ne (Lm, Le, hou, cro, N, true) k).1 (hgF W Ld ns fog nm ne (Lm, Le, hou, cro, N, true) k).2.1 (hgF W Ld ns fog nm ne (Lm, Le, hou, cro, N, true) k).2.2.1 (hgF W Ld ns fog nm ne (Lm, Le, hou, cro, N, true) k).2.2.2.1 (paF L ns fog nr nm ne k).1 ns nr nm ne (h + k) :=
  ⟨hg_rel hS.1 hk, hS.2.1, fun j a b => by rw [paF_q (by decide)]; exact hS.2.2 j a b⟩
theorem pp_rel {W Ld Lm Le L : Fm} {hou cro fog p : Int32} {N : Rw} {ns nr nm ne h : Nat} (hS : SY W Ld Lm Le hou cro L ns nr nm ne h) (hh : h + 100 < 2 ^ 30) : (pps L ns fog nr nm ne p).2.1 = nI (kPS p) ∧ (¬ kPS p = 0 → (pps L ns fog nr nm ne p).2.2 = L) ∧ (kPS p = 0 → (pps L ns fog nr nm ne p).1 = cmN W Ld ns fog nm ne Lm Le hou cro N p.toNatClampNeg ∧ SY W Ld (hgF W Ld ns fog nm ne (Lm, Le, hou, cro, N, true) p.toNatClampNeg).1 (hgF W Ld ns fog nm ne (Lm, Le, hou, cro, N, true) p.toNatClampNeg).2.1 (hgF W Ld ns fog nm ne (Lm, Le, hou, cro, N, true) p.toNatClampNeg).2.2.1 (hgF W Ld ns fog nm ne (Lm, Le, hou, cro, N, true) p.toNatClampNeg).2.2.2.1 (pps L ns fog nr nm ne p).2.2 ns nr nm ne (h + p.toNatClampNeg) ∧ p.toNatClampNeg ≤ 100) := by
  unfold pps kPS
  by_cases c : inB p 1 100 = true
  · rw [if_pos c, if_pos c]
    have hp := (inB_cl1 (b := 100) (by decide) c).1
    exact ⟨rfl, fun q => absurd rfl q, fun _ => ⟨cm_hg hS.1 (by omega), SY_hg hS (by omega), hp⟩⟩
  · rw [if_neg c, if_neg c]
    exact ⟨rfl, fun _ => rfl, fun q => absurd q (by decide)⟩
theorem wy_rel {W Ld Lm Le L : Fm} {hou cro a b w : Int32} {ns nr nm ne h : Nat} (hS : SY W Ld Lm Le hou cro L ns nr nm ne h) : (pwy L ns nr nm a b w).2.1 = nI (kWY ns a b w) ∧ (¬ kWY ns a b w = 0 → (pwy L ns nr nm a b w).2.2 = L) ∧ (kWY ns a b w = 0 → (pwy L ns nr nm a b w).1 = wyC W a b w ∧ SY W Ld Lm Le hou cro (pwy L ns nr nm a b w).2.2 ns nr nm ne h) := by
  have hL := hS.1.1
  have hY := hS.1.2.1
  have hU := hS.1.2.2.1
  have hD := hS.1.2.2.2.2.2.2.2.1
  have hM := hS.1.2.2.2.2.2.2.2.2.1
  have h10 := hL.1
  unfold pwy kWY
  by_cases c1 : inB a 0 (nI ns - 1) = true
  · rw [if_pos c1, if_pos c1]
    by_cases c2 : inB b 0 (nI ns - 1) = true
    · rw [if_pos c2, if_pos c2]
      by_cases c3 : inB w 0 1 = true
      · rw [if_pos c3, if_pos c3]
        obtain ⟨x, hx, rfl⟩ := inB_vd (by omega) c1
        obtain ⟨y, hy, rfl⟩ := inB_vd (by omega) c2
        refine ⟨rfl, fun q => absurd rfl q, fun _ => ⟨?_, SY_of hS (fun i hi => rkM_q L ns nr nm (by omega) (by omega))⟩⟩
        show (if w = 1 then fiM (rkM L ns nr nm) (nI x) (nI y) else if rg 100 (rkM L ns nr nm 6) (10 * nI x + nI y) < 99999 then rg 100 (rkM L ns nr nm 6) (10 * nI x + nI y) else -1) = _
        unfold wyC
        by_cases z : w = 1
        · rw [if_pos z, if_pos z]
          exact rW_fi (rel_W hL hY hU hD hM) (by omega) (by omega)
        · rw [if_neg z, if_neg z, rg10 (by omega) (by omega), ho_at (by omega) (by omega), hY.1 x y (by omega) (by omega), (rkM_at h10 (okH_rel hL hU hD hM) (gC_ok hL)).1 x y (by omega) (by omega)]
          have rb := Rb_Dw (gC_ok (M := Lm) (nm := nm) hL) x y
          rcases rb with ⟨e, hle⟩ | ⟨e1, e2⟩
          · rw [← e, if_pos (show nI (Dw 1000000 (gC Ld Lm nm) nr x y) < 99999 from nI_lt (b := 99999) (by omega) (by decide)), if_neg (fun q => by have := (nI_leI (a := 1000000) (by decide) (by omega)).mp q; omega)]
          · rw [e1, e2, if_neg (show ¬ nI 99999 < 99999 by decide), if_pos (show (1000000 : Int32) ≤ nI 1000000 by decide)]
      · rw [if_neg c3, if_neg c3]
        exact ⟨rfl, fun _ => rfl, fun q => absurd q (by decide)⟩
    · rw [if_neg c2, if_neg c2]
      exact ⟨rfl, fun _ => rfl, fun q => absurd q (by decide)⟩
  · rw [if_neg c1, if_neg c1]
    exact ⟨rfl, fun _ => rfl, fun q => absurd q (by decide)⟩
/-! a fire reaches all it can in fewer hours than there are stations -/
def itS (Ld : Fm) (ns : Nat) (fog x : Int32) : Nat → Int32
  | 0 => x
  | k + 1 => litC Ld ns fog (itS Ld ns fog x k)
def cbN (x : Int32) : Nat → Nat
  | 0 => 0
  | n + 1 => cbN x n + (if btz x n = true then 1 else 0)
theorem cbN_le (x : Int32) : ∀ n, cbN x n ≤ n
  | 0 => Nat.le_refl _
  | n + 1 => by
    have := cbN_le x n
    rw [cbN]
    split <;> omega
theorem cbN_mono {x y : Int32} (h : ∀ i, btz x i = true → btz y i = true) : ∀ n, cbN x n ≤ cbN y n
  | 0 => Nat.le_refl _
  | n + 1 => by
    have ih := cbN_mono h n
    rw [cbN, cbN]
    by_cases a : btz x n = true
    · rw [if_pos a, if_pos (h n a)]; omega
    · rw [if_neg a]; omega
theorem cbN_lt {x y : Int32} {i : Nat} (h : ∀ i, btz x i = true → btz y i = true) (hy : btz y i = true) (hx : ¬ btz x i = true) : ∀ n, i < n → cbN x n + 1 ≤ cbN y n
  | 0, hi => absurd hi (by omega)
  | n + 1, hi => by
    rw [cbN, cbN]
    by_cases e : i = n
    · subst e
      have := cbN_mono h i
      rw [if_pos hy, if_neg hx]
      omega
    · have ih := cbN_lt h hy hx n (by omega)
      by_cases a : btz x n = true
      · rw [if_pos a, if_pos (h n a)]; omega
      · rw [if_neg a]; omega
theorem cbN_pos {x : Int32} {i : Nat} (hx : btz x i = true) : ∀ n, i < n → 1 ≤ cbN x n
  | 0, hi => absurd hi (by omega)
  | n + 1, hi => by
    rw [cbN]
    by_cases e : i = n
    · subst e
      rw [if_pos hx]
      omega
    · have := cbN_pos hx n (by omega)
      omega
theorem litF_bd {Ld L : Fm} {ns : Nat} {fog kn : Int32} (h10 : ns ≤ 10) (hB : okB Ld L ns) (hkn : ∀ i, ns ≤ i → i < 32 → btz kn i = false) : ∀ k, k ≤ ns → ∀ i, ns ≤ i → i < 32 → btz (litF Ld fog kn k) i = false
  | 0, _, i, h1, h2 => hkn i h1 h2
  | k + 1, hk, i, h1, h2 => by
    have ih := litF_bd (fog := fog) h10 hB hkn k (by omega) i h1 h2
    rw [litF]
    split
    · rw [btz_or, ih, btz_and, rg_k (by omega) (by decide), hB.1 k i (by omega) h1 h2]
      rfl
    · exact ih
theorem itS_bd {Ld L : Fm} {ns : Nat} {fog x : Int32} (h10 : ns ≤ 10) (hB : okB Ld L ns) (hx : ∀ i, ns ≤ i → i < 32 → btz x i = false) : ∀ k i, ns ≤ i → i < 32 → btz (itS Ld ns fog x k) i = false
  | 0, i, h1, h2 => hx i h1 h2
  | k + 1, i, h1, h2 => litF_bd h10 hB (fun i a b => itS_bd h10 hB hx k i a b) ns (Nat.le_refl _) i h1 h2
theorem itS_up {Ld : Fm} {ns k : Nat} {fog x : Int32} (i : Nat) (h : btz (itS Ld ns fog x k) i = true) : btz (itS Ld ns fog x (k + 1)) i = true := litF_up h ns
theorem itS_stop {Ld : Fm} {ns k : Nat} {fog x : Int32} (h : itS Ld ns fog x (k + 1) = itS Ld ns fog x k) : ∀ j, itS Ld ns fog x (k + j) = itS Ld ns fog x k
  | 0 => rfl
  | j + 1 => by
    show litC Ld ns fog (itS Ld ns fog x (k + j)) = _
    rw [itS_stop h j]
    exact h
theorem itS_grow {Ld L : Fm} {ns x0 : Nat} {fog x : Int32} (h10 : ns ≤ 10) (hB : okB Ld L ns) (hx : ∀ i, ns ≤ i → i < 32 → btz x i = false) (h0 : x0 < ns) (hb : btz x x0 = true) : ∀ k, (∀ q, q < k → ¬ itS Ld ns fog x (q + 1) = itS Ld ns fog x q) → k + 1 ≤ cbN (itS Ld ns fog x k) ns
  | 0, _ => cbN_pos hb ns h0
  | k + 1, h => by
    have ih := itS_grow (fog := fog) h10 hB hx h0 hb k (fun q hq => h q (by omega))
    have hne := h k (by omega)
    have : ∃ i, i < 32 ∧ btz (itS Ld ns fog x (k + 1)) i ≠ btz (itS Ld ns fog x k) i := by
      apply Classical.byContradiction
      intro q
      exact hne (btz_ext fun i hi => Classical.byContradiction fun z => q ⟨i, hi, z⟩)
    obtain ⟨i, hi, hd⟩ := this
    have up := fun i => itS_up (Ld := Ld) (ns := ns) (k := k) (fog := fog) (x := x) i
    have a1 : ¬ btz (itS Ld ns fog x k) i = true := fun q => hd (by rw [q, up i q])
    have a2 : btz (itS Ld ns fog x (k + 1)) i = true := by
      cases z : btz (itS Ld ns fog x (k + 1)) i with
      | true => rfl
      | false =>
        exfalso
        apply hd
        rw [z]
        cases y : btz (itS Ld ns fog x k) i with
        | true => exact absurd y a1
        | false => rfl
    have hin : i < ns := by
      rcases Nat.lt_or_ge i ns with q | q
      · exact q
      · rw [itS_bd h10 hB hx (k + 1) i q hi] at a2
        exact Bool.noConfusion a2
    have := cbN_lt up a2 a1 ns hin
    omega
theorem itS_last {Ld L : Fm} {ns x0 : Nat} {fog x : Int32} (h10 : ns ≤ 10) (hB : okB Ld L ns) (hx : ∀ i, ns ≤ i → i < 32 → btz x i = false) (h0 : x0 < ns) (hb : btz x x0 = true) : itS Ld ns fog x ns = itS Ld ns fog x (ns - 1) := by
  have : ∃ q, q < ns ∧ itS Ld ns fog x (q + 1) = itS Ld ns fog x q := by
    apply Classical.byContradiction
    intro z
    have := itS_grow (fog := fog) h10 hB hx h0 hb ns (fun q hq e => z ⟨q, hq, e⟩)
    have := cbN_le (itS Ld ns fog x ns) ns
    omega
  obtain ⟨q, hq, e⟩ := this
  have e1 := itS_stop e (ns - q)
  have e2 := itS_stop e (ns - 1 - q)
  rw [show q + (ns - q) = ns by omega] at e1
  rw [show q + (ns - 1 - q) = ns - 1 by omega] at e2
  rw [e1, e2]
theorem fire_eq {Ld L : Fm} {ns nr y : Nat} {fog x : Int32} (h10 : ns ≤ 10) (hns : 1 ≤ ns) (hD : rD Ld L ns nr) (hy : y < ns) (hl : itS Ld ns fog x ns = itS Ld ns fog x (ns - 1)) : ∀ j k, k + j = ns → (∀ q, q < k → btz (itS Ld ns fog x q) y = false) → fiR L ns fog (nI y) j k (itS Ld ns fog x k) = fireL Ld ns fog (nI y) j k (itS Ld ns fog x k)
  | 0, k, hk, h => by
    have e : k = ns := hk
    subst e
    rw [fiR, fireL, bHm_bit (by omega), hl, h (k - 1) (by omega), if_neg Bool.false_ne_true]
  | j + 1, k, hk, h => by
    rw [fiR, fireL, bHm_bit (by omega), bH_bit (by omega), litM_eq h10 hD]
    by_cases c : btz (itS Ld ns fog x k) y = true
    · rw [if_pos c, if_pos c]
    · rw [if_neg c, if_neg c]
      refine fire_eq h10 hns hD hy hl j (k + 1) (by omega) (fun q hq => ?_)
      by_cases e : q = k
      · subst e
        cases z : btz (itS Ld ns fog x q) y with
        | true => exact absurd z c
        | false => rfl
      · exact h q (by omega)
theorem fi_rel {W Ld Lm Le L : Fm} {hou cro fog a b : Int32} {ns nr nm ne h : Nat} (hS : SY W Ld Lm Le hou cro L ns nr nm ne h) : (pfi L ns fog a b).2 = nI (kFI ns a b) ∧ (kFI ns a b = 0 → (pfi L ns fog a b).1 = fireL Ld ns fog b ns 0 (bW 0 a)) := by
  have h10 := hS.1.1.1
  have hD := hS.1.2.2.2.2.2.2.2.1
  unfold pfi kFI
  by_cases c1 : inB a 0 (nI ns - 1) = true
  · rw [if_pos c1, if_pos c1]
    by_cases c2 : inB b 0 (nI ns - 1) = true
    · rw [if_pos c2, if_pos c2]
      obtain ⟨x, hx, rfl⟩ := inB_vd (by omega) c1
      obtain ⟨y, hy, rfl⟩ := inB_vd (by omega) c2
      refine ⟨rfl, fun _ => ?_⟩
      rw [bW_0]
      have hb : ∀ i, i < 32 → btz ((1 : Int32) <<< (nI x &&& 31)) i = decide (i = x) := btz_one x (by omega)
      have hl := itS_last (fog := fog) h10 hS.2 (fun i a b => by rw [hb i b]; exact decide_eq_false (by omega)) hx (by rw [hb x (by omega)]; exact decide_eq_true rfl)
      exact fire_eq h10 (by omega) hD hy hl ns 0 (by omega) (fun q hq => absurd hq (by omega))
    · rw [if_neg c2, if_neg c2]
      exact ⟨rfl, fun q => absurd q (by decide)⟩
  · rw [if_neg c1, if_neg c1]
    exact ⟨rfl, fun q => absurd q (by decide)⟩
/-! looking ahead -/
theorem rs_SY {W Ld Lm Le L : Fm} {hou cro fog : Int32} {ns nr nm ne h : Nat} (hS : SY W Ld Lm Le hou cro L ns nr nm ne h) (k : Nat) : SY W Ld Lm Le hou cro (rsM L (paF L ns fog nr nm ne k).1) ns nr nm ne h := SY_of hS (fun i hi => by
  unfold rsM
  rcases (show i < 3 ∨ i = 3 ∨ i = 4 ∨ i = 5 by omega) with z | rfl | rfl | rfl
  · rw [sr_n (by omega), sr_n (by omega), sr_n (by omega)]; exact paF_q z k
  · rfl
  · rfl
  · rfl)
theorem fo_rel {W Ld Lm Le L : Fm} {hou cro fog a p : Int32} {N : Rw} {ns nr nm ne h : Nat} (hS : SY W Ld Lm Le hou cro L ns nr nm ne h) (hh : h + 300 < 2 ^ 30) : (pfo L ns fog nr nm ne a p).2.1 = nI (kFO ne a p) ∧ (¬ kFO ne a p = 0 → (pfo L ns fog nr nm ne a p).2.2 = L) ∧ (kFO ne a p = 0 → (pfo L ns fog nr nm ne a p).1 = rg 60 ((hgF W Ld ns fog nm ne (Lm, Le, hou, cro, N, true) p.toNatClampNeg).2.1 3) a ∧ SY W Ld Lm Le hou cro (pfo L ns fog nr nm ne a p).2.2 ns nr nm ne h) := by
  have hn := hS.1.2.2.2.1
  unfold pfo kFO
  by_cases c1 : inB a 0 (nI ne - 1) = true
  · rw [if_pos c1, if_pos c1]
    by_cases c2 : inB p 0 300 = true
    · rw [if_pos c2, if_pos c2]
      obtain ⟨l, hl, rfl⟩ := inB_vd (by omega) c1
      have hp := (inB_cl (b := 300) (by decide) c2).1
      have hE := (SY_pa (fog := fog) hS (show h + p.toNatClampNeg < 2 ^ 30 by omega)).1.2.2.2.2.2.2.2.2.2.1
      refine ⟨rfl, fun q => absurd rfl q, fun _ => ⟨?_, rs_SY hS _⟩⟩
      have e3 : leM (paF L ns fog nr nm ne p.toNatClampNeg).1 (nI l) 3 = (hoF W Ld ns fog nm ne (Lm, Le, hou, cro) p.toNatClampNeg).2.1 3 l := rE_le (c := 3) hE hn hl (by decide)
      show leM (paF L ns fog nr nm ne p.toNatClampNeg).1 (nI l) 3 = _
      rw [e3, (hg_eq (fog := fog) (N := N) hS.1 p.toNatClampNeg (by omega)).1.2.1, rg_k (by omega) (by decide)]
    · rw [if_neg c2, if_neg c2]
      exact ⟨rfl, fun _ => rfl, fun q => absurd q (by decide)⟩
  · rw [if_neg c1, if_neg c1]
    exact ⟨rfl, fun _ => rfl, fun q => absurd q (by decide)⟩
theorem arN_spec {L : Fm} {ns : Nat} {fog : Int32} {nr nm nl : Nat} {a : Int32} : ∀ j k, k + j = 300 → arN L ns fog nr nm nl a j k ≤ 300 ∧ (arN L ns fog nr nm nl a j k = 300 ∨ ¬ leM (paF L ns fog nr nm nl (arN L ns fog nr nm nl a j k)).1 a 9 = -1)
  | 0, k, hk => ⟨by show k ≤ 300; omega, Or.inl (show k = 300 from hk)⟩
  | j + 1, k, hk => by
    rw [arN]
    by_cases c : leM (paF L ns fog nr nm nl k).1 a 9 = -1
    · rw [if_pos c]
      exact arN_spec j (k + 1) (by omega)
    · rw [if_neg c]
      exact ⟨by omega, Or.inr c⟩
theorem ar_rel {W Ld Lm Le L : Fm} {hou cro fog a : Int32} {N : Rw} {ns nr nm ne h : Nat} (hS : SY W Ld Lm Le hou cro L ns nr nm ne h) (hh : h + 300 < 2 ^ 30) : (par1 L ns fog nr nm ne a).2.1 = nI (kAR ne a) ∧ (¬ kAR ne a = 0 → (par1 L ns fog nr nm ne a).2.2 = L) ∧ (kAR ne a = 0 → (par1 L ns fog nr nm ne a).1 = rg 60 ((hgF W Ld ns fog nm ne (Lm, Le, hou, cro, N, true) 300).2.1 9) a ∧ SY W Ld Lm Le hou cro (par1 L ns fog nr nm ne a).2.2 ns nr nm ne h) := by
  have hn := hS.1.2.2.2.1
  unfold par1 kAR
  by_cases c1 : inB a 0 (nI ne - 1) = true
  · rw [if_pos c1, if_pos c1]
    obtain ⟨l, hl, rfl⟩ := inB_vd (by omega) c1
    obtain ⟨hle, hor⟩ := arN_spec (L := L) (ns := ns) (fog := fog) (nr := nr) (nm := nm) (nl := ne) (a := nI l) 300 0 (by omega)
    obtain ⟨n, hnn⟩ : ∃ n, n = arN L ns fog nr nm ne (nI l) 300 0 := ⟨_, rfl⟩
    rw [← hnn] at hle hor ⊢
    have hE := (SY_pa (fog := fog) hS (show h + n < 2 ^ 30 by omega)).1.2.2.2.2.2.2.2.2.2.1
    have e9 : leM (paF L ns fog nr nm ne n).1 (nI l) 9 = (hoF W Ld ns fog nm ne (Lm, Le, hou, cro) n).2.1 9 l := rE_le (c := 9) hE hn hl (by decide)
    refine ⟨rfl, fun q => absurd rfl q, fun _ => ⟨?_, rs_SY hS _⟩⟩
    show leM (paF L ns fog nr nm ne n).1 (nI l) 9 = _
    rw [(hg_eq (fog := fog) (N := N) hS.1 300 (by omega)).1.2.1, rg_k (by omega) (by decide), e9]
    rw [e9] at hor
    rcases hor with q | q
    · rw [q]
    · have := hoF_keep hS.1 hl q (300 - n) (by omega)
      rw [show n + (300 - n) = 300 by omega] at this
      exact this.symm
  · rw [if_neg c1, if_neg c1]
    exact ⟨rfl, fun _ => rfl, fun q => absurd q (by decide)⟩
theorem ad_eq {W Ld Lm Le L : Fm} {hou cro fog p : Int32} {N : Rw} {ns nr nm ne h : Nat} (hS : SY W Ld Lm Le hou cro L ns nr nm ne h) (hnm : nm < 12) (hp : h + p.toNatClampNeg < 2 ^ 30) : ∀ k, k ≤ nr → (adS L ns fog nr nm ne p k).1 = (adN W Ld ns fog nr nm ne Lm Le hou cro N p.toNatClampNeg k).1 ∧ (adS L ns fog nr nm ne p k).2.1 = (adN W Ld ns fog nr nm ne Lm Le hou cro N p.toNatClampNeg k).2.1 ∧ SY W Ld Lm Le hou cro (adS L ns fog nr nm ne p k).2.2 ns nr nm ne h
  | 0, _ => ⟨rfl, cm_hg hS.1 hp, rs_SY hS _⟩
  | k + 1, hk => by
    obtain ⟨i1, i2, i3⟩ := ad_eq (fog := fog) (N := N) hS hnm hp k (by omega)
    have h15 := hS.1.1.2.1
    have hD := i3.1.2.2.2.2.2.2.2.1
    have hr : k < nr := by omega
    have e0 : roM (adS L ns fog nr nm ne p k).2.2 (nI k) 0 = Ld 2 k := ro_eq (c := 0) hD h15 hr (by decide)
    have g0 : rg 15 (Ld 2) (nI k) = Ld 2 k := rg_k (by omega) (by decide)
    have core := mu_core (c := 6) i3 hnm hr (by decide) (by decide) (Or.inl (rfl : Ld 2 k = Ld 2 k))
    have eP : adP (adS L ns fog nr nm ne p k).2.2 nm k = pmT (adS L ns fog nr nm ne p k).2.2 nm (nI k) (nI 6) (Ld 2 k) := by
      unfold adP
      rw [e0]
      rfl
    rw [← eP] at core
    have ec := cm_hg (fog := fog) (N := (adN W Ld ns fog nr nm ne Lm Le hou cro N p.toNatClampNeg k).2.2) core.1 hp
    have ecb : (cbM (adP (adS L ns fog nr nm ne p k).2.2 nm k) ns fog nr (nm + 1) ne p).1 = cmN (fwC W Ld (pmC Lm nm (nI k) 6 (rg 15 (Ld 2) (nI k))) ns nr (nm + 1) (nI k)) Ld ns fog (nm + 1) ne (pmC Lm nm (nI k) 6 (rg 15 (Ld 2) (nI k))) Le hou cro (adN W Ld ns fog nr nm ne Lm Le hou cro N p.toNatClampNeg k).2.2 p.toNatClampNeg := by
      rw [g0]
      exact ec
    have back : SY W Ld Lm Le hou cro (cbM (adP (adS L ns fog nr nm ne p k).2.2 nm k) ns fog nr (nm + 1) ne p).2 ns nr nm ne h := by
      have hR := i3.1
      obtain ⟨P, hP⟩ : ∃ P, P = adP (adS L ns fog nr nm ne p k).2.2 nm k := ⟨_, rfl⟩
      show SY W Ld Lm Le hou cro (rsM (adP (adS L ns fog nr nm ne p k).2.2 nm k) (paF (adP (adS L ns fog nr nm ne p k).2.2 nm k) ns fog nr (nm + 1) ne p.toNatClampNeg).1) ns nr nm ne h
      rw [← hP]
      rw [← hP] at eP
      have pr : ∀ i, i ≠ 3 → P i = (adS L ns fog nr nm ne p k).2.2 i := fun i hi => by rw [eP]; unfold pmT; exact sr_n hi
      have r012 : ∀ i, i < 3 → rsM P (paF P ns fog nr (nm + 1) ne p.toNatClampNeg).1 i = (adS L ns fog nr nm ne p k).2.2 i := fun i hi => by
        unfold rsM
        rw [sr_n (by omega), sr_n (by omega), sr_n (by omega), paF_q hi]
        exact pr i (by omega)
      obtain ⟨hL, hY, hU, hn, hO, hV, hI, hD, hM, hE, hh, h0, h1⟩ := hR
      refine ⟨⟨hL, hY, hU, hn, hO, hV, hI, rD_of hD (r012 0 (by decide)) (r012 1 (by decide)) (r012 2 (by decide)), fun j w hj hw => ?_, rE_of hE (pr 4 (by decide)), hh, ?_, ?_⟩, i3.2.1, fun j a b => by rw [r012 1 (by decide)]; exact i3.2.2 j a b⟩
      · have nM := core.1.2.2.2.2.2.2.2.2.1 j w (by omega) hw
        rw [← hP] at nM
        rw [mcol_of (show rsM P (paF P ns fog nr (nm + 1) ne p.toNatClampNeg).1 3 = P 3 from rfl), nM, pmC_at hnm hw, if_neg (by omega)]
      · show rg 2 (P 5) 0 = _
        rw [pr 5 (by decide)]; exact h0
      · show rg 2 (P 5) 1 = _
        rw [pr 5 (by decide)]; exact h1
    rw [adS, adN, i1, i2, ecb]
    by_cases c : cmN (fwC W Ld (pmC Lm nm (nI k) 6 (rg 15 (Ld 2) (nI k))) ns nr (nm + 1) (nI k)) Ld ns fog (nm + 1) ne (pmC Lm nm (nI k) 6 (rg 15 (Ld 2) (nI k))) Le hou cro (adN W Ld ns fog nr nm ne Lm Le hou cro N p.toNatClampNeg k).2.2 p.toNatClampNeg ≤ (adN W Ld ns fog nr nm ne Lm Le hou cro N p.toNatClampNeg k).2.1
    · rw [if_pos c, if_pos c, if_neg (Int32.not_lt.mpr c), if_neg (Int32.not_lt.mpr c)]
      exact ⟨rfl, rfl, back⟩
    · rw [if_neg c, if_neg c, if_pos (Int32.not_le.mp c), if_pos (Int32.not_le.mp c)]
      exact ⟨rfl, rfl, back⟩
theorem ad_rel {W Ld Lm Le L : Fm} {hou cro fog p : Int32} {N : Rw} {ns nr nm ne h : Nat} (hS : SY W Ld Lm Le hou cro L ns nr nm ne h) (hh : h + 300 < 2 ^ 30) : (pad L ns fog nr nm ne p).2.1 = nI (kAD nm p) ∧ (¬ kAD nm p = 0 → (pad L ns fog nr nm ne p).2.2 = L) ∧ (kAD nm p = 0 → (pad L ns fog nr nm ne p).1 = (adN W Ld ns fog nr nm ne Lm Le hou cro N p.toNatClampNeg nr).1 ∧ SY W Ld Lm Le hou cro (pad L ns fog nr nm ne p).2.2 ns nr nm ne h) := by
  have h12 := hS.1.2.2.1.1
  unfold pad kAD
  by_cases c1 : inB p 1 50 = true
  · rw [if_pos c1, if_pos c1]
    have hp := (inB_cl1 (b := 50) (by decide) c1).1
    by_cases c2 : nm < 12
    · rw [if_pos (show nI nm < 12 from nI_lt (b := 12) c2 (by decide)), if_neg (fun q => by have := (nI_eq (b := 12) (by omega) (by decide)).mp q; omega)]
      obtain ⟨a1, -, a3⟩ := ad_eq (fog := fog) (N := N) hS c2 (show h + p.toNatClampNeg < 2 ^ 30 by omega) nr (Nat.le_refl _)
      exact ⟨rfl, fun q => absurd rfl q, fun _ => ⟨a1, a3⟩⟩
    · have e : nm = 12 := by omega
      subst e
      rw [if_neg (show ¬ nI 12 < 12 by decide), if_pos (show nI 12 = 12 by decide)]
      exact ⟨rfl, fun _ => rfl, fun q => absurd q (by decide)⟩
  · rw [if_neg c1, if_neg c1]
    exact ⟨rfl, fun _ => rfl, fun q => absurd q (by decide)⟩
/-! telling -/
theorem st_rel {W Ld Lm Le L : Fm} {hou cro fog s w : Int32} {ns nr nm ne h : Nat} (hS : SY W Ld Lm Le hou cro L ns nr nm ne h) : (pst L fog ns nm ne s w).2 = nI (kTL ns 4 s w) ∧ (kTL ns 4 s w = 0 → (pst L fog ns nm ne s w).1 = tsC Ld Lm Le fog nm ne s w) := by
  obtain ⟨hL, -, hU, hn, -, -, -, hD, hM, hE, -⟩ := hS.1
  have h10 := hL.1
  unfold pst kTL
  by_cases c1 : inB s 0 (nI ns - 1) = true
  · rw [if_pos c1, if_pos c1]
    by_cases c2 : inB w 0 4 = true
    · rw [if_pos c2, if_pos c2]
      obtain ⟨k, hk, rfl⟩ := inB_vd (by omega) c1
      exact ⟨rfl, fun _ => st_eq h10 hU hn hD hM hE hk⟩
    · rw [if_neg c2, if_neg c2]
      exact ⟨rfl, fun q => absurd q (by decide)⟩
  · rw [if_neg c1, if_neg c1]
    exact ⟨rfl, fun q => absurd q (by decide)⟩
theorem tr_rel {W Ld Lm Le L : Fm} {hou cro s w : Int32} {ns nr nm ne h : Nat} (hS : SY W Ld Lm Le hou cro L ns nr nm ne h) : (prd L nr nm s w).2 = nI (kTL nr 5 s w) ∧ (kTL nr 5 s w = 0 → (prd L nr nm s w).1 = trC Ld Lm nm s w) := by
  obtain ⟨hL, -, hU, hn, -, -, -, hD, hM, hE, -⟩ := hS.1
  have h15 := hL.2.1
  unfold prd kTL
  by_cases c1 : inB s 0 (nI nr - 1) = true
  · rw [if_pos c1, if_pos c1]
    by_cases c2 : inB w 0 5 = true
    · rw [if_pos c2, if_pos c2]
      obtain ⟨k, hk, rfl⟩ := inB_vd (by omega) c1
      obtain ⟨j, hj, rfl⟩ := inB_v (b := 5) (by decide) c2
      exact ⟨rfl, fun _ => tr_eq hL hU hD hM hk hj⟩
    · rw [if_neg c2, if_neg c2]
      exact ⟨rfl, fun q => absurd q (by decide)⟩
  · rw [if_neg c1, if_neg c1]
    exact ⟨rfl, fun q => absurd q (by decide)⟩
theorem tm_rel {W Ld Lm Le L : Fm} {hou cro s w : Int32} {ns nr nm ne h : Nat} (hS : SY W Ld Lm Le hou cro L ns nr nm ne h) : (pmu L nm ne s w).2 = nI (kTL nm 5 s w) ∧ (kTL nm 5 s w = 0 → (pmu L nm ne s w).1 = tmC Lm Le ne s w) := by
  obtain ⟨hL, -, hU, hn, hO, -, -, hD, hM, hE, -⟩ := hS.1
  have h12 := hU.1
  unfold pmu kTL
  by_cases c1 : inB s 0 (nI nm - 1) = true
  · rw [if_pos c1, if_pos c1]
    by_cases c2 : inB w 0 5 = true
    · rw [if_pos c2, if_pos c2]
      obtain ⟨k, hk, rfl⟩ := inB_vd (by omega) c1
      obtain ⟨j, hj, rfl⟩ := inB_v (b := 5) (by decide) c2
      exact ⟨rfl, fun _ => tm_eq hU hn hM hE ⟨ns, hO⟩ hk hj⟩
    · rw [if_neg c2, if_neg c2]
      exact ⟨rfl, fun q => absurd q (by decide)⟩
  · rw [if_neg c1, if_neg c1]
    exact ⟨rfl, fun q => absurd q (by decide)⟩
theorem tl_rel {W Ld Lm Le L : Fm} {hou cro s w : Int32} {ns nr nm ne h : Nat} (hS : SY W Ld Lm Le hou cro L ns nr nm ne h) : (ple L ne s w).2 = nI (kTL ne 10 s w) ∧ (kTL ne 10 s w = 0 → (ple L ne s w).1 = tlC Le s w) := by
  obtain ⟨hL, -, hU, hn, hO, -, -, hD, hM, hE, -⟩ := hS.1
  unfold ple kTL
  by_cases c1 : inB s 0 (nI ne - 1) = true
  · rw [if_pos c1, if_pos c1]
    by_cases c2 : inB w 0 10 = true
    · rw [if_pos c2, if_pos c2]
      obtain ⟨k, hk, rfl⟩ := inB_vd (by omega) c1
      obtain ⟨j, hj, rfl⟩ := inB_v (b := 10) (by decide) c2
      exact ⟨rfl, fun _ => tl_eq hn hE hk hj⟩
    · rw [if_neg c2, if_neg c2]
      exact ⟨rfl, fun q => absurd q (by decide)⟩
  · rw [if_neg c1, if_neg c1]
    exact ⟨rfl, fun q => absurd q (by decide)⟩
theorem tc_rel {W Ld Lm Le L : Fm} {hou cro w : Int32} {ns nr nm ne h : Nat} (hS : SY W Ld Lm Le hou cro L ns nr nm ne h) : (ctM L ns nr nm ne w).2 = nI (kCT w) ∧ (kCT w = 0 → (ctM L ns nr nm ne w).1 = tcC Le hou cro ns nr nm ne w) := by
  obtain ⟨hL, -, hU, hn, hO, -, -, hD, hM, hE, hh, h0, h1⟩ := hS.1
  unfold ctM kCT
  by_cases c2 : inB w 0 9 = true
  · rw [if_pos c2, if_pos c2]
    obtain ⟨j, hj, rfl⟩ := inB_v (b := 9) (by decide) c2
    exact ⟨rfl, fun _ => tc_eq hn hE (h0.trans hh.symm) h1 hj⟩
  · rw [if_neg c2, if_neg c2]
    exact ⟨rfl, fun q => absurd q (by decide)⟩
/-- places and numbers that the reference's calls ask of its tables -/
theorem okS_rel {W Ld Lm Le L : Fm} {hou cro : Int32} {ns nr nm ne h : Nat} (hR : REL W Ld Lm Le hou cro L ns nr nm ne h) : okS L ns nr nm ne := by
  obtain ⟨hL, -, hU, hn, hO, -, -, hD, hM, hE, -⟩ := hR
  have h15 := hL.2.1
  refine ⟨fun x hx => ?_, fun x hx => ?_, fun x hx => ?_⟩
  · obtain ⟨k, hk, rfl⟩ := hx
    obtain ⟨a, b, w, ha, hb, -, -, -, e2, e3, -⟩ := hL.2.2.2 k hk
    have r0 : roM L (nI k) 0 = Ld 2 k := ro_eq (c := 0) hD h15 hk (by decide)
    have r1 : roM L (nI k) 1 = Ld 3 k := ro_eq (c := 1) hD h15 hk (by decide)
    rw [r0, r1]
    exact ⟨⟨a, ha, e2⟩, b, hb, e3⟩
  · obtain ⟨k, hk, rfl⟩ := hx
    obtain ⟨⟨r, hr, er, ep⟩, ⟨c, hc1, hc2, ec⟩, -⟩ := hU.2 k hk
    obtain ⟨a, b, w, ha, hb, -, -, -, e2, e3, -⟩ := hL.2.2.2 r hr
    have m0 : muM L (nI k) 0 = Lm 0 k := rM_mu (c := 0) hM hU.1 hk (by decide)
    have m1 : muM L (nI k) 1 = Lm 1 k := rM_mu (c := 1) hM hU.1 hk (by decide)
    have m2 : muM L (nI k) 2 = Lm 2 k := rM_mu (c := 2) hM hU.1 hk (by decide)
    rw [m0, m1, m2]
    refine ⟨⟨r, hr, er⟩, ?_, by rw [ec]; exact nI_pos (by omega)⟩
    rcases ep with z | z
    · exact ⟨a, ha, z.trans e2⟩
    · exact ⟨b, hb, z.trans e3⟩
  · obtain ⟨k, hk, rfl⟩ := hx
    obtain ⟨⟨a, ha, ea⟩, ⟨b, hb, eb⟩, -, o⟩ := hO k hk
    have l0 : leM L (nI k) 0 = Le 0 k := rE_le (c := 0) hE hn hk (by decide)
    have l1 : leM L (nI k) 1 = Le 1 k := rE_le (c := 1) hE hn hk (by decide)
    have l5 : leM L (nI k) 5 = Le 5 k := rE_le (c := 5) hE hn hk (by decide)
    rw [l0, l1, l5]
    refine ⟨⟨a, ha, ea⟩, ⟨b, hb, eb⟩, ?_⟩
    rcases o with ⟨-, ⟨m, hm, e5⟩, -⟩ | ⟨-, e5, -⟩
    · exact Or.inr ⟨m, hm, e5⟩
    · exact Or.inl e5
