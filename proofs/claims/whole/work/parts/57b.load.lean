/-! a mule takes its letters: the class goes through the order, the reference chooses one after another -/
theorem ord_inj {X : Fm} {ne i j l : Nat} (hI : okO X ne) (hi : i < ne) (hj : j < ne) (hl : l < ne) (e1 : X 10 i = nI l) (e2 : X 10 j = nI l) : i = j := by
  have one : ∀ a b, a < b → b < ne → X 10 a = nI l → X 10 b = nI l → False := fun a b hab hb q1 q2 => by
    rcases hI.2.2 a b l l hab hb hl hl q1 q2 with z | ⟨-, z⟩
    · exact Int32.lt_irrefl z
    · omega
  rcases Nat.lt_trichotomy i j with h | h | h
  · exact (one i j h hj e1 e2).elim
  · exact h
  · exact (one j i h hi e2 e1).elim
theorem ld_inv {W X : Fm} {ns nm ne m c : Nat} {here road : Int32} (hn : ne ≤ 60) (hm : m < nm) (hm2 : nm ≤ 12) (hc : c ≤ 6) (hO : okE X ns nm ne) (hI : okO X ne) : ∀ i, i ≤ ne →
    okE (ldF W X here road (nI m) (nI c) i).1 ns nm ne ∧ (∀ w, w ≠ 3 → w ≠ 4 → w ≠ 5 → (ldF W X here road (nI m) (nI c) i).1 w = X w) ∧ (∃ ρ, ρ ≤ c ∧ (ldF W X here road (nI m) (nI c) i).2.1 = nI ρ) ∧ (∀ l, l < ne → (∀ q, q < i → ¬ X 10 q = nI l) → ∀ w, (ldF W X here road (nI m) (nI c) i).1 w l = X w l) ∧
    ((ldF W X here road (nI m) (nI c) i).2.2 = true ↔ ∃ q l, q < i ∧ l < ne ∧ X 10 q = nI l ∧ wbB W X road l = true) ∧ (∀ l, l < ne → (ldF W X here road (nI m) (nI c) i).1 3 l = 1 → (X 3 l = 1 ∧ (ldF W X here road (nI m) (nI c) i).1 5 l = X 5 l) ∨ (ldF W X here road (nI m) (nI c) i).1 5 l = nI m) ∧ (∀ l, l < ne → ((ldF W X here road (nI m) (nI c) i).1 3 l = 2 ↔ X 3 l = 2))
  | 0, _ => ⟨hO, fun _ _ _ _ => rfl, ⟨c, Nat.le_refl _, rfl⟩, fun _ _ _ _ => rfl, ⟨fun q => Bool.noConfusion q, fun ⟨q, l, h, _⟩ => absurd h (by omega)⟩, fun l _ h => Or.inl ⟨h, rfl⟩, fun _ _ => Iff.rfl⟩
  | i + 1, hi => by
    obtain ⟨h1, h2, ⟨ρ, hρ, h3⟩, h4, h5, h6, h7⟩ := ld_inv (W := W) (here := here) (road := road) hn hm hm2 hc hO hI i (by omega)
    obtain ⟨Y, hY⟩ : ∃ Y, Y = ldF W X here road (nI m) (nI c) i := ⟨_, rfl⟩
    rw [← hY] at h1 h2 h3 h4 h5 h6 h7
    obtain ⟨l, hl, el⟩ := hI.1 i (by omega)
    have hl60 : l < 60 := by omega
    have ho : rg 60 (Y.1 10) (nI i) = nI l := by rw [h2 10 (by decide) (by decide) (by decide), rg_k (by omega) (by decide)]; exact el
    have fresh : ∀ q, q < i → ¬ X 10 q = nI l := fun q hq e => by
      have := ord_inj hI (show q < ne by omega) (show i < ne by omega) hl e el
      omega
    have same := h4 l hl fresh
    have ew : wbB W Y.1 road l = wbB W X road l := wbB_cg hl60 same
    have ec : cdB W Y.1 road here l = cdB W X road here l := cdB_cg hl60 same
    have hst : ldF W X here road (nI m) (nI c) (i + 1) = if cdB W X road here l = true ∧ ρ ≠ 0 then (handC Y.1 (nI l) (nI m), nI (ρ - 1), true) else (Y.1, nI ρ, Y.2.2 || wbB W X road l) := by
      show ldS W (ldF W X here road (nI m) (nI c) i).1 here road (nI m) (ldF W X here road (nI m) (nI c) i).2.1 (ldF W X here road (nI m) (nI c) i).2.2 (rg 60 ((ldF W X here road (nI m) (nI c) i).1 10) (nI i)) = _
      rw [← hY, ho, h3, ldS_at hl60 (by omega), ec, ew]
    rw [hst]
    have wb_of : cdB W X road here l = true → wbB W X road l = true := fun q => (Bool.and_eq_true _ _ ▸ q : _ ∧ _).1
    by_cases c1 : cdB W X road here l = true ∧ ρ ≠ 0
    · rw [if_pos c1]
      have w1 := wb_of c1.1
      have x3 : X 3 l = 0 := eq_of_beq (Bool.and_eq_true _ _ ▸ w1 : _ ∧ _).1
      have y3 : Y.1 3 l = 0 := (same 3).trans x3
      refine ⟨okE_hand h1 hn hl y3 hm, fun w a b d => (hand_r a b d).trans (h2 w a b d), ⟨ρ - 1, by omega, rfl⟩, fun l' hl' hq w => ?_, ?_, fun l' hl' e => ?_, fun l' hl' => ?_⟩
      · have hne : l' ≠ l := fun e => hq i (by omega) (by rw [e]; exact el)
        exact (hand_at hl60 hne).trans (h4 l' hl' (fun q h => hq q (by omega)) w)
      · exact ⟨fun _ => ⟨i, l, by omega, hl, el, w1⟩, fun _ => rfl⟩
      · by_cases hne : l' = l
        · subst hne
          exact Or.inr (hand_5 hl60)
        · have e3 : handC Y.1 (nI l) (nI m) 3 l' = Y.1 3 l' := hand_at hl60 hne
          have e5 : handC Y.1 (nI l) (nI m) 5 l' = Y.1 5 l' := hand_at hl60 hne
          show (X 3 l' = 1 ∧ handC Y.1 (nI l) (nI m) 5 l' = X 5 l') ∨ handC Y.1 (nI l) (nI m) 5 l' = nI m
          rw [e5]
          exact h6 l' hl' (e3 ▸ e)
      · by_cases hne : l' = l
        · subst hne
          show handC Y.1 (nI l') (nI m) 3 l' = 2 ↔ _
          rw [hand_3 hl60, x3]
          decide
        · show handC Y.1 (nI l) (nI m) 3 l' = 2 ↔ _
          rw [hand_at hl60 hne]
          exact h7 l' hl'
    · rw [if_neg c1]
      refine ⟨h1, h2, ⟨ρ, hρ, rfl⟩, fun l' hl' hq => h4 l' hl' (fun q h => hq q (by omega)), ?_, h6, h7⟩
      show (Y.2.2 || wbB W X road l) = true ↔ _
      rw [Bool.or_eq_true, h5]
      constructor
      · rintro (⟨q, l', a, b, d, f⟩ | z)
        · exact ⟨q, l', by omega, b, d, f⟩
        · exact ⟨i, l, by omega, hl, el, z⟩
      · rintro ⟨q, l', a, b, d, f⟩
        by_cases e : q = i
        · subst e
          have : nI l' = nI l := d.symm.trans el
          rw [nI_eq (by omega) (by omega)] at this
          subst this
          exact Or.inr f
        · exact Or.inl ⟨q, l', by omega, b, d, f⟩
theorem take_r {L : Fm} {l m : Int32} {i : Nat} (h : i ≠ 4) : takeM L l m i = L i := by
  unfold takeM seM
  rw [sr_n h, sr_n h, sr_n h]
theorem tk_r {nl : Nat} {fr r m : Int32} {i : Nat} (h : i ≠ 4) : ∀ (j t : Nat) (L : Fm), (tkF nl fr r m j t L).1 i = L i
  | 0, _, _ => rfl
  | j + 1, t, L => by
    rw [tkF]
    split
    · rfl
    · rw [tk_r h j]; exact take_r h
theorem tk_t {nl : Nat} {fr r m : Int32} : ∀ (j t : Nat) (L : Fm), t ≤ (tkF nl fr r m j t L).2 ∧ (tkF nl fr r m j t L).2 ≤ t + j
  | 0, _, _ => ⟨Nat.le_refl _, Nat.le_refl _⟩
  | j + 1, t, L => by
    rw [tkF]
    split
    · exact ⟨Nat.le_refl _, by show t ≤ t + (j + 1); omega⟩
    · have := tk_t (nl := nl) (fr := fr) (r := r) (m := m) j (t + 1) (takeM L (nxF L fr r nl) m)
      omega
/-- the reference takes none just if there is none -/
theorem tk_0 {nl : Nat} {fr r m : Int32} {j : Nat} {L : Fm} (hj : 1 ≤ j) (hj2 : j ≤ 6) : (nI (tkF nl fr r m j 0 L).2 = 0 ↔ nxF L fr r nl = -1) ∧ (nxF L fr r nl = -1 → (tkF nl fr r m j 0 L).1 = L) := by
  obtain ⟨n, rfl⟩ : ∃ n, j = n + 1 := ⟨j - 1, by omega⟩
  rw [tkF]
  by_cases h : nxF L fr r nl = -1
  · rw [if_pos h]
    exact ⟨⟨fun _ => h, fun _ => rfl⟩, fun _ => rfl⟩
  · rw [if_neg h]
    have := tk_t (nl := nl) (fr := fr) (r := r) (m := m) n (0 + 1) (takeM L (nxF L fr r nl) m)
    exact ⟨⟨fun q => absurd q (nI_ne0 (by omega) (by omega)), fun q => absurd q h⟩, fun q => absurd q h⟩
/-- the two ways of taking, side by side -/
theorem ld_sim {W X : Fm} {ns nm ne m c p : Nat} {road : Int32} (h10 : ns ≤ 10) (hn : ne ≤ 60) (hm : m < nm) (hm2 : nm ≤ 12) (hc : c ≤ 6) (hp : p < ns) (hO : okE X ns nm ne) (hI : okO X ne) : ∀ (j i : Nat), i + j = ne → ∀ (T : Fm) (t ρ : Nat), (ldF W X (nI p) road (nI m) (nI c) i).2.1 = nI ρ → ρ ≤ c → rE (ldF W X (nI p) road (nI m) (nI c) i).1 T ne → rW W T →
    (ρ = 0 ∨ ∀ q l, q < i → l < ne → X 10 q = nI l → cdB W (ldF W X (nI p) road (nI m) (nI c) i).1 road (nI p) l = false) → rE (ldF W X (nI p) road (nI m) (nI c) ne).1 (tkF ne (nI p) road (nI m) ρ t T).1 ne
  | 0, i, hi, T, t, ρ, _, _, hE, hW, hno => by
    have e : i = ne := hi
    subst e
    obtain ⟨h1, -⟩ := ld_inv (W := W) (here := nI p) (road := road) hn hm hm2 hc hO hI i (Nat.le_refl _)
    cases ρ with
    | zero => exact hE
    | succ ρ =>
      have hno := hno.resolve_left (by omega)
      have hnone : ∀ l, l < i → wfM T (nI l) (nI p) road = false := fun l hl => by
        rw [wf_eq h10 hn hl hp hE h1 hW]
        obtain ⟨q, hq, eq⟩ := hI.2.1 l hl
        exact hno q l hq hl eq
      rcases nx_spec (L := T) (s := nI p) (r := road) i (by omega) with ⟨-, z⟩ | ⟨b, hb, -, hpb, -⟩
      · rw [tkF, if_pos z]
        exact hE
      · rw [hnone b hb] at hpb
        exact Bool.noConfusion hpb
  | j + 1, i, hi, T, t, ρ, h3, hρ, hE, hW, hno => by
    have hin : i < ne := by omega
    obtain ⟨h1, h2, -, h4, -⟩ := ld_inv (W := W) (here := nI p) (road := road) hn hm hm2 hc hO hI i (by omega)
    obtain ⟨Y, hY⟩ : ∃ Y, Y = ldF W X (nI p) road (nI m) (nI c) i := ⟨_, rfl⟩
    rw [← hY] at h1 h2 h3 h4 hE hno
    obtain ⟨l, hl, el⟩ := hI.1 i hin
    have hl60 : l < 60 := by omega
    have ho : rg 60 (Y.1 10) (nI i) = nI l := by rw [h2 10 (by decide) (by decide) (by decide), rg_k (by omega) (by decide)]; exact el
    have hst : ldF W X (nI p) road (nI m) (nI c) (i + 1) = if cdB W Y.1 road (nI p) l = true ∧ ρ ≠ 0 then (handC Y.1 (nI l) (nI m), nI (ρ - 1), true) else (Y.1, nI ρ, Y.2.2 || wbB W Y.1 road l) := by
      show ldS W (ldF W X (nI p) road (nI m) (nI c) i).1 (nI p) road (nI m) (ldF W X (nI p) road (nI m) (nI c) i).2.1 (ldF W X (nI p) road (nI m) (nI c) i).2.2 (rg 60 ((ldF W X (nI p) road (nI m) (nI c) i).1 10) (nI i)) = _
      rw [← hY, ho, h3, ldS_at hl60 (by omega)]
    have other : ∀ q l', q < i → l' < ne → X 10 q = nI l' → l' ≠ l := fun q l' hq hl' e z => by
      subst z
      have := ord_inj hI (show q < ne by omega) hin hl' e el
      omega
    by_cases c1 : cdB W Y.1 road (nI p) l = true ∧ ρ ≠ 0
    · rw [if_pos c1] at hst
      have hno2 := hno.resolve_left c1.2
      have ch : nxF T (nI p) road ne = nI l := by
        rcases nx_spec (L := T) (s := nI p) (r := road) ne (by omega) with ⟨z, -⟩ | ⟨b, hb, eb, hpb, hbest⟩
        · have := z l hl
          rw [wf_eq h10 hn hl hp hE h1 hW, c1.1] at this
          exact Bool.noConfusion this
        · by_cases e : b = l
          · rw [eb, e]
          · exfalso
            have hwl : wfM T (nI l) (nI p) road = true := by rw [wf_eq h10 hn hl hp hE h1 hW]; exact c1.1
            obtain ⟨q, hq, eq⟩ := hI.2.1 b hb
            rw [wf_eq h10 hn hb hp hE h1 hW] at hpb
            have hqi : i < q := by
              rcases Nat.lt_trichotomy q i with z | z | z
              · rw [hno2 q b z hb eq] at hpb
                exact Bool.noConfusion hpb
              · subst z
                exact absurd ((nI_eq (by omega) (by omega)).mp (eq.symm.trans el)) e
              · exact z
            have u : ∀ x, x < ne → leM T (nI x) 2 = X 2 x := fun x hx => (rE_le (c := 2) hE hn hx (by decide)).trans (by show Y.1 2 x = _; rw [h2 2 (by decide) (by decide) (by decide)])
            have s1 := hI.2.2 i q l b hqi hq hl hb el eq
            have s2 := hbest l hl hwl (fun z => e z.symm)
            rw [u l hl, u b hb] at s2
            rcases s1 with a | ⟨a, a2⟩
            · rcases s2 with d | ⟨d, -⟩
              · exact Int32.lt_irrefl (Int32.lt_trans a d)
              · rw [d] at a; exact Int32.lt_irrefl a
            · rcases s2 with d | ⟨-, d2⟩
              · rw [a] at d; exact Int32.lt_irrefl d
              · omega
      obtain ⟨n, rfl⟩ : ∃ n, ρ = n + 1 := ⟨ρ - 1, by omega⟩
      rw [tkF, ch, if_neg (n_m1 (by omega))]
      refine ld_sim h10 hn hm hm2 hc hp hO hI j (i + 1) (by omega) (takeM T (nI l) (nI m)) (t + 1) n (by rw [hst]; rfl) (by omega) (by rw [hst]; exact hand_rel hE hl60) (fun a b ha hb => by rw [take_r (by decide)]; exact hW a b ha hb) (Or.inr fun q l' hq hl' e => ?_)
      rw [hst]
      show cdB W (handC Y.1 (nI l) (nI m)) road (nI p) l' = false
      by_cases z : q = i
      · subst z
        have : l' = l := (nI_eq (by omega) (by omega)).mp (e.symm.trans el)
        subst this
        unfold cdB wbB
        rw [hand_3 hl60]
        rfl
      · rw [cdB_cg (X := Y.1) (by omega) (fun c => hand_at hl60 (other q l' (by omega) hl' e))]
        exact hno2 q l' (by omega) hl' e
    · rw [if_neg c1] at hst
      refine ld_sim h10 hn hm hm2 hc hp hO hI j (i + 1) (by omega) T t ρ (by rw [hst]) hρ (by rw [hst]; exact hE) hW ?_
      rw [hst]
      by_cases z0 : ρ = 0
      · exact Or.inl z0
      · right
        intro q l' hq hl' e
        by_cases z : q = i
        · subst z
          have : l' = l := (nI_eq (by omega) (by omega)).mp (e.symm.trans el)
          subst this
          cases w : cdB W Y.1 road (nI p) l' with
          | false => rfl
          | true => exact absurd ⟨w, z0⟩ c1
        · exact (hno.resolve_left z0) q l' (by omega) hl' e
