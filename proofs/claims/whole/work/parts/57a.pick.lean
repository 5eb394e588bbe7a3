/-! an hour's third step: which letters a mule takes -/
/-- letters in the order in which mules take them -/
def okO (Le : Fm) (ne : Nat) : Prop := (∀ i, i < ne → ∃ l, l < ne ∧ Le 10 i = nI l) ∧ (∀ l, l < ne → ∃ i, i < ne ∧ Le 10 i = nI l) ∧ ∀ i j x y, i < j → j < ne → x < ne → y < ne → Le 10 i = nI x → Le 10 j = nI y → Le 2 y < Le 2 x ∨ (Le 2 y = Le 2 x ∧ x < y)
theorem okO_of {L X : Fm} {ne : Nat} (h : okO L ne) (e2 : X 2 = L 2) (e10 : X 10 = L 10) : okO X ne := by
  unfold okO
  rw [e2, e10]
  exact h
/-- what the reference's choice is -/
theorem nx_spec {L : Fm} {s r : Int32} : ∀ n, n < 2 ^ 31 → ((∀ l, l < n → wfM L (nI l) s r = false) ∧ nxF L s r n = -1) ∨ ∃ b, b < n ∧ nxF L s r n = nI b ∧ wfM L (nI b) s r = true ∧ ∀ l, l < n → wfM L (nI l) s r = true → l ≠ b → leM L (nI l) 2 < leM L (nI b) 2 ∨ (leM L (nI l) 2 = leM L (nI b) 2 ∧ b < l)
  | 0, _ => Or.inl ⟨fun l h => absurd h (by omega), rfl⟩
  | n + 1, hn => by
    rw [nxF]
    by_cases p : wfM L (nI n) s r = true
    · rw [if_pos p]
      rcases nx_spec (L := L) (s := s) (r := r) n (by omega) with ⟨h1, h2⟩ | ⟨b, hb, e, hp, hbest⟩
      · rw [if_pos h2]
        refine Or.inr ⟨n, by omega, rfl, p, fun l hl hpl hne => ?_⟩
        rw [h1 l (by omega)] at hpl
        exact Bool.noConfusion hpl
      · rw [e, if_neg (n_m1 (by omega))]
        by_cases c : leM L (nI n) 2 ≤ leM L (nI b) 2
        · rw [if_pos c]
          refine Or.inr ⟨b, by omega, rfl, hp, fun l hl hpl hne => ?_⟩
          by_cases q : l = n
          · subst q
            rcases Int32.lt_or_eq_of_le c with z | z
            · exact Or.inl z
            · exact Or.inr ⟨z, hb⟩
          · exact hbest l (by omega) hpl hne
        · rw [if_neg c]
          have c := Int32.not_le.mp c
          refine Or.inr ⟨n, by omega, rfl, p, fun l hl hpl hne => Or.inl ?_⟩
          by_cases q : l = b
          · subst q; exact c
          · rcases hbest l (by omega) hpl q with z | ⟨z, -⟩
            · exact Int32.lt_trans z c
            · rw [z]; exact c
    · rw [if_neg p]
      rcases nx_spec (L := L) (s := s) (r := r) n (by omega) with ⟨h1, h2⟩ | ⟨b, hb, e, hp, hbest⟩
      · refine Or.inl ⟨fun l hl => ?_, h2⟩
        by_cases q : l = n
        · subst q
          cases z : wfM L (nI l) s r with
          | false => rfl
          | true => exact absurd z p
        · exact h1 l (by omega)
      · refine Or.inr ⟨b, by omega, e, hp, fun l hl hpl hne => ?_⟩
        by_cases q : l = n
        · subst q; exact absurd hpl p
        · exact hbest l (by omega) hpl hne
/-- a letter that waits and goes by the road; one that does so here -/
def wbB (W X : Fm) (road : Int32) (l : Nat) : Bool := (X 3 l == 0) && (froC W X (nI l) == road)
def cdB (W X : Fm) (road here : Int32) (l : Nat) : Bool := wbB W X road l && (X 4 l == here)
theorem goal_vd {Le : Fm} {ns nm ne l : Nat} (hO : okE Le ns nm ne) (hn : ne ≤ 60) (hl : l < ne) : ∃ g, g < ns ∧ goalC Le (nI l) = nI g := by
  obtain ⟨⟨a, ha, ea⟩, ⟨b, hb, eb⟩, -, -⟩ := hO l hl
  unfold goalC
  rw [rg_k (by omega) (by decide), rg_k (by omega) (by decide), rg_k (by omega) (by decide)]
  split
  · exact ⟨a, ha, ea⟩
  · exact ⟨b, hb, eb⟩
theorem wait_pl {Le : Fm} {ns nm ne l : Nat} (hO : okE Le ns nm ne) (hl : l < ne) (h3 : Le 3 l = 0) : Le 5 l = -1 ∧ Le 9 l = -1 ∧ ∃ p, p < ns ∧ Le 4 l = nI p := by
  obtain ⟨-, -, -, oo⟩ := hO l hl
  rcases oo with ⟨q, -, -⟩ | ⟨q, q5, q4⟩
  · have q : Le 3 l = 1 := q
    rw [h3] at q
    exact absurd q (by decide)
  · rcases q with ⟨-, q9⟩ | ⟨q3, -⟩
    · exact ⟨q5, q9, q4⟩
    · have q3 : Le 3 l = 2 ∨ Le 3 l = 3 := q3
      rw [h3] at q3
      exact absurd q3 (by decide)
/-- the reference's rows of first roads are the class's -/
def rW (W L : Fm) : Prop := ∀ a b, a < 10 → b < 10 → L 7 (a * 10 + b) = W 1 (a * 10 + b)
theorem rW_fi {W L : Fm} {a b : Nat} (h : rW W L) (ha : a < 10) (hb : b < 10) : fiM L (nI a) (nI b) = fiC W (nI a) (nI b) := by
  unfold fiM
  rw [rg10 ha hb, fi_at ha hb]
  exact h a b ha hb
theorem wf_eq {Le W L : Fm} {ns nm ne l p : Nat} {road : Int32} (h10 : ns ≤ 10) (hn : ne ≤ 60) (hl : l < ne) (hp : p < ns) (hE : rE Le L ne) (hO : okE Le ns nm ne) (hW : rW W L) : wfM L (nI l) (nI p) road = cdB W Le road (nI p) l := by
  obtain ⟨g, hg, eg⟩ := goal_vd hO hn hl
  have e3 : leM L (nI l) 3 = Le 3 l := rE_le (c := 3) hE hn hl (by decide)
  have e4 : leM L (nI l) 4 = Le 4 l := rE_le (c := 4) hE hn hl (by decide)
  unfold wfM cdB wbB froC
  rw [e3, e4, goal_col hE hn hl, eg, rW_fi hW (by omega) (by omega), rg_k (f := Le 4) (by omega) (by decide)]
  by_cases q : Le 4 l = nI p
  · rw [q, beq_self_eq_true, Bool.and_true, Bool.and_true]
  · rw [beq_eq_false_iff_ne.mpr q, Bool.and_false, Bool.and_false, Bool.false_and]
theorem take_col {L : Fm} {k : Nat} {m : Int32} (hk : k < 60) : col (takeM L (nI k) m) = put (put (put (col L) k 3 1) k 5 m) k 4 (-1) := by
  rw [← col_se (L := L) (w := 3) hk (by decide), ← col_se (w := 5) hk (by decide), ← col_se (w := 4) hk (by decide)]
  rfl
theorem hand_pcf {L : Fm} {k : Nat} {m : Int32} (hk : k < 60) : pcf (handC L (nI k) m) = put (put (put (pcf L) k 3 1) k 4 (-1)) k 5 m := by
  have p3 : pcf (sr L 3 (rs 60 (L 3) (nI k) 1)) = put (pcf L) k 3 1 := pcf_sr hk (by decide) (by decide)
  have p4 : pcf (sr (sr L 3 (rs 60 (L 3) (nI k) 1)) 4 (rs 60 (L 4) (nI k) (-1))) = put (put (pcf L) k 3 1) k 4 (-1) := by
    rw [← p3]; exact pcf_sr (L := sr L 3 (rs 60 (L 3) (nI k) 1)) (w := 4) hk (by decide) (by decide)
  unfold handC
  rw [← p4]
  exact pcf_sr (L := sr (sr L 3 (rs 60 (L 3) (nI k) 1)) 4 (rs 60 (L 4) (nI k) (-1))) (w := 5) hk (by decide) (by decide)
theorem hand_r {L : Fm} {l m : Int32} {i : Nat} (h3 : i ≠ 3) (h4 : i ≠ 4) (h5 : i ≠ 5) : handC L l m i = L i := by
  unfold handC
  rw [sr_n h5, sr_n h4, sr_n h3]
theorem hand_at {L : Fm} {k j c : Nat} {m : Int32} (hk : k < 60) (hj : j ≠ k) : handC L (nI k) m c j = L c j := by
  have z : ∀ (X : Fm) (w : Nat) (v : Int32), sr X w (rs 60 (X w) (nI k) v) c j = X c j := fun X w v => by rw [sr_k hk, if_neg (by omega)]
  show sr (sr (sr L 3 (rs 60 (L 3) (nI k) 1)) 4 (rs 60 (L 4) (nI k) (-1))) 5 (rs 60 (L 5) (nI k) m) c j = L c j
  exact (z (sr (sr L 3 (rs 60 (L 3) (nI k) 1)) 4 (rs 60 (L 4) (nI k) (-1))) 5 m).trans ((z (sr L 3 (rs 60 (L 3) (nI k) 1)) 4 (-1)).trans (z L 3 1))
theorem hand_3 {L : Fm} {k : Nat} {m : Int32} (hk : k < 60) : handC L (nI k) m 3 k = 1 := by
  rw [row_pcf (L := handC L (nI k) m) (c := 3) (j := k) (by decide) (by decide), hand_pcf hk, put_c (by decide), put_c (by decide), put_s]
theorem hand_5 {L : Fm} {k : Nat} {m : Int32} (hk : k < 60) : handC L (nI k) m 5 k = m := by
  rw [row_pcf (L := handC L (nI k) m) (c := 5) (j := k) (by decide) (by decide), hand_pcf hk, put_s]
theorem hand_rel {Le L : Fm} {ne k : Nat} {m : Int32} (hE : rE Le L ne) (hk : k < 60) : rE (handC Le (nI k) m) (takeM L (nI k) m) ne := fun j c hj hc => by
  have b := hE j c hj hc
  rw [take_col hk, hand_pcf hk]
  unfold put
  repeat' split
  all_goals first | rfl | exact b | omega
theorem okE_hand {Le : Fm} {ns nm ne k m : Nat} (hO : okE Le ns nm ne) (hn : ne ≤ 60) (hk : k < ne) (h3 : Le 3 k = 0) (hm : m < nm) : okE (handC Le (nI k) (nI m)) ns nm ne := by
  have hk60 : k < 60 := by omega
  intro j hj
  by_cases e : j = k
  · subst e
    obtain ⟨o0, o1, o7, -⟩ := hO j hj
    refine ⟨?_, ?_, ?_, Or.inl ⟨hand_3 hk60, ⟨m, hm, hand_5 hk60⟩, ?_⟩⟩
    · show ∃ a, a < ns ∧ handC Le (nI j) (nI m) 0 j = nI a
      rw [hand_r (by decide) (by decide) (by decide)]; exact o0
    · show ∃ a, a < ns ∧ handC Le (nI j) (nI m) 1 j = nI a
      rw [hand_r (by decide) (by decide) (by decide)]; exact o1
    · show handC Le (nI j) (nI m) 7 j = 0 ∨ handC Le (nI j) (nI m) 7 j = 1
      rw [hand_r (by decide) (by decide) (by decide)]; exact o7
    · show handC Le (nI j) (nI m) 9 j = -1
      rw [hand_r (by decide) (by decide) (by decide)]
      exact (wait_pl hO hj h3).2.1
  · exact okE1_cg (fun c hc h6 => hand_at hk60 e) (hO j hj)
theorem fro_cg {W X Y : Fm} {l : Nat} (hl : l < 60) (h : ∀ c, Y c l = X c l) : froC W Y (nI l) = froC W X (nI l) := by
  unfold froC goalC
  rw [rg_k (f := Y 4) hl (by decide), rg_k (f := X 4) hl (by decide), rg_k (f := Y 7) hl (by decide), rg_k (f := X 7) hl (by decide), rg_k (f := Y 0) hl (by decide), rg_k (f := X 0) hl (by decide), rg_k (f := Y 1) hl (by decide), rg_k (f := X 1) hl (by decide), h 4, h 7, h 0, h 1]
theorem wbB_cg {W X Y : Fm} {l : Nat} {road : Int32} (hl : l < 60) (h : ∀ c, Y c l = X c l) : wbB W Y road l = wbB W X road l := by
  unfold wbB
  rw [fro_cg hl h, h 3]
theorem cdB_cg {W X Y : Fm} {l : Nat} {road here : Int32} (hl : l < 60) (h : ∀ c, Y c l = X c l) : cdB W Y road here l = cdB W X road here l := by
  unfold cdB
  rw [wbB_cg hl h, h 4]
/-- one letter of the order: what the class does -/
theorem ldS_at {W X : Fm} {here road m : Int32} {ρ l : Nat} {has : Bool} (hl : l < 60) (hρ : ρ < 2 ^ 31) : ldS W X here road m (nI ρ) has (nI l) = if cdB W X road here l = true ∧ ρ ≠ 0 then (handC X (nI l) m, nI (ρ - 1), true) else (X, nI ρ, has || wbB W X road l) := by
  unfold ldS cdB wbB
  rw [rg_k hl (by decide), rg_k hl (by decide)]
  by_cases c1 : X 3 l = 0
  · rw [if_pos c1, c1, beq_self_eq_true, Bool.true_and]
    by_cases c2 : froC W X (nI l) = road
    · rw [if_pos c2, c2, beq_self_eq_true, Bool.true_and, Bool.or_true]
      by_cases c3 : X 4 l = here
      · rw [if_pos c3, c3, beq_self_eq_true]
        by_cases c4 : ρ = 0
        · subst c4
          rw [if_pos (show nI 0 ≤ 0 by decide), if_neg (fun q => q.2 rfl)]
        · rw [if_neg (nI_nle (by omega) hρ), if_pos ⟨rfl, c4⟩]
          obtain ⟨n, rfl⟩ : ∃ n, ρ = n + 1 := ⟨ρ - 1, by omega⟩
          rw [pk_m1, Nat.add_sub_cancel]
      · rw [if_neg c3, beq_eq_false_iff_ne.mpr c3, if_neg (fun q => Bool.false_ne_true q.1)]
    · rw [if_neg c2, beq_eq_false_iff_ne.mpr c2, Bool.false_and, Bool.or_false, if_neg (fun q => Bool.false_ne_true q.1)]
  · rw [if_neg c1, beq_eq_false_iff_ne.mpr c1, Bool.false_and, Bool.false_and, Bool.or_false, if_neg (fun q => Bool.false_ne_true q.1)]
