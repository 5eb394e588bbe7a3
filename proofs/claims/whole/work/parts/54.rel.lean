/-! the two states, side by side: letters and mules -/
def put (f : Nat → Nat → Int32) (k w : Nat) (v : Int32) : Nat → Nat → Int32 := fun j c => if j = k ∧ c = w then v else f j c
theorem put_cg {f g : Nat → Nat → Int32} {k w j c : Nat} {v : Int32} (h : f j c = g j c) : put f k w v j c = put g k w v j c := by
  unfold put
  split
  · rfl
  · exact h
theorem put_s {f : Nat → Nat → Int32} {k w : Nat} {v : Int32} : put f k w v k w = v := if_pos ⟨rfl, rfl⟩
theorem put_c {f : Nat → Nat → Int32} {k w j c : Nat} {v : Int32} (h : c ≠ w) : put f k w v j c = f j c := if_neg (fun q => h q.2)
theorem put_j {f : Nat → Nat → Int32} {k w j c : Nat} {v : Int32} (h : j ≠ k) : put f k w v j c = f j c := if_neg (fun q => h q.1)
/-- a letter's number in the reference's table -/
def col (L : Fm) : Nat → Nat → Int32 := fun j c => if j < 60 ∧ c < 11 then L 4 (11 * j + c) else 0
def mcol (L : Fm) : Nat → Nat → Int32 := fun j c => if j < 12 ∧ c < 5 then L 3 (5 * j + c) else 0
/-- the same number out of the class's rows -/
def pcf (L : Fm) : Nat → Nat → Int32 := fun j c => if c = 6 then z2 (!(L 6 j == 0)) else if c = 10 then L 6 j else L c j
theorem le_col {L : Fm} {j c : Nat} (hj : j < 60) (hc : c < 11) : leM L (nI j) (nI c) = col L j c := by
  unfold leM col
  rw [if_pos ⟨hj, hc⟩, show (11 : Int32) = nI 11 from rfl, pk_mul, nI_add]
  exact rg_k (by omega) (by decide)
theorem mu_col {L : Fm} {j c : Nat} (hj : j < 12) (hc : c < 5) : muM L (nI j) (nI c) = mcol L j c := by
  unfold muM mcol
  rw [if_pos ⟨hj, hc⟩, show (5 : Int32) = nI 5 from rfl, pk_mul, nI_add]
  exact rg_k (by omega) (by decide)
theorem col_se {L : Fm} {k w : Nat} {v : Int32} (hk : k < 60) (hw : w < 11) : col (seM L (nI k) (nI w) v) = put (col L) k w v := by
  funext j c
  unfold seM col put
  dsimp only
  rw [sr_s, show (11 : Int32) = nI 11 from rfl, pk_mul, nI_add, rs_k (by omega) (by decide)]
  by_cases h : j < 60 ∧ c < 11
  · rw [if_pos h, if_pos h]
    by_cases e : j = k ∧ c = w
    · rw [if_pos e, e.1, e.2]; exact pk_us
    · rw [if_neg e]; exact pk_un (by omega)
  · rw [if_neg h, if_neg h, if_neg (by omega)]
theorem mcol_sm {L : Fm} {k w : Nat} {v : Int32} (hk : k < 12) (hw : w < 5) : mcol (smM L (nI k) (nI w) v) = put (mcol L) k w v := by
  funext j c
  unfold smM mcol put
  dsimp only
  rw [sr_s, show (5 : Int32) = nI 5 from rfl, pk_mul, nI_add, rs_k (by omega) (by decide)]
  by_cases h : j < 12 ∧ c < 5
  · rw [if_pos h, if_pos h]
    by_cases e : j = k ∧ c = w
    · rw [if_pos e, e.1, e.2]; exact pk_us
    · rw [if_neg e]; exact pk_un (by omega)
  · rw [if_neg h, if_neg h, if_neg (by omega)]
theorem col_of {L X : Fm} (h : X 4 = L 4) : col X = col L := by
  unfold col
  rw [h]
theorem mcol_of {L X : Fm} (h : X 3 = L 3) : mcol X = mcol L := by
  unfold mcol
  rw [h]
theorem sr_at (L : Fm) (r : Nat) (g : Nat → Int32) (c j : Nat) : sr L r g c j = if c = r then g j else L c j := by
  by_cases h : c = r
  · rw [if_pos h, h, sr_s]
  · rw [if_neg h, sr_n h]
theorem row_sr {L : Fm} {n k w : Nat} {v : Int32} (hk : k < n) (hn : n < 2 ^ 31) : (fun j c => sr L w (rs n (L w) (nI k) v) c j) = put (fun j c => L c j) k w v := by
  funext j c
  show sr L w (rs n (L w) (nI k) v) c j = if j = k ∧ c = w then v else L c j
  rw [sr_at, rs_k hk hn]
  by_cases h : c = w
  · rw [if_pos h, h]
    by_cases e : j = k
    · rw [if_pos ⟨e, rfl⟩, e]; exact pk_us
    · rw [if_neg (by omega)]; exact pk_un e
  · rw [if_neg h, if_neg (by omega)]
theorem pcf_sr {L : Fm} {k w : Nat} {v : Int32} (hk : k < 60) (hw : w < 10) (h6 : w ≠ 6) : pcf (sr L w (rs 60 (L w) (nI k) v)) = put (pcf L) k w v := by
  have e := row_sr (L := L) (n := 60) (k := k) (w := w) (v := v) hk (by decide)
  funext j c
  have e1 : ∀ j c, sr L w (rs 60 (L w) (nI k) v) c j = put (fun j c => L c j) k w v j c := fun j c => congrFun (congrFun e j) c
  unfold pcf
  rw [e1, e1, put_c (show (6 : Nat) ≠ w from fun q => h6 q.symm)]
  unfold put
  dsimp only
  by_cases c6 : c = 6
  · rw [if_pos c6, if_neg (fun q => h6 (by rw [← q.2, c6])), if_pos c6]
  · rw [if_neg c6]
    by_cases c10 : c = 10
    · rw [if_pos c10, if_neg (by omega), if_neg c6, if_pos c10]
    · rw [if_neg c10]
      by_cases e : j = k ∧ c = w
      · rw [if_pos e, if_pos e]
      · rw [if_neg e, if_neg e, if_neg c6, if_neg c10]
/-- what a letter's recall knows, set to another set that isn't empty -/
theorem pcf_6 {L : Fm} {k : Nat} {v : Int32} (hk : k < 60) (hv : ¬ v = 0) : pcf (sr L 6 (rs 60 (L 6) (nI k) v)) = put (put (pcf L) k 10 v) k 6 1 := by
  have e := row_sr (L := L) (n := 60) (k := k) (w := 6) (v := v) hk (by decide)
  have e1 : ∀ j c, sr L 6 (rs 60 (L 6) (nI k) v) c j = put (fun j c => L c j) k 6 v j c := fun j c => congrFun (congrFun e j) c
  funext j c
  unfold pcf
  rw [e1, e1]
  unfold put
  by_cases hj : j = k
  · subst hj
    by_cases c6 : c = 6
    · subst c6
      simp [z2, hv]
    · by_cases c10 : c = 10
      · subst c10
        simp
      · simp [c6, c10]
  · simp [hj]
def rE (Le L : Fm) (ne : Nat) : Prop := ∀ j c, j < ne → c < 11 → col L j c = pcf Le j c
def rM (Lm L : Fm) (nm : Nat) : Prop := ∀ j c, j < nm → c < 5 → mcol L j c = Lm c j
theorem rE_put {Le L Le' L' : Fm} {ne k w : Nat} {v : Int32} (h : rE Le L ne) (h1 : col L' = put (col L) k w v) (h2 : pcf Le' = put (pcf Le) k w v) : rE Le' L' ne := fun j c hj hc => by
  rw [h1, h2]
  exact put_cg (h j c hj hc)
theorem rE_of {Le L X : Fm} {ne : Nat} (h : rE Le L ne) (e : X 4 = L 4) : rE Le X ne := fun j c hj hc => by rw [col_of e]; exact h j c hj hc
theorem rM_of {Lm L X : Fm} {nm : Nat} (h : rM Lm L nm) (e : X 3 = L 3) : rM Lm X nm := fun j c hj hc => by rw [mcol_of e]; exact h j c hj hc
theorem rE_le {Le L : Fm} {ne j c : Nat} (h : rE Le L ne) (hn : ne ≤ 60) (hj : j < ne) (hc : c < 11) : leM L (nI j) (nI c) = pcf Le j c := by rw [le_col (by omega) hc]; exact h j c hj hc
theorem rM_mu {Lm L : Fm} {nm j c : Nat} (h : rM Lm L nm) (hn : nm ≤ 12) (hj : j < nm) (hc : c < 5) : muM L (nI j) (nI c) = Lm c j := by rw [mu_col (by omega) hc]; exact h j c hj hc
theorem rM_put {Lm L L' : Fm} {nm k w : Nat} {v : Int32} (h : rM Lm L nm) (hk : k < 12) (h1 : mcol L' = put (mcol L) k w v) : rM (sr Lm w (rs 12 (Lm w) (nI k) v)) L' nm := fun j c hj hc => by
  have e := congrFun (congrFun (row_sr (L := Lm) (n := 12) (k := k) (w := w) (v := v) hk (by decide)) j) c
  rw [h1, show sr Lm w (rs 12 (Lm w) (nI k) v) c j = put (fun j c => Lm c j) k w v j c from e]
  exact put_cg (h j c hj hc)
/-! counts -/
theorem cI_cg {P Q : Nat → Bool} : ∀ n, (∀ k, k < n → P k = Q k) → cI P n = cI Q n
  | 0, _ => rfl
  | n + 1, h => by rw [cI, cI, h n (by omega), cI_cg n (fun k hk => h k (by omega))]
theorem cI_up {P Q : Nat → Bool} {j : Nat} : ∀ n, j < n → (∀ k, k < n → k ≠ j → P k = Q k) → P j = false → cI Q n = cI P n + (if Q j = true then 1 else 0)
  | 0, h, _, _ => absurd h (by omega)
  | n + 1, h, hpq, hp => by
    by_cases e : j = n
    · subst e
      have h1 : cI P j = cI Q j := cI_cg j (fun k hk => hpq k (by omega) (by omega))
      rw [cI, cI, h1, hp, if_neg (show ¬ false = true from Bool.false_ne_true)]
      by_cases q : Q j = true
      · rw [if_pos q, if_pos q]
      · rw [if_neg q, if_neg q, Int32.add_zero]
    · have ih := cI_up n (by omega) (fun k hk hne => hpq k (by omega) hne) hp
      rw [cI, cI, ih, hpq n (by omega) (fun q => e q.symm)]
      by_cases q : Q n = true
      · rw [if_pos q, if_pos q, Int32.add_assoc, Int32.add_assoc, Int32.add_comm (if Q j = true then 1 else 0) 1]
      · rw [if_neg q, if_neg q]
theorem cI_nat (P : Nat → Bool) : ∀ n, ∃ c, c ≤ n ∧ cI P n = nI c
  | 0 => ⟨0, by omega, rfl⟩
  | n + 1 => by
    obtain ⟨c, hc, e⟩ := cI_nat P n
    rw [cI]
    by_cases q : P n = true
    · rw [if_pos q, e, nI_1]; exact ⟨c + 1, by omega, rfl⟩
    · rw [if_neg q, e]; exact ⟨c, by omega, rfl⟩
theorem cI_pos {P : Nat → Bool} {k : Nat} : ∀ n, n < 2 ^ 31 → k < n → P k = true → ¬ cI P n ≤ 0
  | 0, _, h, _ => absurd h (by omega)
  | n + 1, hn, h, hp => by
    obtain ⟨c, hc, e⟩ := cI_nat P n
    rw [cI]
    by_cases q : P n = true
    · rw [if_pos q, e, nI_1]
      exact nI_nle (by omega) (by omega)
    · rw [if_neg q]
      refine cI_pos n (by omega) ?_ hp
      have : k ≠ n := fun e => q (by rw [← e]; exact hp)
      omega
theorem cI_some {P : Nat → Bool} : ∀ n, ¬ cI P n ≤ 0 → ∃ k, k < n ∧ P k = true
  | 0, h => absurd (show cI P 0 ≤ 0 from Int32.le_refl 0) h
  | n + 1, h => by
    rw [cI] at h
    by_cases q : P n = true
    · exact ⟨n, by omega, q⟩
    · rw [if_neg q] at h
      obtain ⟨k, hk, hp⟩ := cI_some n h
      exact ⟨k, by omega, hp⟩
theorem cI_zero {P : Nat → Bool} {n : Nat} (hn : n < 2 ^ 31) : cI P n = 0 ↔ cI P n ≤ 0 := by
  obtain ⟨c, hc, e⟩ := cI_nat P n
  rw [e]
  constructor
  · intro h; rw [h]; exact Int32.le_refl 0
  · intro h
    rcases Nat.eq_zero_or_pos c with q | q
    · rw [q]; rfl
    · exact absurd h (nI_nle q (by omega))
/-! a letter is laid down -/
theorem goal_col {Le L : Fm} {ne k : Nat} (h : rE Le L ne) (hn : ne ≤ 60) (hk : k < ne) : goM L (nI k) = goalC Le (nI k) := by
  have e7 : leM L (nI k) 7 = Le 7 k := rE_le (c := 7) h hn hk (by decide)
  have e0 : leM L (nI k) 0 = Le 0 k := rE_le (c := 0) h hn hk (by decide)
  have e1 : leM L (nI k) 1 = Le 1 k := rE_le (c := 1) h hn hk (by decide)
  unfold goM goalC
  rw [e7, e0, e1, rg_k (by omega) (by decide), rg_k (by omega) (by decide), rg_k (by omega) (by decide)]
theorem lay_pcf {L : Fm} {k : Nat} {s h : Int32} (hk : k < 60) : pcf (layC L (nI k) s h) = if s = goalC L (nI k) then put (put (put (put (pcf L) k 4 s) k 5 (-1)) k 3 (if L 7 k = 1 then 3 else 2)) k 9 h else put (put (put (pcf L) k 4 s) k 5 (-1)) k 3 0 := by
  have r7 : rg 60 (L 7) (nI k) = L 7 k := rg_k hk (by decide)
  have p4 : pcf (sr L 4 (rs 60 (L 4) (nI k) s)) = put (pcf L) k 4 s := pcf_sr hk (by decide) (by decide)
  have p5 : pcf (sr (sr L 4 (rs 60 (L 4) (nI k) s)) 5 (rs 60 (L 5) (nI k) (-1))) = put (put (pcf L) k 4 s) k 5 (-1) := by
    rw [← p4]; exact pcf_sr (L := sr L 4 (rs 60 (L 4) (nI k) s)) (w := 5) hk (by decide) (by decide)
  have p3 : ∀ v, pcf (sr (sr (sr L 4 (rs 60 (L 4) (nI k) s)) 5 (rs 60 (L 5) (nI k) (-1))) 3 (rs 60 (L 3) (nI k) v)) = put (put (put (pcf L) k 4 s) k 5 (-1)) k 3 v := fun v => by
    rw [← p5]; exact pcf_sr (L := sr (sr L 4 (rs 60 (L 4) (nI k) s)) 5 (rs 60 (L 5) (nI k) (-1))) (w := 3) hk (by decide) (by decide)
  unfold layC
  by_cases e : s = goalC L (nI k)
  · rw [if_pos e, if_pos e, r7, ← p3]
    exact pcf_sr (L := sr (sr (sr L 4 (rs 60 (L 4) (nI k) s)) 5 (rs 60 (L 5) (nI k) (-1))) 3 (rs 60 (L 3) (nI k) (if L 7 k = 1 then 3 else 2))) (w := 9) hk (by decide) (by decide)
  · rw [if_neg e, if_neg e]
    exact p3 0
theorem layM_col {L : Fm} {k : Nat} {s : Int32} (hk : k < 60) : col (layM L (nI k) s) = put (put (put (col L) k 3 0) k 5 (-1)) k 4 s := by
  rw [← col_se (L := L) (w := 3) hk (by decide), ← col_se (w := 5) hk (by decide), ← col_se (w := 4) hk (by decide)]
  rfl
theorem endM_col {L : Fm} {k : Nat} {st : Int32} (hk : k < 60) : col (endM L (nI k) st) = put (put (col L) k 3 st) k 9 (rg 2 (L 5) 0) := by
  rw [← col_se (L := L) (w := 3) hk (by decide), ← col_se (w := 9) hk (by decide)]
  rfl
theorem unM_r {L : Fm} {k s : Int32} {i : Nat} (h : i ≠ 4) : (unM L k s).1 i = L i := by
  have e1 : layM L k s i = L i := by unfold layM seM; rw [sr_n h, sr_n h, sr_n h]
  have e2 : ∀ X st, endM X k st i = X i := fun X st => by unfold endM seM; rw [sr_n h, sr_n h]
  unfold unM
  split
  · split
    · exact (e2 _ _).trans e1
    · exact (e2 _ _).trans e1
  · exact e1
theorem un_rel {Le L : Fm} {ne k : Nat} {s h : Int32} (hE : rE Le L ne) (hn : ne ≤ 60) (hk : k < ne) (hh : rg 2 (L 5) 0 = h) : rE (layC Le (nI k) s h) (unM L (nI k) s).1 ne ∧ ((unM L (nI k) s).2 = true ↔ layC Le (nI k) s h 3 k = 2) := by
  have hk60 : k < 60 := by omega
  have hg := goal_col hE hn hk
  have c7 : col L k 7 = Le 7 k := hE k 7 hk (by decide)
  have g7 : leM (layM L (nI k) s) (nI k) 7 = Le 7 k := by
    rw [show leM (layM L (nI k) s) (nI k) 7 = col (layM L (nI k) s) k 7 from le_col hk60 (by decide), layM_col hk60, put_c (by decide), put_c (by decide), put_c (by decide)]
    exact c7
  have gg : goM (layM L (nI k) s) (nI k) = goM L (nI k) := by
    have f : ∀ c, c < 11 → c ≠ 3 → c ≠ 4 → c ≠ 5 → leM (layM L (nI k) s) (nI k) (nI c) = leM L (nI k) (nI c) := fun c hc h3 h4 h5 => by
      rw [le_col hk60 hc, le_col hk60 hc, layM_col hk60, put_c h4, put_c h5, put_c h3]
    unfold goM
    rw [show leM (layM L (nI k) s) (nI k) 7 = leM L (nI k) 7 from f 7 (by decide) (by decide) (by decide) (by decide), show leM (layM L (nI k) s) (nI k) 0 = leM L (nI k) 0 from f 0 (by decide) (by decide) (by decide) (by decide), show leM (layM L (nI k) s) (nI k) 1 = leM L (nI k) 1 from f 1 (by decide) (by decide) (by decide) (by decide)]
  have h5 : rg 2 (layM L (nI k) s 5) 0 = h := by rw [show layM L (nI k) s 5 = L 5 from rfl]; exact hh
  have s3 : layC Le (nI k) s h 3 k = pcf (layC Le (nI k) s h) k 3 := rfl
  rw [s3]
  unfold rE
  rw [lay_pcf hk60]
  unfold unM
  rw [gg, hg]
  by_cases e : s = goalC Le (nI k)
  · rw [if_pos e.symm, if_pos e, g7]
    by_cases t : Le 7 k = 1
    · rw [if_pos t, if_pos t]
      refine ⟨fun j c hj hc => ?_, ?_⟩
      · show col (endM (layM L (nI k) s) (nI k) 3) j c = _
        rw [endM_col hk60, layM_col hk60, h5]
        have b := hE j c hj hc
        unfold put
        repeat' split
        all_goals first | rfl | exact b | omega
      · show false = true ↔ _
        rw [put_c (by decide), put_s]
        exact ⟨fun q => Bool.noConfusion q, fun q => absurd q (by decide)⟩
    · rw [if_neg t, if_neg t]
      refine ⟨fun j c hj hc => ?_, ?_⟩
      · show col (endM (layM L (nI k) s) (nI k) 2) j c = _
        rw [endM_col hk60, layM_col hk60, h5]
        have b := hE j c hj hc
        unfold put
        repeat' split
        all_goals first | rfl | exact b | omega
      · show true = true ↔ _
        rw [put_c (by decide), put_s]
        exact ⟨fun _ => rfl, fun _ => rfl⟩
  · rw [if_neg (fun q => e q.symm), if_neg e]
    refine ⟨fun j c hj hc => ?_, ?_⟩
    · show col (layM L (nI k) s) j c = _
      rw [layM_col hk60]
      have b := hE j c hj hc
      unfold put
      repeat' split
      all_goals first | rfl | exact b | omega
    · show false = true ↔ _
      rw [put_s]
      exact ⟨fun q => Bool.noConfusion q, fun q => absurd q (by decide)⟩
