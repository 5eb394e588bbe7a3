/-! an hour's second step: fires -/
def btz (x : Int32) (i : Nat) : Bool := x.toBitVec.getLsbD i
theorem btz_ext {x y : Int32} (h : ∀ i, i < 32 → btz x i = btz y i) : x = y := Int32.toBitVec_inj.mp (BitVec.eq_of_getLsbD_eq (fun i hi => h i hi))
theorem btz_or (x y : Int32) (i : Nat) : btz (x ||| y) i = (btz x i || btz y i) := by unfold btz; rw [Int32.toBitVec_or, BitVec.getLsbD_or]
theorem btz_and (x y : Int32) (i : Nat) : btz (x &&& y) i = (btz x i && btz y i) := by unfold btz; rw [Int32.toBitVec_and, BitVec.getLsbD_and]
theorem btz_xor (x y : Int32) (i : Nat) : btz (x ^^^ y) i = (btz x i ^^ btz y i) := by unfold btz; rw [Int32.toBitVec_xor, BitVec.getLsbD_xor]
theorem btz_m1 : ∀ i, i < 32 → btz (-1) i = true := by decide +kernel
theorem btz_0 (i : Nat) : btz 0 i = false := BitVec.getLsbD_zero
theorem btz_sl : ∀ n, n < 32 → ((nI n &&& 31).toBitVec.smod 32).toNat = n := by decide +kernel
theorem btz_one : ∀ n, n < 32 → ∀ i, i < 32 → btz ((1 : Int32) <<< (nI n &&& 31)) i = decide (i = n) := by decide +kernel
theorem btz_sshr (n : Nat) (hn : n < 32) (x : Int32) {i : Nat} (hi : i < 32) : btz (x >>> (nI n &&& 31)) i = if n + i < 32 then btz x (n + i) else btz x 31 := by
  unfold btz
  rw [Int32.toBitVec_shiftRight]
  show (x.toBitVec.sshiftRight ((nI n &&& 31).toBitVec.smod 32).toNat).getLsbD i = _
  rw [btz_sl n hn, BitVec.getLsbD_sshiftRight, BitVec.msb_eq_getLsbD_last]
  simp [hi]
theorem btz_lit1 : ∀ i, i < 32 → btz 1 i = decide (i = 0) := by decide +kernel
/-- a set has a station: the reference's test, the class's test, the bit -/
theorem bHm_bit {x : Int32} {n : Nat} (hn : n < 32) : bHm x (nI n) = btz x n := by
  have e : (x >>> (nI n &&& 31)) &&& 1 = 1 ↔ btz x n = true := by
    have b0 : btz (x >>> (nI n &&& 31)) 0 = btz x n := by rw [btz_sshr n hn x (by omega), if_pos (by omega), Nat.add_zero]
    constructor
    · intro h
      have h1 : btz ((x >>> (nI n &&& 31)) &&& 1) 0 = true := by rw [h]; decide
      rw [btz_and, b0, btz_lit1 0 (by omega)] at h1
      simpa using h1
    · intro h
      refine btz_ext fun i hi => ?_
      rw [btz_and, btz_lit1 i hi]
      by_cases q : i = 0
      · rw [q, b0, h]; rfl
      · rw [decide_eq_false q, Bool.and_false]
  unfold bHm
  cases hb : btz x n with
  | false => exact decide_eq_false (fun q => by rw [e.mp q] at hb; exact Bool.noConfusion hb)
  | true => exact decide_eq_true (e.mpr hb)
theorem bH_bit {x : Int32} {n : Nat} (hn : n < 32) : bH x (nI n) = btz x n := bHm_bit hn
/-- the reference's rows of the land are the class's -/
def rD (Ld L : Fm) (ns nr : Nat) : Prop := (∀ k, k < ns → L 0 k = Ld 0 k ∧ L 1 k = Ld 1 k) ∧ ∀ k c, k < nr → c < 3 → L 2 (3 * k + c) = Ld (2 + c) k
theorem rD_of {Ld L X : Fm} {ns nr : Nat} (h : rD Ld L ns nr) (e0 : X 0 = L 0) (e1 : X 1 = L 1) (e2 : X 2 = L 2) : rD Ld X ns nr := by
  unfold rD
  rw [e0, e1, e2]
  exact h
theorem lit_eq {Ld L : Fm} {ns nr : Nat} {fog kn : Int32} (hn : ns ≤ 10) (h : rD Ld L ns nr) : ∀ k, k ≤ ns → litFM L fog kn k = litF Ld fog kn k
  | 0, _ => rfl
  | k + 1, hk => by
    have ih := lit_eq (fog := fog) (kn := kn) hn h k (by omega)
    have e : btz (kn &&& (fog ^^^ (-1))) k = (btz kn k && !btz fog k) := by rw [btz_and, btz_xor, btz_m1 k (by omega), Bool.xor_true]
    rw [litFM, litF, ih, bHm_bit (by omega), bHm_bit (by omega), bH_bit (by omega), e, rg_k (f := L 1) (by omega) (by decide), rg_k (f := Ld 1) (by omega) (by decide), (h.1 k (by omega)).2]
    by_cases c : btz kn k = true ∧ btz fog k = false
    · rw [if_pos (show (btz kn k && !btz fog k) = true by rw [c.1, c.2]; rfl), if_pos ⟨c.1, by rw [c.2]; exact Bool.false_ne_true⟩]
    · rw [if_neg (show ¬ (btz kn k && !btz fog k) = true from fun q => by rw [Bool.and_eq_true] at q; exact c ⟨q.1, by simpa using q.2⟩), if_neg]
      intro q
      refine c ⟨q.1, ?_⟩
      cases z : btz fog k with
      | false => rfl
      | true => exact absurd z q.2
theorem litM_eq {Ld L : Fm} {ns nr : Nat} {fog kn : Int32} (hn : ns ≤ 10) (h : rD Ld L ns nr) : litM L ns fog kn = litC Ld ns fog kn := lit_eq hn h ns (Nat.le_refl _)
theorem litF_up {Ld : Fm} {fog kn : Int32} {i : Nat} (h : btz kn i = true) : ∀ k, btz (litF Ld fog kn k) i = true
  | 0 => h
  | k + 1 => by
    rw [litF]
    split
    · rw [btz_or, litF_up h k]; rfl
    · exact litF_up h k
theorem ne0_bit {x : Int32} (h : ¬ x = 0) : ∃ i, i < 32 ∧ btz x i = true := by
  apply Classical.byContradiction
  intro q
  refine h (btz_ext fun i hi => ?_)
  rw [btz_0]
  cases z : btz x i with
  | false => rfl
  | true => exact absurd ⟨i, hi, z⟩ q
theorem lit_ne0 {Ld : Fm} {ns : Nat} {fog kn : Int32} (h : ¬ kn = 0) : ¬ litC Ld ns fog kn = 0 := by
  obtain ⟨i, -, hb⟩ := ne0_bit h
  intro q
  have := litF_up (Ld := Ld) (fog := fog) hb ns
  rw [show litF Ld fog kn ns = 0 from q, btz_0] at this
  exact Bool.noConfusion this
theorem isRec_iff {L : Fm} {k : Nat} (hk : k < 60) : isRecC L (nI k) = true ↔ ¬ L 6 k = 0 := by
  unfold isRecC
  rw [rg_k hk (by decide)]
  simp
theorem fr1_r {L : Fm} {ns : Nat} {fog l : Int32} {i : Nat} (h : i ≠ 4) : fr1 L ns fog l i = L i := by
  unfold fr1 seM
  rw [sr_n h]
theorem frS_r {L : Fm} {ns : Nat} {fog l : Int32} {i : Nat} (h : i ≠ 4) : frS L ns fog l i = L i := by
  have e1 : fr1 L ns fog l i = L i := fr1_r h
  have e2 : ∀ X w v, seM X l w v i = X i := fun X w v => by unfold seM; rw [sr_n h]
  unfold frS
  split
  · rfl
  · split
    · split
      · exact e1
      · split
        · split
          · unfold endM; rw [e2, e2, e2]; exact e1
          · rw [e2]; exact e1
        · exact e1
    · exact e1
theorem spS_r {L Ld : Fm} {ns : Nat} {fog h l : Int32} {i : Nat} (h3 : i ≠ 3) (h4 : i ≠ 4) (h5 : i ≠ 5) (h6 : i ≠ 6) (h7 : i ≠ 7) (h9 : i ≠ 9) : spS L Ld ns fog h l i = L i := by
  unfold spS turnC
  repeat' split
  · rw [lay_r h3 h4 h5 h9, sr_n h7, sr_n h6]
  · exact sr_n h6
  · exact sr_n h6
  · exact sr_n h6
  · rfl
theorem sr_k {L : Fm} {w k : Nat} {v : Int32} (hk : k < 60) (c j : Nat) : sr L w (rs 60 (L w) (nI k) v) c j = if j = k ∧ c = w then v else L c j := by
  rw [sr_at, rs_k hk (by decide)]
  by_cases h : c = w
  · rw [if_pos h, h]
    by_cases e : j = k
    · rw [if_pos ⟨e, rfl⟩, e]; exact pk_us
    · rw [if_neg (by omega)]; exact pk_un e
  · rw [if_neg h, if_neg (by omega)]
/-- one letter's fires, side by side -/
theorem fr_rel {Le Ld L : Fm} {ns nr nm ne k h : Nat} {fog : Int32} (hn : ne ≤ 60) (h10 : ns ≤ 10) (hk : k < ne) (hD : rD Ld L ns nr) (hE : rE Le L ne) (hO : okE Le ns nm ne) (hhr : rg 2 (L 5) 0 = nI h) (hh : h < 2 ^ 30) :
    rE (spS Le Ld ns fog (nI h) (nI k)) (frS L ns fog (nI k)) ne ∧ okE (spS Le Ld ns fog (nI h) (nI k)) ns nm ne ∧ (∀ l, l < ne → (spS Le Ld ns fog (nI h) (nI k) 3 l = 1 ↔ Le 3 l = 1) ∧ (spS Le Ld ns fog (nI h) (nI k) 3 l = 2 ↔ Le 3 l = 2) ∧ spS Le Ld ns fog (nI h) (nI k) 5 l = Le 5 l) := by
  have hk60 : k < 60 := by omega
  have e6 : leM L (nI k) 6 = z2 (!(Le 6 k == 0)) := rE_le (c := 6) hE hn hk (by decide)
  have e10 : leM L (nI k) 10 = Le 6 k := rE_le (c := 10) hE hn hk (by decide)
  have hrec := isRec_iff (L := Le) hk60
  have r : ∀ i, rg 60 (Le i) (nI k) = Le i k := fun i => rg_k hk60 (by decide)
  unfold spS frS
  by_cases c0 : Le 6 k = 0
  · rw [if_neg (fun q => hrec.mp q c0), if_pos (by rw [e6, c0]; decide)]
    exact ⟨hE, hO, fun l _ => ⟨Iff.rfl, Iff.rfl, rfl⟩⟩
  · have n6 : ¬ leM L (nI k) 6 = 0 := by
      rw [e6]
      intro q
      exact z2_0.mp q (by simp [c0])
    rw [if_pos (hrec.mpr c0), if_neg n6, r 3, r 6, r 7, r 4]
    obtain ⟨kn, hkn⟩ : ∃ x, x = litC Ld ns fog (Le 6 k) := ⟨_, rfl⟩
    rw [← hkn]
    have kn0 : ¬ kn = 0 := by rw [hkn]; exact lit_ne0 c0
    obtain ⟨X, hX⟩ : ∃ X, X = sr Le 6 (rs 60 (Le 6) (nI k) kn) := ⟨_, rfl⟩
    obtain ⟨Y, hY⟩ : ∃ Y, Y = fr1 L ns fog (nI k) := ⟨_, rfl⟩
    rw [← hX, ← hY]
    have xat : ∀ c j, X c j = if j = k ∧ c = 6 then kn else Le c j := fun c j => by rw [hX]; exact sr_k hk60 c j
    have xr : ∀ c, c ≠ 6 → X c = Le c := fun c hc => by rw [hX]; exact sr_n hc
    have yr : ∀ i, i ≠ 4 → Y i = L i := fun i hi => by rw [hY]; exact fr1_r hi
    have yE : rE X Y ne := by
      have eY : Y = seM L (nI k) (nI 10) kn := by
        rw [hY, hkn]
        unfold fr1
        rw [e10, litM_eq h10 hD]
        rfl
      intro j c hj hc
      rw [eY, col_se hk60 (by decide), hX, pcf_6 hk60 kn0]
      have b := hE j c hj hc
      by_cases q : j = k ∧ c = 6
      · rw [q.1, q.2, put_s, put_c (by decide)]
        have b6 := hE k 6 hk (by decide)
        rw [b6]
        show z2 (!(Le 6 k == 0)) = 1
        simp [z2, c0]
      · rw [show put (put (pcf Le) k 10 kn) k 6 1 j c = put (pcf Le) k 10 kn j c from if_neg q]
        exact put_cg b
    have xO : okE X ns nm ne := fun j hj => okE1_cg (fun c _ h6 => by rw [xr c h6]) (hO j hj)
    have y3 : leM Y (nI k) 3 = Le 3 k := (rE_le (c := 3) yE hn hk (by decide)).trans (by show X 3 k = _; rw [xr 3 (by decide)])
    have y7 : leM Y (nI k) 7 = Le 7 k := (rE_le (c := 7) yE hn hk (by decide)).trans (by show X 7 k = _; rw [xr 7 (by decide)])
    have y4 : leM Y (nI k) 4 = Le 4 k := (rE_le (c := 4) yE hn hk (by decide)).trans (by show X 4 k = _; rw [xr 4 (by decide)])
    have y10 : leM Y (nI k) 10 = kn := (rE_le (c := 10) yE hn hk (by decide)).trans (by show X 6 k = _; rw [xat, if_pos ⟨rfl, rfl⟩])
    have same : ∀ l, l < ne → (X 3 l = 1 ↔ Le 3 l = 1) ∧ (X 3 l = 2 ↔ Le 3 l = 2) ∧ X 5 l = Le 5 l := fun l _ => by
      rw [xr 3 (by decide), xr 5 (by decide)]
      exact ⟨Iff.rfl, Iff.rfl, rfl⟩
    rw [y3, y7, y4, y10]
    by_cases c3 : Le 3 k = 0
    · rw [if_pos c3, if_pos c3]
      obtain ⟨o0, o1, o7, oo⟩ := hO k hk
      have o7 : Le 7 k = 0 ∨ Le 7 k = 1 := o7
      have ow : Le 9 k = -1 ∧ Le 5 k = -1 ∧ ∃ p, p < ns ∧ Le 4 k = nI p := by
        rcases oo with ⟨q, -, -⟩ | ⟨q, q5, q4⟩
        · have q : Le 3 k = 1 := q
          rw [c3] at q
          exact absurd q (by decide)
        · rcases q with ⟨-, q9⟩ | ⟨q3, -⟩
          · exact ⟨q9, q5, q4⟩
          · have q3 : Le 3 k = 2 ∨ Le 3 k = 3 := q3
            rw [c3] at q3
            exact absurd q3 (by decide)
      obtain ⟨o9, o5, p, hp, ep⟩ := ow
      rcases o7 with t | t
      · rw [if_pos t, if_neg (show ¬ Le 7 k = 1 by rw [t]; decide), ep, bH_bit (by omega), bHm_bit (by omega)]
        by_cases cb : btz kn p = true
        · rw [if_pos cb, if_pos cb]
          -- it turns
          obtain ⟨X2, hX2⟩ : ∃ X2, X2 = sr X 7 (rs 60 (X 7) (nI k) 1) := ⟨_, rfl⟩
          have x2at : ∀ c j, X2 c j = if j = k ∧ c = 7 then 1 else X c j := fun c j => by rw [hX2]; exact sr_k hk60 c j
          obtain ⟨Y2, hY2⟩ : ∃ Y2, Y2 = seM Y (nI k) 7 1 := ⟨_, rfl⟩
          have y2E : rE X2 Y2 ne := by
            rw [hX2, hY2]
            exact rE_put yE (col_se (w := 7) hk60 (by decide)) (pcf_sr (w := 7) hk60 (by decide) (by decide))
          have y2r : ∀ i, i ≠ 4 → Y2 i = Y i := fun i hi => by rw [hY2]; unfold seM; exact sr_n hi
          have eT : turnC X (nI k) (nI h) = layC X2 (nI k) (nI p) (nI h) := by
            unfold turnC
            rw [← hX2, show rg 60 (X 4) (nI k) = nI p from by rw [rg_k hk60 (by decide), xr 4 (by decide)]; exact ep]
          have eg : goalC X2 (nI k) = Le 0 k := by
            have x27 : X2 7 k = 1 := by rw [x2at, if_pos ⟨rfl, rfl⟩]
            unfold goalC
            rw [rg_k hk60 (by decide), rg_k hk60 (by decide), if_pos x27, x2at, if_neg (by omega), xr 0 (by decide)]
          have z4 : leM Y2 (nI k) 4 = nI p := (rE_le (c := 4) y2E hn hk (by decide)).trans (by show X2 4 k = _; rw [x2at, if_neg (by omega), xr 4 (by decide)]; exact ep)
          have z0 : leM Y2 (nI k) 0 = Le 0 k := (rE_le (c := 0) y2E hn hk (by decide)).trans (by show X2 0 k = _; rw [x2at, if_neg (by omega), xr 0 (by decide)])
          have p4 : pcf X2 k 4 = nI p := by show X2 4 k = _; rw [x2at, if_neg (by omega), xr 4 (by decide)]; exact ep
          have p5 : pcf X2 k 5 = -1 := by show X2 5 k = _; rw [x2at, if_neg (by omega), xr 5 (by decide)]; exact o5
          have p3 : pcf X2 k 3 = 0 := by show X2 3 k = _; rw [x2at, if_neg (by omega), xr 3 (by decide)]; exact c3
          have p7 : X2 7 k = 1 := by rw [x2at, if_pos ⟨rfl, rfl⟩]
          have x2O : okE X2 ns nm ne := by
            intro j hj
            by_cases e : j = k
            · subst e
              refine ⟨?_, ?_, Or.inr p7, Or.inr ⟨Or.inl ⟨?_, ?_⟩, ?_, p, hp, ?_⟩⟩
              · show ∃ a, a < ns ∧ X2 0 j = nI a
                rw [x2at, if_neg (by omega), xr 0 (by decide)]; exact o0
              · show ∃ a, a < ns ∧ X2 1 j = nI a
                rw [x2at, if_neg (by omega), xr 1 (by decide)]; exact o1
              · exact p3
              · show X2 9 j = -1
                rw [x2at, if_neg (by omega), xr 9 (by decide)]; exact o9
              · exact p5
              · exact p4
            · refine okE1_cg (fun c _ h6 => ?_) (xO j hj)
              rw [x2at, if_neg (by omega)]
          have x29 : X2 9 k = -1 := by rw [x2at, if_neg (by omega), xr 9 (by decide)]; exact o9
          have lO : okE (layC X2 (nI k) (nI p) (nI h)) ns nm ne := okE_lay x2O hn hk x29 hp hh
          have lsame : ∀ l, l < ne → (layC X2 (nI k) (nI p) (nI h) 3 l = 1 ↔ Le 3 l = 1) ∧ (layC X2 (nI k) (nI p) (nI h) 3 l = 2 ↔ Le 3 l = 2) ∧ layC X2 (nI k) (nI p) (nI h) 5 l = Le 5 l := by
            intro l hl
            by_cases e : l = k
            · subst e
              have l5 : layC X2 (nI l) (nI p) (nI h) 5 l = Le 5 l := (lay_5 hk60).trans o5.symm
              have l3 : layC X2 (nI l) (nI p) (nI h) 3 l = 0 ∨ layC X2 (nI l) (nI p) (nI h) 3 l = 3 := by
                rw [row_pcf (L := layC X2 (nI l) (nI p) (nI h)) (c := 3) (j := l) (by decide) (by decide), lay_pcf hk60]
                split
                · rw [put_c (by decide), put_s]
                  first | exact Or.inr rfl | (rw [if_pos p7]; exact Or.inr rfl)
                · rw [put_s]; exact Or.inl rfl
              rw [c3]
              refine ⟨?_, ?_, l5⟩
              · rcases l3 with q | q <;> rw [q] <;> decide
              · rcases l3 with q | q <;> rw [q] <;> decide
            · rw [lay_at hk60 e (by decide) (by decide), lay_at hk60 e (by decide) (by decide), x2at, x2at, if_neg (by omega), if_neg (by omega), xr 3 (by decide), xr 5 (by decide)]
              exact ⟨Iff.rfl, Iff.rfl, rfl⟩
          rw [eT, ← hY2, z4, z0]
          refine ⟨?_, lO, lsame⟩
          by_cases cg : nI p = Le 0 k
          · rw [if_pos cg]
            intro j c hj hc
            have b := y2E j c hj hc
            rw [endM_col hk60, y2r 5 (by decide), yr 5 (by decide), hhr, lay_pcf hk60, eg, if_pos cg, p7, if_pos rfl]
            by_cases e : j = k
            · subst e
              by_cases h9 : c = 9
              · rw [h9, put_s, put_s]
              · rw [put_c h9, put_c h9]
                by_cases h3 : c = 3
                · rw [h3, put_s, put_s]
                · rw [put_c h3, put_c h3, b]
                  by_cases h5 : c = 5
                  · rw [h5, put_s]; exact p5
                  · rw [put_c h5]
                    by_cases h4 : c = 4
                    · rw [h4, put_s]; exact p4
                    · rw [put_c h4]
            · rw [put_j e, put_j e, put_j e, put_j e, put_j e, put_j e]; exact b
          · rw [if_neg cg]
            intro j c hj hc
            have b := y2E j c hj hc
            rw [lay_pcf hk60, eg, if_neg cg, b]
            by_cases e : j = k
            · subst e
              by_cases h3 : c = 3
              · rw [h3, put_s]; exact p3
              · rw [put_c h3]
                by_cases h5 : c = 5
                · rw [h5, put_s]; exact p5
                · rw [put_c h5]
                  by_cases h4 : c = 4
                  · rw [h4, put_s]; exact p4
                  · rw [put_c h4]
            · rw [put_j e, put_j e, put_j e]
        · rw [if_neg cb, if_neg cb]
          exact ⟨yE, xO, same⟩
      · rw [if_neg (show ¬ Le 7 k = 0 by rw [t]; decide), if_pos t]
        exact ⟨yE, xO, same⟩
    · rw [if_neg c3, if_neg c3]
      exact ⟨yE, xO, same⟩
/-- the second step, side by side -/
theorem sp_rel {Le Ld L : Fm} {ns nr nm ne h : Nat} {fog : Int32} (hn : ne ≤ 60) (h10 : ns ≤ 10) (hD : rD Ld L ns nr) (hE : rE Le L ne) (hO : okE Le ns nm ne) (hhr : rg 2 (L 5) 0 = nI h) (hh : h < 2 ^ 30) : ∀ k, k ≤ ne →
    rE (spF Le Ld ns fog (nI h) k) (frF L ns fog k) ne ∧ okE (spF Le Ld ns fog (nI h) k) ns nm ne ∧ (∀ l, l < ne → (spF Le Ld ns fog (nI h) k 3 l = 1 ↔ Le 3 l = 1) ∧ (spF Le Ld ns fog (nI h) k 3 l = 2 ↔ Le 3 l = 2) ∧ spF Le Ld ns fog (nI h) k 5 l = Le 5 l) ∧ (∀ i, i ≠ 4 → frF L ns fog k i = L i) ∧ ∀ i, i ≠ 3 → i ≠ 4 → i ≠ 5 → i ≠ 6 → i ≠ 7 → i ≠ 9 → spF Le Ld ns fog (nI h) k i = Le i
  | 0, _ => ⟨hE, hO, fun _ _ => ⟨Iff.rfl, Iff.rfl, rfl⟩, fun _ _ => rfl, fun _ _ _ _ _ _ _ => rfl⟩
  | k + 1, hk => by
    obtain ⟨i1, i2, i3, i4, i5⟩ := sp_rel (fog := fog) hn h10 hD hE hO hhr hh k (by omega)
    obtain ⟨j1, j2, j3⟩ := fr_rel (fog := fog) hn h10 (show k < ne by omega) (rD_of hD (i4 0 (by decide)) (i4 1 (by decide)) (i4 2 (by decide))) i1 i2 (by rw [i4 5 (by decide)]; exact hhr) hh
    refine ⟨j1, j2, fun l hl => ?_, fun i hi => (frS_r hi).trans (i4 i hi), fun i h3 h4 h5 h6 h7 h9 => (spS_r h3 h4 h5 h6 h7 h9).trans (i5 i h3 h4 h5 h6 h7 h9)⟩
    obtain ⟨a1, a2, a3⟩ := i3 l hl
    obtain ⟨b1, b2, b3⟩ := j3 l hl
    exact ⟨b1.trans a1, b2.trans a2, b3.trans a3⟩
