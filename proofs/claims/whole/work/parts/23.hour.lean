/-! the reference's whole hour -/
theorem rk0_r {L : Fm} {i : Nat} (h6 : i ≠ 6) (h7 : i ≠ 7) : ∀ k, rk0 L k i = L i
  | 0 => rfl
  | k + 1 => by rw [rk0, sr_n h7, sr_n h6, rk0_r h6 h7 k]
theorem rkE_r {L : Fm} {r : Int32} {i : Nat} (h6 : i ≠ 6) : ∀ k, rkE L r k i = L i
  | 0 => rfl
  | k + 1 => by rw [rkE, sr_n h6, rkE_r h6 k]
theorem rk1_r {L : Fm} {nm i : Nat} (h6 : i ≠ 6) : ∀ k, rk1 L nm k i = L i
  | 0 => rfl
  | k + 1 => by
    rw [rk1]
    split
    · exact rk1_r h6 k
    · rw [rkE_r h6, rk1_r h6 k]
theorem rj3_r {L : Fm} {v a i : Nat} (h6 : i ≠ 6) : ∀ k, rj3 L v a k i = L i
  | 0 => rfl
  | k + 1 => by rw [rj3, sr_n h6, rj3_r h6 k]
theorem rj2_r {L : Fm} {ns v i : Nat} (h6 : i ≠ 6) : ∀ k, rj2 L ns v k i = L i
  | 0 => rfl
  | k + 1 => by rw [rj2, rj3_r h6, rj2_r h6 k]
theorem rj1_r {L : Fm} {ns i : Nat} (h6 : i ≠ 6) : ∀ k, rj1 L ns k i = L i
  | 0 => rfl
  | k + 1 => by rw [rj1, rj2_r h6, rj1_r h6 k]
theorem rfT_r {L : Fm} {r f : Int32} {e i : Nat} (h7 : i ≠ 7) : ∀ k, rfT L r f e k i = L i
  | 0 => rfl
  | k + 1 => by
    have ih := rfT_r (L := L) (r := r) (f := f) (e := e) h7 k
    rw [rfT]
    (repeat' split) <;> first | exact ih | (rw [sr_n h7]; exact ih)
theorem rfE_r {L : Fm} {r : Int32} {ns i : Nat} (h7 : i ≠ 7) : ∀ k, rfE L r ns k i = L i
  | 0 => rfl
  | k + 1 => by rw [rfE, rfT_r h7, rfE_r h7 k]
theorem rfR_r {ns nm i : Nat} (h7 : i ≠ 7) : ∀ (j : Nat) (L : Fm), rfR ns nm j L i = L i
  | 0, _ => rfl
  | j + 1, L => by
    rw [rfR, rfR_r h7 j]
    split
    · rfl
    · exact rfE_r h7 2
theorem rkM_r {L : Fm} {ns nr nm i : Nat} (h6 : i ≠ 6) (h7 : i ≠ 7) : rkM L ns nr nm i = L i := by
  rw [rkM, rfR_r h7, rj1_r h6, rk1_r h6, rk0_r h6 h7]
theorem okS_rk {L : Fm} {ns nr nm nl : Nat} (h : okS L ns nr nm nl) : okS (rkM L ns nr nm) ns nr nm nl := okS_of (rkM_r (by decide) (by decide)) (rkM_r (by decide) (by decide)) (rkM_r (by decide) (by decide)) h
theorem no5 {w : Nat} {P : Prop} (h : w ≠ 5) : w = 5 → P := fun q => absurd q h
theorem okS_lay {L : Fm} {ns nr nm nl : Nat} {l s : Int32} (hl : vd nl l) (hn : nl ≤ 60) (h : okS L ns nr nm nl) : okS (layM L l s) ns nr nm nl :=
  okS_se 4 hl hn (by decide) (by decide) (by decide) (no5 (by decide)) (okS_se 5 hl hn (by decide) (by decide) (by decide) (fun _ => Or.inl rfl) (okS_se 3 hl hn (by decide) (by decide) (by decide) (no5 (by decide)) h))
theorem okS_end {L : Fm} {ns nr nm nl : Nat} {l v : Int32} (hl : vd nl l) (hn : nl ≤ 60) (h : okS L ns nr nm nl) : okS (endM L l v) ns nr nm nl :=
  okS_se 9 hl hn (by decide) (by decide) (by decide) (no5 (by decide)) (okS_se 3 hl hn (by decide) (by decide) (by decide) (no5 (by decide)) h)
theorem okS_un {L : Fm} {ns nr nm nl : Nat} {l s : Int32} (hl : vd nl l) (hn : nl ≤ 60) (h : okS L ns nr nm nl) : okS (unM L l s).1 ns nr nm nl := by
  have h1 := okS_lay (s := s) hl hn h
  unfold unM
  split
  · split
    · exact okS_end hl hn h1
    · exact okS_end hl hn h1
  · exact h1
def ulR (m : Int32) : Nat → Nat → Fm → Int32 → Fm × Int32
  | 0, _, L, c => (L, c)
  | j + 1, k, L, c => if muM L m 3 = 0 then (if leM L (nI k) 5 = m then (if (unM L (nI k) (muM L m 2)).2 = true then ulR m j (k + 1) (unM L (nI k) (muM L m 2)).1 (c + 1) else ulR m j (k + 1) (unM L (nI k) (muM L m 2)).1 (c + 0)) else ulR m j (k + 1) L c) else (L, c)
def bm1 (L : Fm) (m : Int32) : Fm := smM (smM L m 3 (muM L m 3 - 1)) m 4 (muM (smM L m 3 (muM L m 3 - 1)) m 4 + 1)
def bmF (nl : Nat) (L : Fm) : Nat → Fm × Int32
  | 0 => (L, 0)
  | k + 1 => if muM (bmF nl L k).1 (nI k) 3 = 0 then bmF nl L k else ulR (nI k) nl 0 (bm1 (bmF nl L k).1 (nI k)) (bmF nl L k).2
theorem okS_ul {ns nr nm nl : Nat} {m : Int32} (hn : nl ≤ 60) : ∀ (j k : Nat) (L : Fm) (c : Int32), k + j ≤ nl → okS L ns nr nm nl → okS (ulR m j k L c).1 ns nr nm nl
  | 0, _, _, _, _, h => h
  | j + 1, k, L, c, hk, h => by
    have hu := okS_un (l := nI k) (s := muM L m 2) (vd_k (n := nl) (by omega)) hn h
    rw [ulR]
    split
    · split
      · split
        · exact okS_ul hn j (k + 1) _ _ (by omega) hu
        · exact okS_ul hn j (k + 1) _ _ (by omega) hu
      · exact okS_ul hn j (k + 1) _ _ (by omega) h
    · exact h
theorem okS_bm1 {L : Fm} {ns nr nm nl : Nat} {m : Int32} (hm : vd nm m) (hn : nm ≤ 12) (h : okS L ns nr nm nl) : okS (bm1 L m) ns nr nm nl :=
  okS_sm 4 hm hn (by decide) (by decide) (by decide) (fun q => absurd q (by decide)) (okS_sm 3 hm hn (by decide) (by decide) (by decide) (fun q => absurd q (by decide)) h)
theorem okS_bm {L : Fm} {ns nr nm nl : Nat} (hn : nm ≤ 12) (h60 : nl ≤ 60) (h : okS L ns nr nm nl) : ∀ k, k ≤ nm → okS (bmF nl L k).1 ns nr nm nl
  | 0, _ => h
  | k + 1, hk => by
    have ih := okS_bm hn h60 h k (by omega)
    rw [bmF]
    split
    · exact ih
    · exact okS_ul h60 nl 0 _ _ (by omega) (okS_bm1 (vd_k (by omega)) hn ih)
def fr1 (L : Fm) (ns : Nat) (fog l : Int32) : Fm := seM L l 10 (litM L ns fog (leM L l 10))
def frS (L : Fm) (ns : Nat) (fog l : Int32) : Fm := if leM L l 6 = 0 then L else if leM (fr1 L ns fog l) l 3 = 0 then (if leM (fr1 L ns fog l) l 7 = 1 then fr1 L ns fog l else if bHm (leM (fr1 L ns fog l) l 10) (leM (fr1 L ns fog l) l 4) = true then (if leM (seM (fr1 L ns fog l) l 7 1) l 4 = leM (seM (fr1 L ns fog l) l 7 1) l 0 then endM (seM (fr1 L ns fog l) l 7 1) l 3 else seM (fr1 L ns fog l) l 7 1) else fr1 L ns fog l) else fr1 L ns fog l
def frF (L : Fm) (ns : Nat) (fog : Int32) : Nat → Fm
  | 0 => L
  | k + 1 => frS (frF L ns fog k) ns fog (nI k)
theorem okS_frS {L : Fm} {ns nr nm nl : Nat} {fog l : Int32} (hl : vd nl l) (hn : nl ≤ 60) (h : okS L ns nr nm nl) : okS (frS L ns fog l) ns nr nm nl := by
  have h1 : okS (fr1 L ns fog l) ns nr nm nl := okS_se 10 hl hn (by decide) (by decide) (by decide) (no5 (by decide)) h
  have h2 : okS (seM (fr1 L ns fog l) l 7 1) ns nr nm nl := okS_se 7 hl hn (by decide) (by decide) (by decide) (no5 (by decide)) h1
  unfold frS
  split
  · exact h
  · split
    · split
      · exact h1
      · split
        · split
          · exact okS_end hl hn h2
          · exact h2
        · exact h1
    · exact h1
theorem okS_frF {L : Fm} {ns nr nm nl : Nat} {fog : Int32} (hn : nl ≤ 60) (h : okS L ns nr nm nl) : ∀ k, k ≤ nl → okS (frF L ns fog k) ns nr nm nl
  | 0, _ => h
  | k + 1, hk => okS_frS (vd_k (by omega)) hn (okS_frF hn h k (by omega))
def sgF (L : Fm) (nl : Nat) : Nat → Fm
  | 0 => L
  | k + 1 => if muM (sgF L nl k) (nI k) 3 = 0 then soM (sgF L nl k) (nI k) nl else sgF L nl k
theorem okS_sg {L : Fm} {ns nr nm nl : Nat} (hn : nm ≤ 12) (h60 : nl ≤ 60) (h : okS L ns nr nm nl) : ∀ k, k ≤ nm → okS (sgF L nl k) ns nr nm nl
  | 0, _ => h
  | k + 1, hk => by
    have ih := okS_sg hn h60 h k (by omega)
    rw [sgF]
    split
    · exact okS_so (vd_k (by omega)) hn h60 ih
    · exact ih
def hr1 (L : Fm) (ns nr nm nl : Nat) : Fm × Int32 := bmF nl (rkM L ns nr nm) nm
def hr3 (L : Fm) (ns : Nat) (fog : Int32) (nr nm nl : Nat) : Fm := sgF (frF (hr1 L ns nr nm nl).1 ns fog nl) nl nm
def hoM (L : Fm) (ns : Nat) (fog : Int32) (nr nm nl : Nat) : Fm := sr (hr3 L ns fog nr nm nl) 5 (rs 2 (hr3 L ns fog nr nm nl 5) 0 (rg 2 (hr3 L ns fog nr nm nl 5) 0 + 1))
theorem okS_ho {L : Fm} {ns nr nm nl : Nat} {fog : Int32} (hn : nm ≤ 12) (h60 : nl ≤ 60) (h : okS L ns nr nm nl) : okS (hoM L ns fog nr nm nl) ns nr nm nl :=
  okS_of rfl rfl rfl (okS_sg hn h60 (okS_frF h60 (okS_bm hn h60 (okS_rk h) nm (Nat.le_refl _)) nl (Nat.le_refl _)) nm (Nat.le_refl _))
