
/-! the law's loop -/
theorem gt_iff {L i : Nat} (hL : L ≤ 2048) (hi : i ≤ 512) : nI L - 4 < nI (4 * i) ↔ L < 4 * i + 4 := by
  rcases Nat.lt_or_ge L 4 with h | h
  · refine ⟨fun _ => by omega, fun _ => ?_⟩
    have e : nI L - 4 < 0 := by
      rcases (show L = 0 ∨ L = 1 ∨ L = 2 ∨ L = 3 by omega) with e | e | e | e <;> subst e <;> decide
    exact Int32.lt_of_lt_of_le e (nI_pos' (by omega))
  · rw [show nI L - 4 = nI (L - 4) from pk_sub (a := L) (b := 4) (by omega), nI_ltI (by omega) (by omega)]
    omega
set_option maxHeartbeats 4000000 in
set_option maxRecDepth 100000 in
theorem law_end {p : Program} {l : Launch} {e : Env} {s : State} {m : MethodId} {below : List Frame} {meth : Method} {c : Code} {D : GG} {b L : Nat} {xs : Nat → Int32} {A0 : Nat → Prop} {om ot ou oq xt yt xu yu : Nat} {Ad Aw Am Ae Bw Bm Be : Nat → Nat} (X : LX p l s m meth c D b L xs A0) {i : Nat} (h5 : i ≤ 512) (hi : L < 4 * i + 4) : LG p l e s m below meth c D b L xs A0 om ot ou oq xt yt xu yu Ad Aw Am Ae Bw Bm Be i := by
  intro Ax hou cro Lw nm Lm ne Le Nt hou2 cro2 Kw nm2 Km ne2 Ke Nu nsd fogd nrd Ld fq th Lx h hSY hh H locs hP hD hS ls hl
  obtain ⟨hx, hb, hr, hml, hown, hts, hX, hbl, hbA, hlocks, hl9, hCX, hSX, hTX, hZX, hNX, hK, hN, hA, hA0, hL⟩ := id X
  refine lv_iload hx hb dL_law_23 (lv_at hl 0 rfl) ?_
  refine lv_aload_n hx hb dL_law_25 rfl (lv_at hl 1 rfl) ?_
  refine va_slen hx hb hX hbl hbA hS dL_law_26 ?_
  refine lv_iconst (v := 4) hx hb dL_law_27 (by decide) ?_
  refine lv_isub hx hb dL_law_28 ?_
  refine lv_icmp_gt (tgt := 1453) hx hb dL_law_29 (by decide) (fun c1 => ?_) (fun c1 => ?_)
  · refine lv_iconst (v := 1) hx hb dL_law_1453 (by decide) ?_
    refine va_forget (fun q hq => hA0 _ (hS.2.2 q hq)) ?_
    refine W.widen (k := 601024) (n := 7293034) (by omega) (by omega) ?_
    exact lw_ret (d0 := s.drawn) (Drawn.sameBut.refl s.drawn lw_cs) hx hb hr hlocks dL_law_1454
  · exact absurd ((gt_iff hL h5).mpr hi) c1
set_option maxHeartbeats 4000000 in
set_option maxRecDepth 100000 in
theorem law_step {p : Program} {l : Launch} {e : Env} {s : State} {m : MethodId} {below : List Frame} {meth : Method} {c : Code} {D : GG} {b L : Nat} {xs : Nat → Int32} {A0 : Nat → Prop} {om ot ou oq xt yt xu yu : Nat} {Ad Aw Am Ae Bw Bm Be : Nat → Nat} (X : LX p l s m meth c D b L xs A0) {i : Nat} (hi : 4 * i + 4 ≤ L) (ih : LG p l e s m below meth c D b L xs A0 om ot ou oq xt yt xu yu Ad Aw Am Ae Bw Bm Be (i + 1)) : LG p l e s m below meth c D b L xs A0 om ot ou oq xt yt xu yu Ad Aw Am Ae Bw Bm Be i := by
  intro Ax hou cro Lw nm Lm ne Le Nt hou2 cro2 Kw nm2 Km ne2 Ke Nu nsd fogd nrd Ld fq th Lx h hSY hh H locs hP hD hS ls hl
  obtain ⟨hx, hb, hr, hml, hown, hts, hX, hbl, hbA, hlocks, hl9, hCX, hSX, hTX, hZX, hNX, hK, hN, hA, hA0, hL⟩ := id X
  obtain ⟨a0, ea0⟩ : ∃ a : Int32, xs (nI (4 * i)).toNatClampNeg = a := ⟨_, rfl⟩
  refine lv_iload hx hb dL_law_23 (lv_at hl 0 rfl) ?_
  refine lv_aload_n hx hb dL_law_25 rfl (lv_at hl 1 rfl) ?_
  refine va_slen hx hb hX hbl hbA hS dL_law_26 ?_
  refine lv_iconst (v := 4) hx hb dL_law_27 (by decide) ?_
  refine lv_isub hx hb dL_law_28 ?_
  refine lv_icmp_gt (tgt := 1453) hx hb dL_law_29 (by decide) (fun c1 => ?_) (fun c1 => ?_)
  · exact absurd ((gt_iff hL (by omega)).mp c1) (by omega)
  · refine lv_aload_n hx hb dL_law_32 rfl (lv_at hl 1 rfl) ?_
    refine lv_iload hx hb dL_law_33 (lv_at hl 0 rfl) ?_
    refine va_sld hx hb hX hbl hbA hS (i := nI (4 * i)) (inS0 hi hL) dL_law_35 ?_
    refine W.eq (g2 := F0 m 36 ls [.int a0]) (congrArg (fun zz : Int32 => F0 m 36 ls [.int zz]) ea0) ?_
    refine lv_bipush (v := 31) hx hb dL_law_36 (by decide) ?_
    refine lv_iand hx hb dL_law_38 ?_
    by_cases h2_0 : (a0 &&& 31) = 0
    · refine lv_tableIn (tgt := 132) (off := 93) hx hb dL_law_39 (by rw [h2_0]; decide) (by rw [h2_0]; decide) (by rw [h2_0]; decide) (by decide) ?_
      exact law_c0 X hi ih rfl rfl rfl Ax hou cro Lw nm Lm ne Le Nt hou2 cro2 Kw nm2 Km ne2 Ke Nu nsd fogd nrd Ld fq th Lx h hSY hh H locs hP hD hS ls hl
    by_cases h2_1 : (a0 &&& 31) = 1
    · refine lv_tableIn (tgt := 188) (off := 149) hx hb dL_law_39 (by rw [h2_1]; decide) (by rw [h2_1]; decide) (by rw [h2_1]; decide) (by decide) ?_
      exact law_c1 X hi ih rfl rfl rfl Ax hou cro Lw nm Lm ne Le Nt hou2 cro2 Kw nm2 Km ne2 Ke Nu nsd fogd nrd Ld fq th Lx h hSY hh H locs hP hD hS ls hl
    by_cases h2_2 : (a0 &&& 31) = 2
    · refine lv_tableIn (tgt := 284) (off := 245) hx hb dL_law_39 (by rw [h2_2]; decide) (by rw [h2_2]; decide) (by rw [h2_2]; decide) (by decide) ?_
      exact law_c2 X hi ih rfl rfl rfl Ax hou cro Lw nm Lm ne Le Nt hou2 cro2 Kw nm2 Km ne2 Ke Nu nsd fogd nrd Ld fq th Lx h hSY hh H locs hP hD hS ls hl
    by_cases h2_3 : (a0 &&& 31) = 3
    · refine lv_tableIn (tgt := 368) (off := 329) hx hb dL_law_39 (by rw [h2_3]; decide) (by rw [h2_3]; decide) (by rw [h2_3]; decide) (by decide) ?_
      exact law_c3 X hi ih rfl rfl rfl Ax hou cro Lw nm Lm ne Le Nt hou2 cro2 Kw nm2 Km ne2 Ke Nu nsd fogd nrd Ld fq th Lx h hSY hh H locs hP hD hS ls hl
    by_cases h2_4 : (a0 &&& 31) = 4
    · refine lv_tableIn (tgt := 448) (off := 409) hx hb dL_law_39 (by rw [h2_4]; decide) (by rw [h2_4]; decide) (by rw [h2_4]; decide) (by decide) ?_
      exact law_c4 X hi ih rfl rfl rfl Ax hou cro Lw nm Lm ne Le Nt hou2 cro2 Kw nm2 Km ne2 Ke Nu nsd fogd nrd Ld fq th Lx h hSY hh H locs hP hD hS ls hl
    by_cases h2_5 : (a0 &&& 31) = 5
    · refine lv_tableIn (tgt := 544) (off := 505) hx hb dL_law_39 (by rw [h2_5]; decide) (by rw [h2_5]; decide) (by rw [h2_5]; decide) (by decide) ?_
      exact law_c5 X hi ih rfl rfl rfl Ax hou cro Lw nm Lm ne Le Nt hou2 cro2 Kw nm2 Km ne2 Ke Nu nsd fogd nrd Ld fq th Lx h hSY hh H locs hP hD hS ls hl
    by_cases h2_6 : (a0 &&& 31) = 6
    · refine lv_tableIn (tgt := 612) (off := 573) hx hb dL_law_39 (by rw [h2_6]; decide) (by rw [h2_6]; decide) (by rw [h2_6]; decide) (by decide) ?_
      exact law_c6 X hi ih rfl rfl rfl Ax hou cro Lw nm Lm ne Le Nt hou2 cro2 Kw nm2 Km ne2 Ke Nu nsd fogd nrd Ld fq th Lx h hSY hh H locs hP hD hS ls hl
    by_cases h2_7 : (a0 &&& 31) = 7
    · refine lv_tableIn (tgt := 680) (off := 641) hx hb dL_law_39 (by rw [h2_7]; decide) (by rw [h2_7]; decide) (by rw [h2_7]; decide) (by decide) ?_
      exact law_c7 X hi ih rfl rfl rfl Ax hou cro Lw nm Lm ne Le Nt hou2 cro2 Kw nm2 Km ne2 Ke Nu nsd fogd nrd Ld fq th Lx h hSY hh H locs hP hD hS ls hl
    by_cases h2_8 : (a0 &&& 31) = 8
    · refine lv_tableIn (tgt := 748) (off := 709) hx hb dL_law_39 (by rw [h2_8]; decide) (by rw [h2_8]; decide) (by rw [h2_8]; decide) (by decide) ?_
      exact law_c8 X hi ih rfl rfl rfl Ax hou cro Lw nm Lm ne Le Nt hou2 cro2 Kw nm2 Km ne2 Ke Nu nsd fogd nrd Ld fq th Lx h hSY hh H locs hP hD hS ls hl
    by_cases h2_9 : (a0 &&& 31) = 9
    · refine lv_tableIn (tgt := 828) (off := 789) hx hb dL_law_39 (by rw [h2_9]; decide) (by rw [h2_9]; decide) (by rw [h2_9]; decide) (by decide) ?_
      exact law_c9 X hi ih rfl rfl rfl Ax hou cro Lw nm Lm ne Le Nt hou2 cro2 Kw nm2 Km ne2 Ke Nu nsd fogd nrd Ld fq th Lx h hSY hh H locs hP hD hS ls hl
    by_cases h2_10 : (a0 &&& 31) = 10
    · refine lv_tableIn (tgt := 884) (off := 845) hx hb dL_law_39 (by rw [h2_10]; decide) (by rw [h2_10]; decide) (by rw [h2_10]; decide) (by decide) ?_
      exact law_c10 X hi ih rfl rfl rfl Ax hou cro Lw nm Lm ne Le Nt hou2 cro2 Kw nm2 Km ne2 Ke Nu nsd fogd nrd Ld fq th Lx h hSY hh H locs hP hD hS ls hl
    by_cases h2_11 : (a0 &&& 31) = 11
    · refine lv_tableIn (tgt := 952) (off := 913) hx hb dL_law_39 (by rw [h2_11]; decide) (by rw [h2_11]; decide) (by rw [h2_11]; decide) (by decide) ?_
      exact law_c11 X hi ih rfl rfl rfl Ax hou cro Lw nm Lm ne Le Nt hou2 cro2 Kw nm2 Km ne2 Ke Nu nsd fogd nrd Ld fq th Lx h hSY hh H locs hP hD hS ls hl
    by_cases h2_12 : (a0 &&& 31) = 12
    · refine lv_tableIn (tgt := 1008) (off := 969) hx hb dL_law_39 (by rw [h2_12]; decide) (by rw [h2_12]; decide) (by rw [h2_12]; decide) (by decide) ?_
      exact law_c12 X hi ih rfl rfl rfl Ax hou cro Lw nm Lm ne Le Nt hou2 cro2 Kw nm2 Km ne2 Ke Nu nsd fogd nrd Ld fq th Lx h hSY hh H locs hP hD hS ls hl
    by_cases h2_13 : (a0 &&& 31) = 13
    · refine lv_tableIn (tgt := 1064) (off := 1025) hx hb dL_law_39 (by rw [h2_13]; decide) (by rw [h2_13]; decide) (by rw [h2_13]; decide) (by decide) ?_
      exact law_c13 X hi ih rfl rfl rfl Ax hou cro Lw nm Lm ne Le Nt hou2 cro2 Kw nm2 Km ne2 Ke Nu nsd fogd nrd Ld fq th Lx h hSY hh H locs hP hD hS ls hl
    by_cases h2_14 : (a0 &&& 31) = 14
    · refine lv_tableIn (tgt := 1144) (off := 1105) hx hb dL_law_39 (by rw [h2_14]; decide) (by rw [h2_14]; decide) (by rw [h2_14]; decide) (by decide) ?_
      exact law_c14 X hi ih rfl rfl rfl Ax hou cro Lw nm Lm ne Le Nt hou2 cro2 Kw nm2 Km ne2 Ke Nu nsd fogd nrd Ld fq th Lx h hSY hh H locs hP hD hS ls hl
    by_cases h2_15 : (a0 &&& 31) = 15
    · refine lv_tableIn (tgt := 1212) (off := 1173) hx hb dL_law_39 (by rw [h2_15]; decide) (by rw [h2_15]; decide) (by rw [h2_15]; decide) (by decide) ?_
      exact law_c15 X hi ih rfl rfl rfl Ax hou cro Lw nm Lm ne Le Nt hou2 cro2 Kw nm2 Km ne2 Ke Nu nsd fogd nrd Ld fq th Lx h hSY hh H locs hP hD hS ls hl
    by_cases h2_16 : (a0 &&& 31) = 16
    · refine lv_tableIn (tgt := 1280) (off := 1241) hx hb dL_law_39 (by rw [h2_16]; decide) (by rw [h2_16]; decide) (by rw [h2_16]; decide) (by decide) ?_
      exact law_c16 X hi ih rfl rfl rfl Ax hou cro Lw nm Lm ne Le Nt hou2 cro2 Kw nm2 Km ne2 Ke Nu nsd fogd nrd Ld fq th Lx h hSY hh H locs hP hD hS ls hl
    by_cases h2_17 : (a0 &&& 31) = 17
    · refine lv_tableIn (tgt := 1336) (off := 1297) hx hb dL_law_39 (by rw [h2_17]; decide) (by rw [h2_17]; decide) (by rw [h2_17]; decide) (by decide) ?_
      exact law_c17 X hi ih rfl rfl rfl Ax hou cro Lw nm Lm ne Le Nt hou2 cro2 Kw nm2 Km ne2 Ke Nu nsd fogd nrd Ld fq th Lx h hSY hh H locs hP hD hS ls hl
    by_cases h2_18 : (a0 &&& 31) = 18
    · refine lv_tableIn (tgt := 1392) (off := 1353) hx hb dL_law_39 (by rw [h2_18]; decide) (by rw [h2_18]; decide) (by rw [h2_18]; decide) (by decide) ?_
      exact law_c18 X hi ih rfl rfl rfl Ax hou cro Lw nm Lm ne Le Nt hou2 cro2 Kw nm2 Km ne2 Ke Nu nsd fogd nrd Ld fq th Lx h hSY hh H locs hP hD hS ls hl
    by_cases h2_19 : (a0 &&& 31) = 19
    · refine lv_tableIn (tgt := 1433) (off := 1394) hx hb dL_law_39 (by rw [h2_19]; decide) (by rw [h2_19]; decide) (by rw [h2_19]; decide) (by decide) ?_
      exact law_c19 X hi ih rfl rfl rfl Ax hou cro Lw nm Lm ne Le Nt hou2 cro2 Kw nm2 Km ne2 Ke Nu nsd fogd nrd Ld fq th Lx h hSY hh H locs hP hD hS ls hl
    refine lv_tableOut (tgt := 1447) hx hb dL_law_39 (sw_out 19 (by decide) (fun i hi => by rcases (show i = 0 ∨ i = 1 ∨ i = 2 ∨ i = 3 ∨ i = 4 ∨ i = 5 ∨ i = 6 ∨ i = 7 ∨ i = 8 ∨ i = 9 ∨ i = 10 ∨ i = 11 ∨ i = 12 ∨ i = 13 ∨ i = 14 ∨ i = 15 ∨ i = 16 ∨ i = 17 ∨ i = 18 ∨ i = 19 by omega) with rfl | rfl | rfl | rfl | rfl | rfl | rfl | rfl | rfl | rfl | rfl | rfl | rfl | rfl | rfl | rfl | rfl | rfl | rfl | rfl <;> assumption)) (by decide) ?_
    refine lv_iinc (v := ((nI (4 * i)) + 4)) (lv' := [(4, .int ((nI (4 * i)) + 4)), (0, .ref b), (1, .ref om), (2, .ref (Ax 0)), (3, .ref oq)]) hx hb dL_law_1447 hl (k := 0) rfl rfl (by decide) rfl (fun ls hl => ?_)
    rw [show nI (4 * i) + 4 = nI (4 * (i + 1)) from nI_add (4 * i) 4] at hl
    refine lv_goto (tgt := 23) hx hb dL_law_1450 (by decide) ?_
    refine W.widen (k := 200 + 81 * (i + 1)) (n := 9000 + 11700 * (i + 1)) (by omega) (by omega) ?_
    exact ih Ax hou cro Lw nm Lm ne Le Nt hou2 cro2 Kw nm2 Km ne2 Ke Nu nsd fogd nrd Ld fq th Lx h hSY (by omega) H locs hP hD hS ls (lv_sub hl [0, 1, 2, 3, 4] rfl)
theorem law_loop {p : Program} {l : Launch} {e : Env} {s : State} {m : MethodId} {below : List Frame} {meth : Method} {c : Code} {D : GG} {b L : Nat} {xs : Nat → Int32} {A0 : Nat → Prop} {om ot ou oq xt yt xu yu : Nat} {Ad Aw Am Ae Bw Bm Be : Nat → Nat} (X : LX p l s m meth c D b L xs A0) : ∀ n i : Nat, i ≤ 512 → L < 4 * i + 4 + 4 * n → LG p l e s m below meth c D b L xs A0 om ot ou oq xt yt xu yu Ad Aw Am Ae Bw Bm Be i := by
  intro n
  induction n with
  | zero => exact fun i h5 hn => law_end X h5 (by omega)
  | succ n ih =>
    intro i h5 hn
    rcases Nat.lt_or_ge L (4 * i + 4) with h | h
    · exact law_end X h5 h
    · refine law_step X h (ih (i + 1) ?_ (by omega))
      obtain ⟨hx, hb, hr, hml, hown, hts, hX, hbl, hbA, hlocks, hl9, hCX, hSX, hTX, hZX, hNX, hK, hN, hA, hA0, hL⟩ := id X
      omega
