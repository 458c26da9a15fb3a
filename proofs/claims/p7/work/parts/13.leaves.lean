set_option maxHeartbeats 4000000 in
set_option maxRecDepth 100000 in
theorem mX3_mix (l : Launch) (z0 : Int64) : nkSL l yX3_mix wsX3_mix ({ frames := 0, cells := 0, slots := 0, locals := 0 }) [.long z0] (fun r => r = fMix z0) := by
  refine nk_ofS (cc := cX3_mix) (maxL := 4) (ret := (some .long)) (by decide) rfl (Nat.le_of_ble_eq_true rfl) ?_
  intro p e s m below meth c hx hb hr hml hts hown hlocks ls hl
  replace hown : s.vm.findClass RX3 = some m.cls := hown
  replace hl : lv_has ls 4 [(0, .long z0)] := hl
  refine lv_lload_n hx hb dX3_mix_0 rfl (lv_at hl 0 rfl) ?_
  refine lv_lstore_n (lv' := [(2, .long z0), (0, .long z0)]) hx hb dX3_mix_1 rfl hl (by decide) rfl (fun ls hl => ?_)
  refine lv_lload_n hx hb dX3_mix_2 rfl (lv_at hl 0 rfl) ?_
  refine lv_lload_n hx hb dX3_mix_3 rfl (lv_at hl 0 rfl) ?_
  refine lv_bipush (v := 30) hx hb dX3_mix_4 (by decide) ?_
  refine lv_lushr (v := (nsU z0 (30 : Int32))) hx hb dX3_mix_6 rfl ?_
  refine lv_lxor hx hb dX3_mix_7 ?_
  refine lv_ldc2 (v := -4658895280553007687) hx hb hown (hts (.constantLong RX3 131 (-4658895280553007687)) (by decide +kernel)) dX3_mix_8 ?_
  refine lv_lmul hx hb dX3_mix_11 ?_
  refine lv_topl (fun z1 ez1 => ?_)
  refine lv_lstore_n (lv' := [(2, .long z1), (0, .long z0)]) hx hb dX3_mix_12 rfl hl (by decide) rfl (fun ls hl => ?_)
  refine lv_lload_n hx hb dX3_mix_13 rfl (lv_at hl 0 rfl) ?_
  refine lv_lload_n hx hb dX3_mix_14 rfl (lv_at hl 0 rfl) ?_
  refine lv_bipush (v := 27) hx hb dX3_mix_15 (by decide) ?_
  refine lv_lushr (v := (nsU z1 (27 : Int32))) hx hb dX3_mix_17 rfl ?_
  refine lv_lxor hx hb dX3_mix_18 ?_
  refine lv_ldc2 (v := -7723592293110705685) hx hb hown (hts (.constantLong RX3 133 (-7723592293110705685)) (by decide +kernel)) dX3_mix_19 ?_
  refine lv_lmul hx hb dX3_mix_22 ?_
  refine lv_topl (fun z2 ez2 => ?_)
  refine lv_lstore_n (lv' := [(2, .long z2), (0, .long z0)]) hx hb dX3_mix_23 rfl hl (by decide) rfl (fun ls hl => ?_)
  refine lv_lload_n hx hb dX3_mix_24 rfl (lv_at hl 0 rfl) ?_
  refine lv_lload_n hx hb dX3_mix_25 rfl (lv_at hl 0 rfl) ?_
  refine lv_bipush (v := 31) hx hb dX3_mix_26 (by decide) ?_
  refine lv_lushr (v := (nsU z2 (31 : Int32))) hx hb dX3_mix_28 rfl ?_
  refine lv_lxor hx hb dX3_mix_29 ?_
  exact nk_endL hx hb hr hlocks dX3_mix_30 (by subst ez1; subst ez2; rfl)

set_option maxHeartbeats 4000000 in
set_option maxRecDepth 100000 in
theorem mX4_mix (l : Launch) (z0 : Int64) : nkSL l yX4_mix wsX4_mix ({ frames := 0, cells := 0, slots := 0, locals := 0 }) [.long z0] (fun r => r = fMix z0) := by
  refine nk_ofS (cc := cX4_mix) (maxL := 4) (ret := (some .long)) (by decide) rfl (Nat.le_of_ble_eq_true rfl) ?_
  intro p e s m below meth c hx hb hr hml hts hown hlocks ls hl
  replace hown : s.vm.findClass RX4 = some m.cls := hown
  replace hl : lv_has ls 4 [(0, .long z0)] := hl
  refine lv_lload_n hx hb dX4_mix_0 rfl (lv_at hl 0 rfl) ?_
  refine lv_lstore_n (lv' := [(2, .long z0), (0, .long z0)]) hx hb dX4_mix_1 rfl hl (by decide) rfl (fun ls hl => ?_)
  refine lv_lload_n hx hb dX4_mix_2 rfl (lv_at hl 0 rfl) ?_
  refine lv_lload_n hx hb dX4_mix_3 rfl (lv_at hl 0 rfl) ?_
  refine lv_bipush (v := 30) hx hb dX4_mix_4 (by decide) ?_
  refine lv_lushr (v := (nsU z0 (30 : Int32))) hx hb dX4_mix_6 rfl ?_
  refine lv_lxor hx hb dX4_mix_7 ?_
  refine lv_ldc2 (v := -4658895280553007687) hx hb hown (hts (.constantLong RX4 58 (-4658895280553007687)) (by decide +kernel)) dX4_mix_8 ?_
  refine lv_lmul hx hb dX4_mix_11 ?_
  refine lv_topl (fun z1 ez1 => ?_)
  refine lv_lstore_n (lv' := [(2, .long z1), (0, .long z0)]) hx hb dX4_mix_12 rfl hl (by decide) rfl (fun ls hl => ?_)
  refine lv_lload_n hx hb dX4_mix_13 rfl (lv_at hl 0 rfl) ?_
  refine lv_lload_n hx hb dX4_mix_14 rfl (lv_at hl 0 rfl) ?_
  refine lv_bipush (v := 27) hx hb dX4_mix_15 (by decide) ?_
  refine lv_lushr (v := (nsU z1 (27 : Int32))) hx hb dX4_mix_17 rfl ?_
  refine lv_lxor hx hb dX4_mix_18 ?_
  refine lv_ldc2 (v := -7723592293110705685) hx hb hown (hts (.constantLong RX4 60 (-7723592293110705685)) (by decide +kernel)) dX4_mix_19 ?_
  refine lv_lmul hx hb dX4_mix_22 ?_
  refine lv_topl (fun z2 ez2 => ?_)
  refine lv_lstore_n (lv' := [(2, .long z2), (0, .long z0)]) hx hb dX4_mix_23 rfl hl (by decide) rfl (fun ls hl => ?_)
  refine lv_lload_n hx hb dX4_mix_24 rfl (lv_at hl 0 rfl) ?_
  refine lv_lload_n hx hb dX4_mix_25 rfl (lv_at hl 0 rfl) ?_
  refine lv_bipush (v := 31) hx hb dX4_mix_26 (by decide) ?_
  refine lv_lushr (v := (nsU z2 (31 : Int32))) hx hb dX4_mix_28 rfl ?_
  refine lv_lxor hx hb dX4_mix_29 ?_
  exact nk_endL hx hb hr hlocks dX4_mix_30 (by subst ez1; subst ez2; rfl)

set_option maxHeartbeats 4000000 in
set_option maxRecDepth 100000 in
theorem mX3_firstCounter (l : Launch) (c0 : Int32) : nkSL l yX3_firstCounter wsX3_firstCounter ({ frames := 0, cells := 0, slots := 0, locals := 0 }) [.int c0] (fun r => r = fFirst c0) := by
  refine nk_ofS (cc := cX3_firstCounter) (maxL := 1) (ret := (some .long)) (by decide) rfl (Nat.le_of_ble_eq_true rfl) ?_
  intro p e s m below meth c hx hb hr hml hts hown hlocks ls hl
  replace hown : s.vm.findClass RX3 = some m.cls := hown
  replace hl : lv_has ls 1 [(0, .int c0)] := hl
  refine lv_ldc2 (v := 32) hx hb hown (hts (.constantLong RX3 141 (32)) (by decide +kernel)) dX3_firstCounter_0 ?_
  refine lv_iload_n hx hb dX3_firstCounter_3 rfl (lv_at hl 0 rfl) ?_
  refine lv_i2l hx hb dX3_firstCounter_4 rfl ?_
  refine lv_lmul hx hb dX3_firstCounter_5 ?_
  exact nk_endL hx hb hr hlocks dX3_firstCounter_6 (by rfl)

set_option maxHeartbeats 4000000 in
set_option maxRecDepth 100000 in
theorem mX3_belowUnsigned (l : Launch) (x0 y0 : Int64) : nkSI l yX3_belowUnsigned wsX3_belowUnsigned ({ frames := 0, cells := 0, slots := 0, locals := 0 }) [.long x0, .long y0] (fun r => r = fBelow x0 y0) := by
  refine nk_ofS (cc := cX3_belowUnsigned) (maxL := 4) (ret := (some .boolean)) (by decide) rfl (Nat.le_of_ble_eq_true rfl) ?_
  intro p e s m below meth c hx hb hr hml hts hown hlocks ls hl
  replace hown : s.vm.findClass RX3 = some m.cls := hown
  replace hl : lv_has ls 4 [(0, .long x0), (2, .long y0)] := hl
  refine lv_lload_n hx hb dX3_belowUnsigned_0 rfl (lv_at hl 0 rfl) ?_
  refine lv_ldc2 (v := -9223372036854775808) hx hb hown (hts (.constantLong RX3 143 (-9223372036854775808)) (by decide +kernel)) dX3_belowUnsigned_1 ?_
  refine lv_lxor hx hb dX3_belowUnsigned_4 ?_
  refine lv_lload_n hx hb dX3_belowUnsigned_5 rfl (lv_at hl 1 rfl) ?_
  refine lv_ldc2 (v := -9223372036854775808) hx hb hown (hts (.constantLong RX3 143 (-9223372036854775808)) (by decide +kernel)) dX3_belowUnsigned_6 ?_
  refine lv_lxor hx hb dX3_belowUnsigned_9 ?_
  refine W.lcmp hx hb dX3_belowUnsigned_10 ?_
  refine lv_if_ge (tgt := 18) hx hb dX3_belowUnsigned_11 (by decide) (fun c11 => ?_) (fun c11 => ?_)
  · skip
    have c11 : (y0 ^^^ (-9223372036854775808 : Int64)) ≤ (x0 ^^^ (-9223372036854775808 : Int64)) := (lg_cmp_ge _ _).mp c11
    refine lv_iconst (v := 0) hx hb dX3_belowUnsigned_18 (by decide) ?_
    exact nk_endZ hx hb hr hlocks (by first | rfl | decide) dX3_belowUnsigned_19 (by simp only [fBelow]; first | rw [if_pos c11] | rw [if_neg c11])
  · skip
    have c11 : ¬ ((y0 ^^^ (-9223372036854775808 : Int64)) ≤ (x0 ^^^ (-9223372036854775808 : Int64))) := fun h => c11 ((lg_cmp_ge _ _).mpr h)
    refine lv_iconst (v := 1) hx hb dX3_belowUnsigned_14 (by decide) ?_
    refine lv_goto (tgt := 19) hx hb dX3_belowUnsigned_15 (by decide) ?_
    exact nk_endZ hx hb hr hlocks (by first | rfl | decide) dX3_belowUnsigned_19 (by simp only [fBelow]; first | rw [if_pos c11] | rw [if_neg c11])

set_option maxHeartbeats 4000000 in
set_option maxRecDepth 100000 in
theorem mX4_isBelow (l : Launch) (x0 y0 : Int64) : nkSI l yX4_isBelow wsX4_isBelow ({ frames := 0, cells := 0, slots := 0, locals := 0 }) [.long x0, .long y0] (fun r => r = fBelow x0 y0) := by
  refine nk_ofS (cc := cX4_isBelow) (maxL := 4) (ret := (some .boolean)) (by decide) rfl (Nat.le_of_ble_eq_true rfl) ?_
  intro p e s m below meth c hx hb hr hml hts hown hlocks ls hl
  replace hown : s.vm.findClass RX4 = some m.cls := hown
  replace hl : lv_has ls 4 [(0, .long x0), (2, .long y0)] := hl
  refine lv_lload_n hx hb dX4_isBelow_0 rfl (lv_at hl 0 rfl) ?_
  refine lv_ldc2 (v := -9223372036854775808) hx hb hown (hts (.constantLong RX4 62 (-9223372036854775808)) (by decide +kernel)) dX4_isBelow_1 ?_
  refine lv_lxor hx hb dX4_isBelow_4 ?_
  refine lv_lload_n hx hb dX4_isBelow_5 rfl (lv_at hl 1 rfl) ?_
  refine lv_ldc2 (v := -9223372036854775808) hx hb hown (hts (.constantLong RX4 62 (-9223372036854775808)) (by decide +kernel)) dX4_isBelow_6 ?_
  refine lv_lxor hx hb dX4_isBelow_9 ?_
  refine W.lcmp hx hb dX4_isBelow_10 ?_
  refine lv_if_ge (tgt := 18) hx hb dX4_isBelow_11 (by decide) (fun c11 => ?_) (fun c11 => ?_)
  · skip
    have c11 : (y0 ^^^ (-9223372036854775808 : Int64)) ≤ (x0 ^^^ (-9223372036854775808 : Int64)) := (lg_cmp_ge _ _).mp c11
    refine lv_iconst (v := 0) hx hb dX4_isBelow_18 (by decide) ?_
    exact nk_endZ hx hb hr hlocks (by first | rfl | decide) dX4_isBelow_19 (by simp only [fBelow]; first | rw [if_pos c11] | rw [if_neg c11])
  · skip
    have c11 : ¬ ((y0 ^^^ (-9223372036854775808 : Int64)) ≤ (x0 ^^^ (-9223372036854775808 : Int64))) := fun h => c11 ((lg_cmp_ge _ _).mpr h)
    refine lv_iconst (v := 1) hx hb dX4_isBelow_14 (by decide) ?_
    refine lv_goto (tgt := 19) hx hb dX4_isBelow_15 (by decide) ?_
    exact nk_endZ hx hb hr hlocks (by first | rfl | decide) dX4_isBelow_19 (by simp only [fBelow]; first | rw [if_pos c11] | rw [if_neg c11])

set_option maxHeartbeats 4000000 in
set_option maxRecDepth 100000 in
theorem mX3_wordAt (l : Launch) (b0 k0 : Int64) : nkSL l yX3_wordAt wsX3_wordAt ({ frames := 1, cells := 0, slots := 0, locals := 23 }) [.long b0, .long k0] (fun r => r = fWord b0 k0) := by
  refine nk_ofS (cc := cX3_wordAt) (maxL := 4) (ret := (some .long)) (by decide) rfl (Nat.le_of_ble_eq_true rfl) ?_
  intro p e s m below meth c hx hb hr hml hts hown hlocks ls hl
  replace hown : s.vm.findClass RX3 = some m.cls := hown
  replace hl : lv_has ls 4 [(0, .long b0), (2, .long k0)] := hl
  refine lv_lload_n hx hb dX3_wordAt_0 rfl (lv_at hl 0 rfl) ?_
  refine lv_ldc2 (v := -7046029254386353131) hx hb hown (hts (.constantLong RX3 135 (-7046029254386353131)) (by decide +kernel)) dX3_wordAt_1 ?_
  refine lv_lload_n hx hb dX3_wordAt_4 rfl (lv_at hl 1 rfl) ?_
  refine lv_lconst (v := 1) hx hb dX3_wordAt_5 (by decide) ?_
  refine lv_ladd hx hb dX3_wordAt_6 ?_
  refine lv_lmul hx hb dX3_wordAt_7 ?_
  refine lv_ladd hx hb dX3_wordAt_8 ?_
  refine nk_SSL (As := [.long (b0 + ((-7046029254386353131 : Int64) * (k0 + (1 : Int64))))]) (rest := []) ⟨hx, hb, hml, hown, hts⟩ (mX3_mix l (b0 + ((-7046029254386353131 : Int64) * (k0 + (1 : Int64))))) (va_cwS 1 hts gX3_wordAt_X3_mix rfl rfl rfl (by decide +kernel) ⟨Nat.le_of_ble_eq_true rfl, Nat.le_of_ble_eq_true rfl⟩) rfl hl.1 rfl (Nat.le_of_ble_eq_true rfl) dX3_wordAt_9 ⟨Nat.zero_le _, Nat.zero_le _⟩ (fun r1 hr1 => ?_)
  subst hr1
  exact nk_endL hx hb hr hlocks dX3_wordAt_12 (by rfl)

set_option maxHeartbeats 4000000 in
set_option maxRecDepth 100000 in
theorem mX3_remainderUnsigned (l : Launch) (x0 n0 : Int64) (hn0 : ¬ n0 = 0) : nkSL l yX3_remainderUnsigned wsX3_remainderUnsigned ({ frames := 1, cells := 0, slots := 0, locals := 23 }) [.long x0, .long n0] (fun r => r = fRem x0 n0) := by
  refine nk_ofS (cc := cX3_remainderUnsigned) (maxL := 8) (ret := (some .long)) (by decide) rfl (Nat.le_of_ble_eq_true rfl) ?_
  intro p e s m below meth c hx hb hr hml hts hown hlocks ls hl
  replace hown : s.vm.findClass RX3 = some m.cls := hown
  replace hl : lv_has ls 8 [(0, .long x0), (2, .long n0)] := hl
  refine lv_lload_n hx hb dX3_remainderUnsigned_0 rfl (lv_at hl 0 rfl) ?_
  refine lv_iconst (v := 1) hx hb dX3_remainderUnsigned_1 (by decide) ?_
  refine lv_lushr (v := (nsU x0 (1 : Int32))) hx hb dX3_remainderUnsigned_2 rfl ?_
  refine lv_lload_n hx hb dX3_remainderUnsigned_3 rfl (lv_at hl 1 rfl) ?_
  refine lv_ldiv hx hb dX3_remainderUnsigned_4 hn0 ?_
  refine lv_iconst (v := 1) hx hb dX3_remainderUnsigned_5 (by decide) ?_
  refine lv_lshl (v := (nsL ((nsU x0 (1 : Int32)) / n0) (1 : Int32))) hx hb dX3_remainderUnsigned_6 rfl ?_
  refine lv_topl (fun z1 ez1 => ?_)
  refine lv_lstore (lv' := [(4, .long z1), (0, .long x0), (2, .long n0)]) hx hb dX3_remainderUnsigned_7 hl (by decide) rfl (fun ls hl => ?_)
  refine lv_lload_n hx hb dX3_remainderUnsigned_9 rfl (lv_at hl 1 rfl) ?_
  refine lv_lload hx hb dX3_remainderUnsigned_10 (lv_at hl 0 rfl) ?_
  refine lv_lload_n hx hb dX3_remainderUnsigned_12 rfl (lv_at hl 2 rfl) ?_
  refine lv_lmul hx hb dX3_remainderUnsigned_13 ?_
  refine lv_lsub hx hb dX3_remainderUnsigned_14 ?_
  refine lv_topl (fun z2 ez2 => ?_)
  refine lv_lstore (lv' := [(6, .long z2), (4, .long z1), (0, .long x0), (2, .long n0)]) hx hb dX3_remainderUnsigned_15 hl (by decide) rfl (fun ls hl => ?_)
  refine lv_lload hx hb dX3_remainderUnsigned_17 (lv_at hl 0 rfl) ?_
  refine lv_lload_n hx hb dX3_remainderUnsigned_19 rfl (lv_at hl 3 rfl) ?_
  refine nk_SSI (As := [.long z2, .long n0]) (rest := []) ⟨hx, hb, hml, hown, hts⟩ (mX3_belowUnsigned l z2 n0) (va_cwS 2 hts gX3_remainderUnsigned_X3_belowUnsigned rfl rfl rfl (by decide +kernel) ⟨Nat.le_of_ble_eq_true rfl, Nat.le_of_ble_eq_true rfl⟩) rfl hl.1 rfl (Nat.le_of_ble_eq_true rfl) dX3_remainderUnsigned_20 ⟨Nat.zero_le _, Nat.zero_le _⟩ (fun r3 hr3 => ?_)
  subst hr3
  refine lv_if_eq (tgt := 31) hx hb dX3_remainderUnsigned_23 (by decide) (fun c23 => ?_) (fun c23 => ?_)
  · skip
    refine lv_lload hx hb dX3_remainderUnsigned_31 (lv_at hl 0 rfl) ?_
    refine lv_lload_n hx hb dX3_remainderUnsigned_33 rfl (lv_at hl 3 rfl) ?_
    refine lv_lsub hx hb dX3_remainderUnsigned_34 ?_
    exact nk_endL hx hb hr hlocks dX3_remainderUnsigned_35 (by subst ez1; subst ez2; first | exact (if_pos c23).symm | exact (if_neg c23).symm)
  · skip
    refine lv_lload hx hb dX3_remainderUnsigned_26 (lv_at hl 0 rfl) ?_
    refine lv_goto (tgt := 35) hx hb dX3_remainderUnsigned_28 (by decide) ?_
    exact nk_endL hx hb hr hlocks dX3_remainderUnsigned_35 (by subst ez1; subst ez2; first | exact (if_pos c23).symm | exact (if_neg c23).symm)
