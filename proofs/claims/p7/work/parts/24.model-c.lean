theorem mP_0 (n : Nat) : (n - 1 = 0 → nI n - 1 ≤ 0) ∧ (0 < n - 1 → nI n - 1 = nI (n - 1)) := by
  constructor
  · intro h
    have h2 : n = 0 ∨ n = 1 := by omega
    rcases h2 with rfl | rfl <;> decide
  · exact (ns_perm0 n).2
theorem mP_1 {q : Nat} {j i : Int32} (h : 0 < q + 1 → j = nI (q + 1)) (e : i = j + (-1)) : (q = 0 → i ≤ 0) ∧ (0 < q → i = nI q) := by
  have h1 : i = nI q := by rw [e, h (Nat.succ_pos _)]; exact pk_m1 q
  constructor
  · intro h2; rw [h1, h2]; decide
  · intro _; exact h1
theorem mPA_0 {o : Int64} {c k tr t2 : Int32} {n : Nat} {O O2 : Nat → Int32} (h : mPermL o c (n - 1) (fFill n n O) tr = (0, O2, t2)) : mPermA o c n O k tr = (-3, O2, t2) := by
  unfold mPermA
  rw [h]
  rfl
theorem mPA_1 {o : Int64} {c k tr t2 : Int32} {n : Nat} {O O2 : Nat → Int32} (h : mPermL o c (n - 1) (fFill n n O) tr = (1, O2, t2)) : mPermA o c n O k tr = (O2 k.toNatClampNeg, O2, t2) := by
  unfold mPermA
  rw [h]
  rfl
set_option maxHeartbeats 800000 in
set_option maxRecDepth 100000 in
theorem mX4_tries (l : Launch) (D : va_G) (bd : Nat → Nat) (cb : Nat → ClassId) (sd : Int64) (pz : Int32) (tc : Int32) (st : Int32) (tr : Int32) (sc : Int32) (gr : Int32) (P : Nat → Int64) (Mn : Nat → Int32) (T : Nat → Int64) (Wt : Nat → Int64) (Rn : Nat → Int64) (Po : Nat → Int32) (Pl : Nat → Int32) (Sp : Nat → Int32) (Ks : Nat → Int32) (Kp : Nat → Int32) (Kc : Nat → Int32) (Ik : Nat → Int32) (O : Nat → Int32) (As : Nat → Int64) (X : va_W) : nkRI l yX4_tries wsX4_tries ({ frames := 0, cells := 0, slots := 0, locals := 0 }) D (tM cb) [.ref (bd 0)] (wM bd cb sd pz tc st tr sc gr P Mn T Wt Rn Po Pl Sp Ks Kp Kc Ik O As X) (fun r => r = tr) := by
  refine nk_ofR (cc := cX4_tries) (maxL := 1) (ret := (some .int)) (by decide) rfl (Nat.le_of_ble_eq_true rfl) ?_
  intro p e s m below meth c hx hb hr hml hts hown hlocks hK hP ls hl
  replace hown : s.vm.findClass RX4 = some m.cls := hown
  replace hl : lv_has ls 1 [(0, .ref (bd 0))] := hl
  have hP : va_P D vwCl (wM bd cb sd pz tc st tr sc gr P Mn T Wt Rn Po Pl Sp Ks Kp Kc Ik O As X) s.heap := hP
  have iX4 : ∀ w ∈ u_ws RX4 TX4 21, w ∈ wsX4_tries := by decide +kernel
  refine lv_aload_n hx hb dX4_tries_0 rfl (lv_at hl 0 rfl) ?_
  refine va_get (D := D) (ci := 4) (v := .int tr) (C := RX4) (T := TX4) (N := 21) hx hb hts iX4 hown hK.1 hP 0 rfl rfl 7 (by decide) (hts (.fieldLink RX4 113 "NamedStreamsModel" "tries" "I") (by decide +kernel)) (fun _ h9 => h9) rfl dX4_tries_1 ?_
  exact nk_endI hx hb hr hlocks dX4_tries_4 (by rfl)

set_option maxHeartbeats 800000 in
set_option maxRecDepth 100000 in
theorem mX4_status (l : Launch) (D : va_G) (bd : Nat → Nat) (cb : Nat → ClassId) (sd : Int64) (pz : Int32) (tc : Int32) (st : Int32) (tr : Int32) (sc : Int32) (gr : Int32) (P : Nat → Int64) (Mn : Nat → Int32) (T : Nat → Int64) (Wt : Nat → Int64) (Rn : Nat → Int64) (Po : Nat → Int32) (Pl : Nat → Int32) (Sp : Nat → Int32) (Ks : Nat → Int32) (Kp : Nat → Int32) (Kc : Nat → Int32) (Ik : Nat → Int32) (O : Nat → Int32) (As : Nat → Int64) (X : va_W) : nkRI l yX4_status wsX4_status ({ frames := 0, cells := 0, slots := 0, locals := 0 }) D (tM cb) [.ref (bd 0)] (wM bd cb sd pz tc st tr sc gr P Mn T Wt Rn Po Pl Sp Ks Kp Kc Ik O As X) (fun r => r = st) := by
  refine nk_ofR (cc := cX4_status) (maxL := 1) (ret := (some .int)) (by decide) rfl (Nat.le_of_ble_eq_true rfl) ?_
  intro p e s m below meth c hx hb hr hml hts hown hlocks hK hP ls hl
  replace hown : s.vm.findClass RX4 = some m.cls := hown
  replace hl : lv_has ls 1 [(0, .ref (bd 0))] := hl
  have hP : va_P D vwCl (wM bd cb sd pz tc st tr sc gr P Mn T Wt Rn Po Pl Sp Ks Kp Kc Ik O As X) s.heap := hP
  have iX4 : ∀ w ∈ u_ws RX4 TX4 21, w ∈ wsX4_status := by decide +kernel
  refine lv_aload_n hx hb dX4_status_0 rfl (lv_at hl 0 rfl) ?_
  refine va_get (D := D) (ci := 4) (v := .int st) (C := RX4) (T := TX4) (N := 21) hx hb hts iX4 hown hK.1 hP 0 rfl rfl 6 (by decide) (hts (.fieldLink RX4 96 "NamedStreamsModel" "status" "I") (by decide +kernel)) (fun _ h9 => h9) rfl dX4_status_1 ?_
  exact nk_endI hx hb hr hlocks dX4_status_4 (by rfl)

set_option maxHeartbeats 800000 in
set_option maxRecDepth 100000 in
theorem mX4_isStream (l : Launch) (D : va_G) (bd : Nat → Nat) (cb : Nat → ClassId) (sd : Int64) (pz : Int32) (tc : Int32) (st : Int32) (tr : Int32) (sc : Int32) (gr : Int32) (P : Nat → Int64) (Mn : Nat → Int32) (T : Nat → Int64) (Wt : Nat → Int64) (Rn : Nat → Int64) (Po : Nat → Int32) (Pl : Nat → Int32) (Sp : Nat → Int32) (Ks : Nat → Int32) (Kp : Nat → Int32) (Kc : Nat → Int32) (Ik : Nat → Int32) (O : Nat → Int32) (As : Nat → Int64) (X : va_W) (i0 : Int32) : nkRI l yX4_isStream wsX4_isStream ({ frames := 1, cells := 0, slots := 0, locals := 25 }) D (tM cb) [.ref (bd 0), .int i0] (wM bd cb sd pz tc st tr sc gr P Mn T Wt Rn Po Pl Sp Ks Kp Kc Ik O As X) (fun r => r = mIs sc i0) := by
  refine nk_ofR (cc := cX4_isStream) (maxL := 2) (ret := (some .boolean)) (by decide) rfl (Nat.le_of_ble_eq_true rfl) ?_
  intro p e s m below meth c hx hb hr hml hts hown hlocks hK hP ls hl
  replace hown : s.vm.findClass RX4 = some m.cls := hown
  replace hl : lv_has ls 2 [(0, .ref (bd 0)), (1, .int i0)] := hl
  have hP : va_P D vwCl (wM bd cb sd pz tc st tr sc gr P Mn T Wt Rn Po Pl Sp Ks Kp Kc Ik O As X) s.heap := hP
  have iX4 : ∀ w ∈ u_ws RX4 TX4 21, w ∈ wsX4_isStream := by decide +kernel
  refine lv_iload_n hx hb dX4_isStream_0 rfl (lv_at hl 1 rfl) ?_
  refine lv_i2l hx hb dX4_isStream_1 rfl ?_
  refine lv_lconst (v := 0) hx hb dX4_isStream_2 (by decide) ?_
  refine lv_aload_n hx hb dX4_isStream_3 rfl (lv_at hl 0 rfl) ?_
  refine va_get (D := D) (ci := 4) (v := .int sc) (C := RX4) (T := TX4) (N := 21) hx hb hts iX4 hown hK.1 hP 0 rfl rfl 9 (by decide) (hts (.fieldLink RX4 146 "NamedStreamsModel" "streams" "I") (by decide +kernel)) (fun _ h9 => h9) rfl dX4_isStream_4 ?_
  refine lv_iconst (v := 1) hx hb dX4_isStream_7 (by decide) ?_
  refine lv_isub hx hb dX4_isStream_8 ?_
  refine lv_i2l hx hb dX4_isStream_9 rfl ?_
  refine nk_SSI (As := [.long (Int32.toInt64 i0), .long (0 : Int64), .long (Int32.toInt64 (sc - (1 : Int32)))]) (rest := []) ⟨hx, hb, hml, hown, hts⟩ (mX4_in l (Int32.toInt64 i0) (0 : Int64) (Int32.toInt64 (sc - (1 : Int32)))) (va_cwS 3 hts gX4_isStream_X4_in rfl rfl rfl (by decide +kernel) ⟨Nat.le_of_ble_eq_true rfl, Nat.le_of_ble_eq_true rfl⟩) rfl hl.1 rfl (Nat.le_of_ble_eq_true rfl) dX4_isStream_10 ⟨Nat.le_of_ble_eq_true rfl, Nat.le_of_ble_eq_true rfl⟩ (fun r1 hr1 => ?_)
  subst hr1
  exact nk_endZ hx hb hr hlocks (mIs_nar _ _) dX4_isStream_13 (by rfl)

set_option maxHeartbeats 800000 in
set_option maxRecDepth 100000 in
theorem mX4_counted (l : Launch) (D : va_G) (bd : Nat → Nat) (cb : Nat → ClassId) (sd : Int64) (pz : Int32) (tc : Int32) (st : Int32) (tr : Int32) (sc : Int32) (gr : Int32) (P : Nat → Int64) (Mn : Nat → Int32) (T : Nat → Int64) (Wt : Nat → Int64) (Rn : Nat → Int64) (Po : Nat → Int32) (Pl : Nat → Int32) (Sp : Nat → Int32) (Ks : Nat → Int32) (Kp : Nat → Int32) (Kc : Nat → Int32) (Ik : Nat → Int32) (O : Nat → Int32) (As : Nat → Int64) (X : va_W) (b0 n0 i0 : Int32) : nkRI l yX4_counted wsX4_counted ({ frames := 1, cells := 0, slots := 0, locals := 25 }) D (tM cb) [.ref (bd 0), .int b0, .int n0, .int i0] (wM bd cb sd pz tc st tr sc gr P Mn T Wt Rn Po Pl Sp Ks Kp Kc Ik O As X) (fun r => r = mCounted b0 n0 i0) := by
  refine nk_ofR (cc := cX4_counted) (maxL := 4) (ret := (some .int)) (by decide) rfl (Nat.le_of_ble_eq_true rfl) ?_
  intro p e s m below meth c hx hb hr hml hts hown hlocks hK hP ls hl
  replace hown : s.vm.findClass RX4 = some m.cls := hown
  replace hl : lv_has ls 4 [(0, .ref (bd 0)), (1, .int b0), (2, .int n0), (3, .int i0)] := hl
  have hP : va_P D vwCl (wM bd cb sd pz tc st tr sc gr P Mn T Wt Rn Po Pl Sp Ks Kp Kc Ik O As X) s.heap := hP
  refine lv_iload_n hx hb dX4_counted_0 rfl (lv_at hl 1 rfl) ?_
  refine lv_i2l hx hb dX4_counted_1 rfl ?_
  refine lv_lconst (v := 1) hx hb dX4_counted_2 (by decide) ?_
  refine lv_ldc2 (v := 16) hx hb hown (hts (.constantLong RX4 161 (16)) (by decide +kernel)) dX4_counted_3 ?_
  refine nk_SSI (As := [.long (Int32.toInt64 b0), .long (1 : Int64), .long (16 : Int64)]) (rest := []) ⟨hx, hb, hml, hown, hts⟩ (mX4_in l (Int32.toInt64 b0) (1 : Int64) (16 : Int64)) (va_cwS 3 hts gX4_counted_X4_in rfl rfl rfl (by decide +kernel) ⟨Nat.le_of_ble_eq_true rfl, Nat.le_of_ble_eq_true rfl⟩) rfl hl.1 rfl (Nat.le_of_ble_eq_true rfl) dX4_counted_6 ⟨Nat.le_of_ble_eq_true rfl, Nat.le_of_ble_eq_true rfl⟩ (fun r1 hr1 => ?_)
  subst hr1
  refine lv_if_eq (tgt := 37) hx hb dX4_counted_9 (by decide) (fun c9 => ?_) (fun c9 => ?_)
  · skip
    refine lv_iconst (v := -1) hx hb dX4_counted_37 (by decide) ?_
    exact nk_endI hx hb hr hlocks dX4_counted_38 (by exact (if_pos c9).symm)
  · skip
    refine lv_iload_n hx hb dX4_counted_12 rfl (lv_at hl 2 rfl) ?_
    refine lv_i2l hx hb dX4_counted_13 rfl ?_
    refine lv_lconst (v := 1) hx hb dX4_counted_14 (by decide) ?_
    refine lv_ldc2 (v := 65536) hx hb hown (hts (.constantLong RX4 163 (65536)) (by decide +kernel)) dX4_counted_15 ?_
    refine nk_SSI (As := [.long (Int32.toInt64 n0), .long (1 : Int64), .long (65536 : Int64)]) (rest := []) ⟨hx, hb, hml, hown, hts⟩ (mX4_in l (Int32.toInt64 n0) (1 : Int64) (65536 : Int64)) (va_cwS 3 hts gX4_counted_X4_in rfl rfl rfl (by decide +kernel) ⟨Nat.le_of_ble_eq_true rfl, Nat.le_of_ble_eq_true rfl⟩) rfl hl.1 rfl (Nat.le_of_ble_eq_true rfl) dX4_counted_18 ⟨Nat.le_of_ble_eq_true rfl, Nat.le_of_ble_eq_true rfl⟩ (fun r2 hr2 => ?_)
    subst hr2
    refine lv_if_eq (tgt := 37) hx hb dX4_counted_21 (by decide) (fun c21 => ?_) (fun c21 => ?_)
    · skip
      refine lv_iconst (v := -1) hx hb dX4_counted_37 (by decide) ?_
      exact nk_endI hx hb hr hlocks dX4_counted_38 (by exact ((if_neg c9).trans (if_pos c21)).symm)
    · skip
      refine lv_iload_n hx hb dX4_counted_24 rfl (lv_at hl 3 rfl) ?_
      refine lv_i2l hx hb dX4_counted_25 rfl ?_
      refine lv_lconst (v := 0) hx hb dX4_counted_26 (by decide) ?_
      refine lv_iload_n hx hb dX4_counted_27 rfl (lv_at hl 2 rfl) ?_
      refine lv_iconst (v := 1) hx hb dX4_counted_28 (by decide) ?_
      refine lv_isub hx hb dX4_counted_29 ?_
      refine lv_i2l hx hb dX4_counted_30 rfl ?_
      refine nk_SSI (As := [.long (Int32.toInt64 i0), .long (0 : Int64), .long (Int32.toInt64 (n0 - (1 : Int32)))]) (rest := []) ⟨hx, hb, hml, hown, hts⟩ (mX4_in l (Int32.toInt64 i0) (0 : Int64) (Int32.toInt64 (n0 - (1 : Int32)))) (va_cwS 3 hts gX4_counted_X4_in rfl rfl rfl (by decide +kernel) ⟨Nat.le_of_ble_eq_true rfl, Nat.le_of_ble_eq_true rfl⟩) rfl hl.1 rfl (Nat.le_of_ble_eq_true rfl) dX4_counted_31 ⟨Nat.le_of_ble_eq_true rfl, Nat.le_of_ble_eq_true rfl⟩ (fun r3 hr3 => ?_)
      subst hr3
      refine lv_if_ne (tgt := 39) hx hb dX4_counted_34 (by decide) (fun c34 => ?_) (fun c34 => ?_)
      · skip
        refine lv_iconst (v := 1) hx hb dX4_counted_39 (by decide) ?_
        refine lv_iload_n hx hb dX4_counted_40 rfl (lv_at hl 1 rfl) ?_
        refine lv_ishl hx hb dX4_counted_41 ?_
        refine lv_iload_n hx hb dX4_counted_42 rfl (lv_at hl 2 rfl) ?_
        refine lv_idiv hx hb dX4_counted_43 (fun q => c21 (by rw [q]; decide)) ?_
        exact nk_endI hx hb hr hlocks dX4_counted_44 (by exact ((if_neg c9).trans ((if_neg c21).trans (if_neg c34))).symm)
      · skip
        refine lv_iconst (v := -1) hx hb dX4_counted_37 (by decide) ?_
        exact nk_endI hx hb hr hlocks dX4_counted_38 (by exact ((if_neg c9).trans ((if_neg c21).trans (if_pos c34))).symm)

set_option maxHeartbeats 800000 in
set_option maxRecDepth 100000 in
theorem mX4_count (l : Launch) (D : va_G) (bd : Nat → Nat) (cb : Nat → ClassId) (sd : Int64) (pz : Int32) (tc : Int32) (st : Int32) (tr : Int32) (sc : Int32) (gr : Int32) (P : Nat → Int64) (Mn : Nat → Int32) (T : Nat → Int64) (Wt : Nat → Int64) (Rn : Nat → Int64) (Po : Nat → Int32) (Pl : Nat → Int32) (Sp : Nat → Int32) (Ks : Nat → Int32) (Kp : Nat → Int32) (Kc : Nat → Int32) (Ik : Nat → Int32) (O : Nat → Int32) (As : Nat → Int64) (X : va_W) (x0 : Int32) : nkRI l yX4_count wsX4_count ({ frames := 0, cells := 0, slots := 0, locals := 0 }) D (tM cb) [.ref (bd 0), .int x0] (wM bd cb sd pz tc st tr sc gr P Mn T Wt Rn Po Pl Sp Ks Kp Kc Ik O As X) (fun r => r = mCount pz sc tc x0) := by
  refine nk_ofR (cc := cX4_count) (maxL := 2) (ret := (some .int)) (by decide) rfl (Nat.le_of_ble_eq_true rfl) ?_
  intro p e s m below meth c hx hb hr hml hts hown hlocks hK hP ls hl
  replace hown : s.vm.findClass RX4 = some m.cls := hown
  replace hl : lv_has ls 2 [(0, .ref (bd 0)), (1, .int x0)] := hl
  have hP : va_P D vwCl (wM bd cb sd pz tc st tr sc gr P Mn T Wt Rn Po Pl Sp Ks Kp Kc Ik O As X) s.heap := hP
  have iX4 : ∀ w ∈ u_ws RX4 TX4 21, w ∈ wsX4_count := by decide +kernel
  refine lv_iload_n hx hb dX4_count_0 rfl (lv_at hl 1 rfl) ?_
  refine lv_if_ne (tgt := 11) hx hb dX4_count_1 (by decide) (fun c1 => ?_) (fun c1 => ?_)
  · skip
    refine lv_iload_n hx hb dX4_count_11 rfl (lv_at hl 1 rfl) ?_
    refine lv_iconst (v := 1) hx hb dX4_count_12 (by decide) ?_
    refine lv_icmp_ne (tgt := 23) hx hb dX4_count_13 (by decide) (fun c13 => ?_) (fun c13 => ?_)
    · skip
      refine lv_iload_n hx hb dX4_count_23 rfl (lv_at hl 1 rfl) ?_
      refine lv_iconst (v := 2) hx hb dX4_count_24 (by decide) ?_
      refine lv_icmp_ne (tgt := 35) hx hb dX4_count_25 (by decide) (fun c25 => ?_) (fun c25 => ?_)
      · skip
        refine lv_iconst (v := -1) hx hb dX4_count_35 (by decide) ?_
        exact nk_endI hx hb hr hlocks dX4_count_36 (by exact ((if_neg c1).trans ((if_neg c13).trans (if_neg c25))).symm)
      · skip
        refine lv_aload_n hx hb dX4_count_28 rfl (lv_at hl 0 rfl) ?_
        refine va_get (D := D) (ci := 4) (v := .int tc) (C := RX4) (T := TX4) (N := 21) hx hb hts iX4 hown hK.1 hP 0 rfl rfl 5 (by decide) (hts (.fieldLink RX4 68 "NamedStreamsModel" "toldMany" "I") (by decide +kernel)) (fun _ h9 => h9) rfl dX4_count_29 ?_
        refine lv_goto (tgt := 36) hx hb dX4_count_32 (by decide) ?_
        exact nk_endI hx hb hr hlocks dX4_count_36 (by exact ((if_neg c1).trans ((if_neg c13).trans (if_pos c25))).symm)
    · skip
      refine lv_aload_n hx hb dX4_count_16 rfl (lv_at hl 0 rfl) ?_
      refine va_get (D := D) (ci := 4) (v := .int sc) (C := RX4) (T := TX4) (N := 21) hx hb hts iX4 hown hK.1 hP 0 rfl rfl 9 (by decide) (hts (.fieldLink RX4 146 "NamedStreamsModel" "streams" "I") (by decide +kernel)) (fun _ h9 => h9) rfl dX4_count_17 ?_
      refine lv_goto (tgt := 36) hx hb dX4_count_20 (by decide) ?_
      exact nk_endI hx hb hr hlocks dX4_count_36 (by exact ((if_neg c1).trans (if_pos c13)).symm)
  · skip
    refine lv_aload_n hx hb dX4_count_4 rfl (lv_at hl 0 rfl) ?_
    refine va_get (D := D) (ci := 4) (v := .int pz) (C := RX4) (T := TX4) (N := 21) hx hb hts iX4 hown hK.1 hP 0 rfl rfl 1 (by decide) (hts (.fieldLink RX4 72 "NamedStreamsModel" "paths" "I") (by decide +kernel)) (fun _ h9 => h9) rfl dX4_count_5 ?_
    refine lv_goto (tgt := 36) hx hb dX4_count_8 (by decide) ?_
    exact nk_endI hx hb hr hlocks dX4_count_36 (by exact (if_pos c1).symm)

set_option maxHeartbeats 800000 in
set_option maxRecDepth 100000 in
theorem mX4_told (l : Launch) (D : va_G) (bd : Nat → Nat) (cb : Nat → ClassId) (sd : Int64) (pz : Int32) (tc : Int32) (st : Int32) (tr : Int32) (gr : Int32) (P : Nat → Int64) (Mn : Nat → Int32) (T : Nat → Int64) (Wt : Nat → Int64) (Rn : Nat → Int64) (Po : Nat → Int32) (Pl : Nat → Int32) (Sp : Nat → Int32) (Ks : Nat → Int32) (Kp : Nat → Int32) (Kc : Nat → Int32) (Ik : Nat → Int32) (O : Nat → Int32) (As : Nat → Int64) (X : va_W) (nc : Nat) (i0 x0 : Int32) (hc0 : nc ≤ 8) : nkRI l yX4_told wsX4_told ({ frames := 2, cells := 0, slots := 0, locals := 46 }) D (tM cb) [.ref (bd 0), .int i0, .int x0] (wM bd cb sd pz tc st tr (nI nc) gr P Mn T Wt Rn Po Pl Sp Ks Kp Kc Ik O As X) (fun r => r = mTold (nI nc) Po Pl Sp i0 x0) := by
  refine nk_ofR (cc := cX4_told) (maxL := 3) (ret := (some .int)) (by decide) rfl (Nat.le_of_ble_eq_true rfl) ?_
  intro p e s m below meth c hx hb hr hml hts hown hlocks hK hP ls hl
  replace hown : s.vm.findClass RX4 = some m.cls := hown
  replace hl : lv_has ls 3 [(0, .ref (bd 0)), (1, .int i0), (2, .int x0)] := hl
  have hP : va_P D vwCl (wM bd cb sd pz tc st tr (nI nc) gr P Mn T Wt Rn Po Pl Sp Ks Kp Kc Ik O As X) s.heap := hP
  have iX4 : ∀ w ∈ u_ws RX4 TX4 21, w ∈ wsX4_told := by decide +kernel
  refine lv_aload_n hx hb dX4_told_0 rfl (lv_at hl 0 rfl) ?_
  refine lv_iload_n hx hb dX4_told_1 rfl (lv_at hl 1 rfl) ?_
  refine nk_VRI (As := [.int i0]) (rest := []) ⟨hx, hb, hml, hown, hts⟩ (mX4_isStream l D bd cb sd pz tc st tr (nI nc) gr P Mn T Wt Rn Po Pl Sp Ks Kp Kc Ik O As X i0) (cwV 1 hts gX4_told_X4_isStream rfl rfl rfl (by decide +kernel) ⟨Nat.le_of_ble_eq_true rfl, Nat.le_of_ble_eq_true rfl⟩) hK hP 0 4 rfl rfl rfl rfl hl.1 rfl (Nat.le_of_ble_eq_true rfl) dX4_told_2 ⟨Nat.le_of_ble_eq_true rfl, Nat.le_of_ble_eq_true rfl⟩ (fun r1 hr1 => ?_)
  subst hr1
  refine lv_if_eq (tgt := 20) hx hb dX4_told_5 (by decide) (fun c5 => ?_) (fun c5 => ?_)
  · skip
    refine lv_iconst (v := -1) hx hb dX4_told_20 (by decide) ?_
    exact nk_endI hx hb hr hlocks dX4_told_21 (by exact (if_pos c5).symm)
  · skip
    refine lv_iload_n hx hb dX4_told_8 rfl (lv_at hl 2 rfl) ?_
    refine lv_i2l hx hb dX4_told_9 rfl ?_
    refine lv_lconst (v := 0) hx hb dX4_told_10 (by decide) ?_
    refine lv_ldc2 (v := 2) hx hb hown (hts (.constantLong RX4 126 (2)) (by decide +kernel)) dX4_told_11 ?_
    refine nk_SSI (As := [.long (Int32.toInt64 x0), .long (0 : Int64), .long (2 : Int64)]) (rest := []) ⟨hx, hb, hml, hown, hts⟩ (mX4_in l (Int32.toInt64 x0) (0 : Int64) (2 : Int64)) (va_cwS 3 hts gX4_told_X4_in rfl rfl rfl (by decide +kernel) ⟨Nat.le_of_ble_eq_true rfl, Nat.le_of_ble_eq_true rfl⟩) rfl hl.1 rfl (Nat.le_of_ble_eq_true rfl) dX4_told_14 ⟨Nat.le_of_ble_eq_true rfl, Nat.le_of_ble_eq_true rfl⟩ (fun r2 hr2 => ?_)
    subst hr2
    refine lv_if_ne (tgt := 22) hx hb dX4_told_17 (by decide) (fun c17 => ?_) (fun c17 => ?_)
    · skip
      refine lv_iload_n hx hb dX4_told_22 rfl (lv_at hl 2 rfl) ?_
      refine lv_if_ne (tgt := 35) hx hb dX4_told_23 (by decide) (fun c23 => ?_) (fun c23 => ?_)
      · skip
        refine lv_iload_n hx hb dX4_told_35 rfl (lv_at hl 2 rfl) ?_
        refine lv_iconst (v := 1) hx hb dX4_told_36 (by decide) ?_
        refine lv_icmp_ne (tgt := 49) hx hb dX4_told_37 (by decide) (fun c37 => ?_) (fun c37 => ?_)
        · skip
          refine lv_aload_n hx hb dX4_told_49 rfl (lv_at hl 0 rfl) ?_
          refine va_get (D := D) (ci := 4) (v := .ref (bd 8)) (C := RX4) (T := TX4) (N := 21) hx hb hts iX4 hown hK.1 hP 0 rfl rfl 13 (by decide) (hts (.fieldLink RX4 32 "NamedStreamsModel" "splits" "[I") (by decide +kernel)) (fun _ h9 => h9) rfl dX4_told_50 ?_
          refine lv_iload_n hx hb dX4_told_53 rfl (lv_at hl 1 rfl) ?_
          refine va_iald hx hb hK.1 hP 8 7 rfl rfl ((mIs_in c5 (Nat.le_trans hc0 (by decide))).mono hc0) dX4_told_54 ?_
          exact nk_endI hx hb hr hlocks dX4_told_55 (by exact ((if_neg c5).trans ((if_neg c17).trans ((if_neg c23).trans (if_neg c37)))).symm)
        · skip
          refine lv_aload_n hx hb dX4_told_40 rfl (lv_at hl 0 rfl) ?_
          refine va_get (D := D) (ci := 4) (v := .ref (bd 7)) (C := RX4) (T := TX4) (N := 21) hx hb hts iX4 hown hK.1 hP 0 rfl rfl 12 (by decide) (hts (.fieldLink RX4 29 "NamedStreamsModel" "place" "[I") (by decide +kernel)) (fun _ h9 => h9) rfl dX4_told_41 ?_
          refine lv_iload_n hx hb dX4_told_44 rfl (lv_at hl 1 rfl) ?_
          refine va_iald hx hb hK.1 hP 7 6 rfl rfl ((mIs_in c5 (Nat.le_trans hc0 (by decide))).mono hc0) dX4_told_45 ?_
          refine lv_goto (tgt := 55) hx hb dX4_told_46 (by decide) ?_
          exact nk_endI hx hb hr hlocks dX4_told_55 (by exact ((if_neg c5).trans ((if_neg c17).trans ((if_neg c23).trans (if_pos c37)))).symm)
      · skip
        refine lv_aload_n hx hb dX4_told_26 rfl (lv_at hl 0 rfl) ?_
        refine va_get (D := D) (ci := 4) (v := .ref (bd 6)) (C := RX4) (T := TX4) (N := 21) hx hb hts iX4 hown hK.1 hP 0 rfl rfl 11 (by decide) (hts (.fieldLink RX4 26 "NamedStreamsModel" "pathOf" "[I") (by decide +kernel)) (fun _ h9 => h9) rfl dX4_told_27 ?_
        refine lv_iload_n hx hb dX4_told_30 rfl (lv_at hl 1 rfl) ?_
        refine va_iald hx hb hK.1 hP 6 5 rfl rfl ((mIs_in c5 (Nat.le_trans hc0 (by decide))).mono hc0) dX4_told_31 ?_
        refine lv_goto (tgt := 55) hx hb dX4_told_32 (by decide) ?_
        exact nk_endI hx hb hr hlocks dX4_told_55 (by exact ((if_neg c5).trans ((if_neg c17).trans (if_pos c23))).symm)
    · skip
      refine lv_iconst (v := -1) hx hb dX4_told_20 (by decide) ?_
      exact nk_endI hx hb hr hlocks dX4_told_21 (by exact ((if_neg c5).trans (if_pos c17)).symm)

set_option maxHeartbeats 800000 in
set_option maxRecDepth 100000 in
theorem mX4_begin (l : Launch) (D : va_G) (bd : Nat → Nat) (cb : Nat → ClassId) (sd : Int64) (pz : Int32) (tc : Int32) (st : Int32) (tr : Int32) (sc : Int32) (gr : Int32) (P : Nat → Int64) (Mn : Nat → Int32) (T : Nat → Int64) (Wt : Nat → Int64) (Rn : Nat → Int64) (Po : Nat → Int32) (Pl : Nat → Int32) (Sp : Nat → Int32) (Ks : Nat → Int32) (Kp : Nat → Int32) (Kc : Nat → Int32) (Ik : Nat → Int32) (O : Nat → Int32) (As : Nat → Int64) (X : va_W) (r0 : Int64) (p0 : Int32) (hs0 : vp_in sc 8) : nkMI l yX4_begin wsX4_begin ({ frames := 0, cells := 0, slots := 0, locals := 0 }) D (tM cb) [.ref (bd 0), .long r0, .int p0] (wM bd cb sd pz tc st tr sc gr P Mn T Wt Rn Po Pl Sp Ks Kp Kc Ik O As X) (fun u : sBg => wM bd cb sd pz tc st tr u.1 gr P Mn T Wt u.2.1 u.2.2.1 u.2.2.2.1 u.2.2.2.2 Ks Kp Kc Ik O As X) (fun r u => mBegin sc Rn Po Pl Sp r0 p0 = (r, u)) 0 0 := by
  refine nk_ofM (Qf := fun A => va_Qi (fun r u => mBegin sc Rn Po Pl Sp r0 p0 = (r, u)) (nkB D A (fun u : sBg => wM bd cb sd pz tc st tr u.1 gr P Mn T Wt u.2.1 u.2.2.1 u.2.2.2.1 u.2.2.2.2 Ks Kp Kc Ik O As X)) A) (cc := cX4_begin) (maxL := 4) (ret := (some .int)) (by decide) rfl (Nat.le_of_ble_eq_true rfl) ?_
  intro p e s m below meth c A hx hb hr hml hts hown hlocks hin hK hP hD hA hS ls hl
  replace hown : s.vm.findClass RX4 = some m.cls := hown
  replace hl : lv_has ls 4 [(0, .ref (bd 0)), (1, .long r0), (3, .int p0)] := hl
  have hP : va_P D vwCl (wM bd cb sd pz tc st tr sc gr P Mn T Wt Rn Po Pl Sp Ks Kp Kc Ik O As X) s.heap := hP
  have iX4 : ∀ w ∈ u_ws RX4 TX4 21, w ∈ wsX4_begin := by decide +kernel
  refine lv_aload_n hx hb dX4_begin_0 rfl (lv_at hl 0 rfl) ?_
  refine va_get (D := D) (ci := 4) (v := .ref (bd 5)) (C := RX4) (T := TX4) (N := 21) hx hb hts iX4 hown hK.1 hP 0 rfl rfl 10 (by decide) (hts (.fieldLink RX4 23 "NamedStreamsModel" "run" "[J") (by decide +kernel)) (fun _ h9 => h9) rfl dX4_begin_1 ?_
  refine lv_aload_n hx hb dX4_begin_4 rfl (lv_at hl 0 rfl) ?_
  refine va_get (D := D) (ci := 4) (v := .int sc) (C := RX4) (T := TX4) (N := 21) hx hb hts iX4 hown hK.1 hP 0 rfl rfl 9 (by decide) (hts (.fieldLink RX4 146 "NamedStreamsModel" "streams" "I") (by decide +kernel)) (fun _ h9 => h9) rfl dX4_begin_5 ?_
  refine lv_lload_n hx hb dX4_begin_8 rfl (lv_at hl 1 rfl) ?_
  refine va_last hx hb hK.1 hP hD hS 5 4 rfl rfl hs0 dX4_begin_9 (fun H locs hP hD hS => ?_)
  have hP : va_P D vwCl (wM bd cb sd pz tc st tr sc gr P Mn T Wt (vp_updL Rn (Int32.toNatClampNeg sc) r0) Po Pl Sp Ks Kp Kc Ik O As X) H := hP
  have hD : va_D A (wM bd cb sd pz tc st tr sc gr P Mn T Wt (vp_updL Rn (Int32.toNatClampNeg sc) r0) Po Pl Sp Ks Kp Kc Ik O As X) := hD
  refine lv_aload_n hx hb dX4_begin_10 rfl (lv_at hl 0 rfl) ?_
  refine va_get (D := D) (ci := 4) (v := .ref (bd 6)) (C := RX4) (T := TX4) (N := 21) hx hb hts iX4 hown hK.1 hP 0 rfl rfl 11 (by decide) (hts (.fieldLink RX4 26 "NamedStreamsModel" "pathOf" "[I") (by decide +kernel)) (fun _ h9 => h9) rfl dX4_begin_11 ?_
  refine lv_aload_n hx hb dX4_begin_14 rfl (lv_at hl 0 rfl) ?_
  refine va_get (D := D) (ci := 4) (v := .int sc) (C := RX4) (T := TX4) (N := 21) hx hb hts iX4 hown hK.1 hP 0 rfl rfl 9 (by decide) (hts (.fieldLink RX4 146 "NamedStreamsModel" "streams" "I") (by decide +kernel)) (fun _ h9 => h9) rfl dX4_begin_15 ?_
  refine lv_iload_n hx hb dX4_begin_18 rfl (lv_at hl 2 rfl) ?_
  refine va_iast hx hb hK.1 hP hD hS 6 5 rfl rfl hs0 dX4_begin_19 (fun H locs hP hD hS => ?_)
  have hP : va_P D vwCl (wM bd cb sd pz tc st tr sc gr P Mn T Wt (vp_updL Rn (Int32.toNatClampNeg sc) r0) (upd Po (Int32.toNatClampNeg sc) p0) Pl Sp Ks Kp Kc Ik O As X) H := hP
  have hD : va_D A (wM bd cb sd pz tc st tr sc gr P Mn T Wt (vp_updL Rn (Int32.toNatClampNeg sc) r0) (upd Po (Int32.toNatClampNeg sc) p0) Pl Sp Ks Kp Kc Ik O As X) := hD
  refine lv_aload_n hx hb dX4_begin_20 rfl (lv_at hl 0 rfl) ?_
  refine va_get (D := D) (ci := 4) (v := .ref (bd 7)) (C := RX4) (T := TX4) (N := 21) hx hb hts iX4 hown hK.1 hP 0 rfl rfl 12 (by decide) (hts (.fieldLink RX4 29 "NamedStreamsModel" "place" "[I") (by decide +kernel)) (fun _ h9 => h9) rfl dX4_begin_21 ?_
  refine lv_aload_n hx hb dX4_begin_24 rfl (lv_at hl 0 rfl) ?_
  refine va_get (D := D) (ci := 4) (v := .int sc) (C := RX4) (T := TX4) (N := 21) hx hb hts iX4 hown hK.1 hP 0 rfl rfl 9 (by decide) (hts (.fieldLink RX4 146 "NamedStreamsModel" "streams" "I") (by decide +kernel)) (fun _ h9 => h9) rfl dX4_begin_25 ?_
  refine lv_iconst (v := 0) hx hb dX4_begin_28 (by decide) ?_
  refine va_iast hx hb hK.1 hP hD hS 7 6 rfl rfl hs0 dX4_begin_29 (fun H locs hP hD hS => ?_)
  have hP : va_P D vwCl (wM bd cb sd pz tc st tr sc gr P Mn T Wt (vp_updL Rn (Int32.toNatClampNeg sc) r0) (upd Po (Int32.toNatClampNeg sc) p0) (upd Pl (Int32.toNatClampNeg sc) (0 : Int32)) Sp Ks Kp Kc Ik O As X) H := hP
  have hD : va_D A (wM bd cb sd pz tc st tr sc gr P Mn T Wt (vp_updL Rn (Int32.toNatClampNeg sc) r0) (upd Po (Int32.toNatClampNeg sc) p0) (upd Pl (Int32.toNatClampNeg sc) (0 : Int32)) Sp Ks Kp Kc Ik O As X) := hD
  refine lv_aload_n hx hb dX4_begin_30 rfl (lv_at hl 0 rfl) ?_
  refine va_get (D := D) (ci := 4) (v := .ref (bd 8)) (C := RX4) (T := TX4) (N := 21) hx hb hts iX4 hown hK.1 hP 0 rfl rfl 13 (by decide) (hts (.fieldLink RX4 32 "NamedStreamsModel" "splits" "[I") (by decide +kernel)) (fun _ h9 => h9) rfl dX4_begin_31 ?_
  refine lv_aload_n hx hb dX4_begin_34 rfl (lv_at hl 0 rfl) ?_
  refine va_get (D := D) (ci := 4) (v := .int sc) (C := RX4) (T := TX4) (N := 21) hx hb hts iX4 hown hK.1 hP 0 rfl rfl 9 (by decide) (hts (.fieldLink RX4 146 "NamedStreamsModel" "streams" "I") (by decide +kernel)) (fun _ h9 => h9) rfl dX4_begin_35 ?_
  refine lv_iconst (v := 0) hx hb dX4_begin_38 (by decide) ?_
  refine va_iast hx hb hK.1 hP hD hS 8 7 rfl rfl hs0 dX4_begin_39 (fun H locs hP hD hS => ?_)
  have hP : va_P D vwCl (wM bd cb sd pz tc st tr sc gr P Mn T Wt (vp_updL Rn (Int32.toNatClampNeg sc) r0) (upd Po (Int32.toNatClampNeg sc) p0) (upd Pl (Int32.toNatClampNeg sc) (0 : Int32)) (upd Sp (Int32.toNatClampNeg sc) (0 : Int32)) Ks Kp Kc Ik O As X) H := hP
  have hD : va_D A (wM bd cb sd pz tc st tr sc gr P Mn T Wt (vp_updL Rn (Int32.toNatClampNeg sc) r0) (upd Po (Int32.toNatClampNeg sc) p0) (upd Pl (Int32.toNatClampNeg sc) (0 : Int32)) (upd Sp (Int32.toNatClampNeg sc) (0 : Int32)) Ks Kp Kc Ik O As X) := hD
  refine lv_aload_n hx hb dX4_begin_40 rfl (lv_at hl 0 rfl) ?_
  refine lv_dup hx hb dX4_begin_41 rfl ?_
  refine va_get (D := D) (ci := 4) (v := .int sc) (C := RX4) (T := TX4) (N := 21) hx hb hts iX4 hown hK.1 hP 0 rfl rfl 9 (by decide) (hts (.fieldLink RX4 146 "NamedStreamsModel" "streams" "I") (by decide +kernel)) (fun _ h9 => h9) rfl dX4_begin_42 ?_
  refine lv_iconst (v := 1) hx hb dX4_begin_45 (by decide) ?_
  refine lv_iadd hx hb dX4_begin_46 ?_
  refine lv_topi (fun z1 ez1 => ?_)
  refine va_put (D := D) (ci := 4) (v := .int z1) (ty := .int) (C := RX4) (T := TX4) (N := 21) hx hb hts iX4 tyX4 tyX4_ok nmX4 hown hK.1 hP hD hS 0 rfl rfl 9 (by decide) (hts (.fieldLink RX4 146 "NamedStreamsModel" "streams" "I") (by decide +kernel)) (fun _ h9 => h9) rfl (by decide +kernel) rfl rfl (Nat.le_of_ble_eq_true rfl) dX4_begin_47 (fun H locs hP hD hS => ?_)
  have hP : va_P D vwCl (wM bd cb sd pz tc st tr z1 gr P Mn T Wt (vp_updL Rn (Int32.toNatClampNeg sc) r0) (upd Po (Int32.toNatClampNeg sc) p0) (upd Pl (Int32.toNatClampNeg sc) (0 : Int32)) (upd Sp (Int32.toNatClampNeg sc) (0 : Int32)) Ks Kp Kc Ik O As X) H := hP
  have hD : va_D A (wM bd cb sd pz tc st tr z1 gr P Mn T Wt (vp_updL Rn (Int32.toNatClampNeg sc) r0) (upd Po (Int32.toNatClampNeg sc) p0) (upd Pl (Int32.toNatClampNeg sc) (0 : Int32)) (upd Sp (Int32.toNatClampNeg sc) (0 : Int32)) Ks Kp Kc Ik O As X) := hD
  refine lv_aload_n hx hb dX4_begin_50 rfl (lv_at hl 0 rfl) ?_
  refine va_get (D := D) (ci := 4) (v := .int z1) (C := RX4) (T := TX4) (N := 21) hx hb hts iX4 hown hK.1 hP 0 rfl rfl 9 (by decide) (hts (.fieldLink RX4 146 "NamedStreamsModel" "streams" "I") (by decide +kernel)) (fun _ h9 => h9) rfl dX4_begin_51 ?_
  refine lv_iconst (v := 1) hx hb dX4_begin_54 (by decide) ?_
  refine lv_isub hx hb dX4_begin_55 ?_
  exact nk_retI (g := _) (z1, (vp_updL Rn (Int32.toNatClampNeg sc) r0), (upd Po (Int32.toNatClampNeg sc) p0), (upd Pl (Int32.toNatClampNeg sc) (0 : Int32)), (upd Sp (Int32.toNatClampNeg sc) (0 : Int32))) hx hb hr hlocks hP hD hS dX4_begin_56 (by subst ez1; rfl)

set_option maxHeartbeats 800000 in
set_option maxRecDepth 100000 in
theorem mX4_open (l : Launch) (D : va_G) (bd : Nat → Nat) (cb : Nat → ClassId) (sd : Int64) (pz : Int32) (tc : Int32) (st : Int32) (tr : Int32) (gr : Int32) (P : Nat → Int64) (Mn : Nat → Int32) (T : Nat → Int64) (Wt : Nat → Int64) (Rn : Nat → Int64) (Po : Nat → Int32) (Pl : Nat → Int32) (Sp : Nat → Int32) (Ks : Nat → Int32) (Kp : Nat → Int32) (Kc : Nat → Int32) (Ik : Nat → Int32) (O : Nat → Int32) (As : Nat → Int64) (X : va_W) (nc : Nat) (r0 : Int64) (p0 : Int32) (hc0 : nc ≤ 8) : nkMI l yX4_open wsX4_open ({ frames := 2, cells := 0, slots := 0, locals := 46 }) D (tM cb) [.ref (bd 0), .long r0, .int p0] (wM bd cb sd pz tc st tr (nI nc) gr P Mn T Wt Rn Po Pl Sp Ks Kp Kc Ik O As X) (fun u : sBg => wM bd cb sd pz tc st tr u.1 gr P Mn T Wt u.2.1 u.2.2.1 u.2.2.2.1 u.2.2.2.2 Ks Kp Kc Ik O As X) (fun r u => mOpen pz (nI nc) Rn Po Pl Sp r0 p0 = (r, u)) 0 0 := by
  refine nk_ofM (Qf := fun A => va_Qi (fun r u => mOpen pz (nI nc) Rn Po Pl Sp r0 p0 = (r, u)) (nkB D A (fun u : sBg => wM bd cb sd pz tc st tr u.1 gr P Mn T Wt u.2.1 u.2.2.1 u.2.2.2.1 u.2.2.2.2 Ks Kp Kc Ik O As X)) A) (cc := cX4_open) (maxL := 4) (ret := (some .int)) (by decide) rfl (Nat.le_of_ble_eq_true rfl) ?_
  intro p e s m below meth c A hx hb hr hml hts hown hlocks hin hK hP hD hA hS ls hl
  replace hown : s.vm.findClass RX4 = some m.cls := hown
  replace hl : lv_has ls 4 [(0, .ref (bd 0)), (1, .long r0), (3, .int p0)] := hl
  have hP : va_P D vwCl (wM bd cb sd pz tc st tr (nI nc) gr P Mn T Wt Rn Po Pl Sp Ks Kp Kc Ik O As X) s.heap := hP
  have iX4 : ∀ w ∈ u_ws RX4 TX4 21, w ∈ wsX4_open := by decide +kernel
  refine lv_aload_n hx hb dX4_open_0 rfl (lv_at hl 0 rfl) ?_
  refine lv_iload_n hx hb dX4_open_1 rfl (lv_at hl 2 rfl) ?_
  refine nk_VRI (As := [.int p0]) (rest := []) ⟨hx, hb, hml, hown, hts⟩ (mX4_isPath l D bd cb sd pz tc st tr (nI nc) gr P Mn T Wt Rn Po Pl Sp Ks Kp Kc Ik O As X p0) (cwV 1 hts gX4_open_X4_isPath rfl rfl rfl (by decide +kernel) ⟨Nat.le_of_ble_eq_true rfl, Nat.le_of_ble_eq_true rfl⟩) hK hP 0 4 rfl rfl rfl rfl hl.1 rfl (Nat.le_of_ble_eq_true rfl) dX4_open_2 ⟨Nat.le_of_ble_eq_true rfl, Nat.le_of_ble_eq_true rfl⟩ (fun r1 hr1 => ?_)
  subst hr1
  refine lv_if_ne (tgt := 10) hx hb dX4_open_5 (by decide) (fun c5 => ?_) (fun c5 => ?_)
  · skip
    refine lv_aload_n hx hb dX4_open_10 rfl (lv_at hl 0 rfl) ?_
    refine va_get (D := D) (ci := 4) (v := .int (nI nc)) (C := RX4) (T := TX4) (N := 21) hx hb hts iX4 hown hK.1 hP 0 rfl rfl 9 (by decide) (hts (.fieldLink RX4 146 "NamedStreamsModel" "streams" "I") (by decide +kernel)) (fun _ h9 => h9) rfl dX4_open_11 ?_
    refine lv_bipush (v := 8) hx hb dX4_open_14 (by decide) ?_
    refine lv_icmp_ne (tgt := 24) hx hb dX4_open_16 (by decide) (fun c16 => ?_) (fun c16 => ?_)
    · skip
      refine lv_aload_n hx hb dX4_open_24 rfl (lv_at hl 0 rfl) ?_
      refine lv_lload_n hx hb dX4_open_25 rfl (lv_at hl 1 rfl) ?_
      refine lv_iload_n hx hb dX4_open_26 rfl (lv_at hl 2 rfl) ?_
      refine nk_VI (As := [.long r0, .int p0]) (rest := []) ⟨hx, hb, hml, hown, hts⟩ (mX4_begin l D bd cb sd pz tc st tr (nI nc) gr P Mn T Wt Rn Po Pl Sp Ks Kp Kc Ik O As X r0 p0 (vp_in_nI (ns_neLt c16 rfl hc0 (by decide)) (by decide))) (cwV 2 hts gX4_open_X4_begin rfl rfl rfl (by decide +kernel) ⟨Nat.le_of_ble_eq_true rfl, Nat.le_of_ble_eq_true rfl⟩) hK hP hD hS hA 0 4 rfl rfl rfl rfl hl.1 rfl (Nat.le_of_ble_eq_true rfl) dX4_open_27 ⟨Nat.le_of_ble_eq_true rfl, Nat.le_of_ble_eq_true rfl⟩ (fun r2 ur2 H locs hr2 hP hD hS => ?_)
      obtain ⟨rfl, rfl⟩ : r2 = (mBegin (nI nc) Rn Po Pl Sp r0 p0).1 ∧ ur2 = (mBegin (nI nc) Rn Po Pl Sp r0 p0).2 := by rw [hr2]; exact ⟨rfl, rfl⟩
      have hP : va_P D vwCl (wM bd cb sd pz tc st tr ((mBegin (nI nc) Rn Po Pl Sp r0 p0).2.1) gr P Mn T Wt ((mBegin (nI nc) Rn Po Pl Sp r0 p0).2.2.1) ((mBegin (nI nc) Rn Po Pl Sp r0 p0).2.2.2.1) ((mBegin (nI nc) Rn Po Pl Sp r0 p0).2.2.2.2.1) ((mBegin (nI nc) Rn Po Pl Sp r0 p0).2.2.2.2.2) Ks Kp Kc Ik O As X) H := hP
      have hD : va_D A (wM bd cb sd pz tc st tr ((mBegin (nI nc) Rn Po Pl Sp r0 p0).2.1) gr P Mn T Wt ((mBegin (nI nc) Rn Po Pl Sp r0 p0).2.2.1) ((mBegin (nI nc) Rn Po Pl Sp r0 p0).2.2.2.1) ((mBegin (nI nc) Rn Po Pl Sp r0 p0).2.2.2.2.1) ((mBegin (nI nc) Rn Po Pl Sp r0 p0).2.2.2.2.2) Ks Kp Kc Ik O As X) := hD
      exact nk_retI (g := _) ((mBegin (nI nc) Rn Po Pl Sp r0 p0).2.1, (mBegin (nI nc) Rn Po Pl Sp r0 p0).2.2.1, (mBegin (nI nc) Rn Po Pl Sp r0 p0).2.2.2.1, (mBegin (nI nc) Rn Po Pl Sp r0 p0).2.2.2.2.1, (mBegin (nI nc) Rn Po Pl Sp r0 p0).2.2.2.2.2) hx hb hr hlocks hP hD hS dX4_open_30 (by exact ((if_neg c5).trans (if_neg c16)))
    · skip
      refine lv_bipush (v := -2) hx hb dX4_open_19 (by decide) ?_
      refine lv_goto (tgt := 30) hx hb dX4_open_21 (by decide) ?_
      exact nk_retI (g := _) ((nI nc), Rn, Po, Pl, Sp) hx hb hr hlocks hP hD hS dX4_open_30 (by exact ((if_neg c5).trans (if_pos c16)))
  · skip
    refine lv_iconst (v := -1) hx hb dX4_open_8 (by decide) ?_
    exact nk_retI (g := _) ((nI nc), Rn, Po, Pl, Sp) hx hb hr hlocks hP hD hS dX4_open_9 (by exact (if_pos c5))

set_option maxHeartbeats 800000 in
set_option maxRecDepth 100000 in
theorem mX4_next (l : Launch) (D : va_G) (bd : Nat → Nat) (cb : Nat → ClassId) (sd : Int64) (pz : Int32) (tc : Int32) (st : Int32) (tr : Int32) (gr : Int32) (P : Nat → Int64) (Mn : Nat → Int32) (T : Nat → Int64) (Wt : Nat → Int64) (Rn : Nat → Int64) (Po : Nat → Int32) (Pl : Nat → Int32) (Sp : Nat → Int32) (Ks : Nat → Int32) (Kp : Nat → Int32) (Kc : Nat → Int32) (Ik : Nat → Int32) (O : Nat → Int32) (As : Nat → Int64) (X : va_W) (nc : Nat) (i0 : Int32) (n0 : Int64) (hc0 : nc ≤ 8) (hW : ¬ mIs (nI nc) i0 = 0 → vp_in (Po i0.toNatClampNeg) 24 ∧ vp_in (Mn (Po i0.toNatClampNeg).toNatClampNeg) 5) : nkML l yX4_next wsX4_next ({ frames := 4, cells := 0, slots := 0, locals := 105 }) D (tM cb) [.ref (bd 0), .int i0, .long n0] (wM bd cb sd pz tc st tr (nI nc) gr P Mn T Wt Rn Po Pl Sp Ks Kp Kc Ik O As X) (fun u : Int32 × (Nat → Int32) => wM bd cb sd pz tc st u.1 (nI nc) gr P Mn T Wt Rn Po u.2 Sp Ks Kp Kc Ik O As X) (fun r u => mNext sd P Mn (nI nc) Rn Po Pl i0 n0 tr = (r, u)) 0 0 := by
  refine nk_ofM (Qf := fun A => va_Ql (fun r u => mNext sd P Mn (nI nc) Rn Po Pl i0 n0 tr = (r, u)) (nkB D A (fun u : Int32 × (Nat → Int32) => wM bd cb sd pz tc st u.1 (nI nc) gr P Mn T Wt Rn Po u.2 Sp Ks Kp Kc Ik O As X)) A) (cc := cX4_next) (maxL := 6) (ret := (some .long)) (by decide) rfl (Nat.le_of_ble_eq_true rfl) ?_
  intro p e s m below meth c A hx hb hr hml hts hown hlocks hin hK hP hD hA hS ls hl
  replace hown : s.vm.findClass RX4 = some m.cls := hown
  replace hl : lv_has ls 6 [(0, .ref (bd 0)), (1, .int i0), (2, .long n0)] := hl
  have hP : va_P D vwCl (wM bd cb sd pz tc st tr (nI nc) gr P Mn T Wt Rn Po Pl Sp Ks Kp Kc Ik O As X) s.heap := hP
  have iX4 : ∀ w ∈ u_ws RX4 TX4 21, w ∈ wsX4_next := by decide +kernel
  refine lv_lload_n hx hb dX4_next_0 rfl (lv_at hl 2 rfl) ?_
  refine lv_lconst (v := 0) hx hb dX4_next_1 (by decide) ?_
  refine W.lcmp hx hb dX4_next_2 ?_
  refine lv_if_lt (tgt := 25) hx hb dX4_next_3 (by decide) (fun c3 => ?_) (fun c3 => ?_)
  · skip
    have c3 : n0 < (0 : Int64) := (lg_cmp_lt _ _).mp c3
    refine lv_ldc2 (v := -1) hx hb hown (hts (.constantLong RX4 118 (-1)) (by decide +kernel)) dX4_next_25 ?_
    exact nk_retL (g := _) (tr, Pl) hx hb hr hlocks hP hD hS dX4_next_28 (by exact (if_pos c3))
  · skip
    have c3 : ¬ (n0 < (0 : Int64)) := fun h => c3 ((lg_cmp_lt _ _).mpr h)
    refine lv_aload_n hx hb dX4_next_6 rfl (lv_at hl 0 rfl) ?_
    refine lv_iload_n hx hb dX4_next_7 rfl (lv_at hl 1 rfl) ?_
    refine nk_VRI (As := [.int i0]) (rest := []) ⟨hx, hb, hml, hown, hts⟩ (mX4_isStream l D bd cb sd pz tc st tr (nI nc) gr P Mn T Wt Rn Po Pl Sp Ks Kp Kc Ik O As X i0) (cwV 1 hts gX4_next_X4_isStream rfl rfl rfl (by decide +kernel) ⟨Nat.le_of_ble_eq_true rfl, Nat.le_of_ble_eq_true rfl⟩) hK hP 0 4 rfl rfl rfl rfl hl.1 rfl (Nat.le_of_ble_eq_true rfl) dX4_next_8 ⟨Nat.le_of_ble_eq_true rfl, Nat.le_of_ble_eq_true rfl⟩ (fun r1 hr1 => ?_)
    subst hr1
    refine lv_if_eq (tgt := 25) hx hb dX4_next_11 (by decide) (fun c11 => ?_) (fun c11 => ?_)
    · skip
      refine lv_ldc2 (v := -1) hx hb hown (hts (.constantLong RX4 118 (-1)) (by decide +kernel)) dX4_next_25 ?_
      exact nk_retL (g := _) (tr, Pl) hx hb hr hlocks hP hD hS dX4_next_28 (by exact ((if_neg c3).trans (if_pos c11)))
    · skip
      refine lv_aload_n hx hb dX4_next_14 rfl (lv_at hl 0 rfl) ?_
      refine va_get (D := D) (ci := 4) (v := .ref (bd 7)) (C := RX4) (T := TX4) (N := 21) hx hb hts iX4 hown hK.1 hP 0 rfl rfl 12 (by decide) (hts (.fieldLink RX4 29 "NamedStreamsModel" "place" "[I") (by decide +kernel)) (fun _ h9 => h9) rfl dX4_next_15 ?_
      refine lv_iload_n hx hb dX4_next_18 rfl (lv_at hl 1 rfl) ?_
      refine va_iald hx hb hK.1 hP 7 6 rfl rfl ((mIs_in c11 (Nat.le_trans hc0 (by decide))).mono hc0) dX4_next_19 ?_
      refine lv_ldc (v := 2147483647) hx hb hown (hts (.constant RX4 156 (2147483647)) (by decide +kernel)) dX4_next_20 ?_
      refine lv_icmp_ne (tgt := 29) hx hb dX4_next_22 (by decide) (fun c22 => ?_) (fun c22 => ?_)
      · skip
        refine lv_lload_n hx hb dX4_next_29 rfl (lv_at hl 2 rfl) ?_
        refine lv_lconst (v := 0) hx hb dX4_next_30 (by decide) ?_
        refine W.lcmp hx hb dX4_next_31 ?_
        refine lv_if_ne (tgt := 39) hx hb dX4_next_32 (by decide) (fun c32 => ?_) (fun c32 => ?_)
        · skip
          have c32 : ¬ (n0 = (0 : Int64)) := fun h => c32 ((lg_cmp_eq _ _).mpr h)
          refine lv_aload_n hx hb dX4_next_39 rfl (lv_at hl 0 rfl) ?_
          refine lv_aload_n hx hb dX4_next_40 rfl (lv_at hl 0 rfl) ?_
          refine va_get (D := D) (ci := 4) (v := .ref (bd 5)) (C := RX4) (T := TX4) (N := 21) hx hb hts iX4 hown hK.1 hP 0 rfl rfl 10 (by decide) (hts (.fieldLink RX4 23 "NamedStreamsModel" "run" "[J") (by decide +kernel)) (fun _ h9 => h9) rfl dX4_next_41 ?_
          refine lv_iload_n hx hb dX4_next_44 rfl (lv_at hl 1 rfl) ?_
          refine va_lald hx hb hK.1 hP 5 4 rfl rfl ((mIs_in c11 (Nat.le_trans hc0 (by decide))).mono hc0) dX4_next_45 ?_
          refine lv_aload_n hx hb dX4_next_46 rfl (lv_at hl 0 rfl) ?_
          refine va_get (D := D) (ci := 4) (v := .ref (bd 6)) (C := RX4) (T := TX4) (N := 21) hx hb hts iX4 hown hK.1 hP 0 rfl rfl 11 (by decide) (hts (.fieldLink RX4 26 "NamedStreamsModel" "pathOf" "[I") (by decide +kernel)) (fun _ h9 => h9) rfl dX4_next_47 ?_
          refine lv_iload_n hx hb dX4_next_50 rfl (lv_at hl 1 rfl) ?_
          refine va_iald hx hb hK.1 hP 6 5 rfl rfl ((mIs_in c11 (Nat.le_trans hc0 (by decide))).mono hc0) dX4_next_51 ?_
          refine lv_aload_n hx hb dX4_next_52 rfl (lv_at hl 0 rfl) ?_
          refine va_get (D := D) (ci := 4) (v := .ref (bd 7)) (C := RX4) (T := TX4) (N := 21) hx hb hts iX4 hown hK.1 hP 0 rfl rfl 12 (by decide) (hts (.fieldLink RX4 29 "NamedStreamsModel" "place" "[I") (by decide +kernel)) (fun _ h9 => h9) rfl dX4_next_53 ?_
          refine lv_iload_n hx hb dX4_next_56 rfl (lv_at hl 1 rfl) ?_
          refine va_iald hx hb hK.1 hP 7 6 rfl rfl ((mIs_in c11 (Nat.le_trans hc0 (by decide))).mono hc0) dX4_next_57 ?_
          refine lv_lload_n hx hb dX4_next_58 rfl (lv_at hl 2 rfl) ?_
          refine nk_VL (As := [.long (Rn (Int32.toNatClampNeg i0)), .int (Po (Int32.toNatClampNeg i0)), .int (Pl (Int32.toNatClampNeg i0)), .long n0]) (rest := []) ⟨hx, hb, hml, hown, hts⟩ (mX4_draw l D bd cb sd pz tc st tr (nI nc) gr P Mn T Wt Rn Po Pl Sp Ks Kp Kc Ik O As X (Rn (Int32.toNatClampNeg i0)) (Po (Int32.toNatClampNeg i0)) (Pl (Int32.toNatClampNeg i0)) n0 (hW c11).1 (hW c11).2 c32) (cwV 4 hts gX4_next_X4_draw rfl rfl rfl (by decide +kernel) ⟨Nat.le_of_ble_eq_true rfl, Nat.le_of_ble_eq_true rfl⟩) hK hP hD hS hA 0 4 rfl rfl rfl rfl hl.1 rfl (Nat.le_of_ble_eq_true rfl) dX4_next_59 ⟨Nat.le_of_ble_eq_true rfl, Nat.le_of_ble_eq_true rfl⟩ (fun r2 ur2 H locs hr2 hP hD hS => ?_)
          obtain ⟨rfl, rfl⟩ : r2 = (mSpan (fBase sd (Rn (Int32.toNatClampNeg i0)) (mKey P Mn (Po (Int32.toNatClampNeg i0)))) (32 * Int32.toInt64 (Pl (Int32.toNatClampNeg i0))) n0 tr).1 ∧ ur2 = (mSpan (fBase sd (Rn (Int32.toNatClampNeg i0)) (mKey P Mn (Po (Int32.toNatClampNeg i0)))) (32 * Int32.toInt64 (Pl (Int32.toNatClampNeg i0))) n0 tr).2 := by rw [hr2]; exact ⟨rfl, rfl⟩
          have hP : va_P D vwCl (wM bd cb sd pz tc st ((mSpan (fBase sd (Rn (Int32.toNatClampNeg i0)) (mKey P Mn (Po (Int32.toNatClampNeg i0)))) (32 * Int32.toInt64 (Pl (Int32.toNatClampNeg i0))) n0 tr).2) (nI nc) gr P Mn T Wt Rn Po Pl Sp Ks Kp Kc Ik O As X) H := hP
          have hD : va_D A (wM bd cb sd pz tc st ((mSpan (fBase sd (Rn (Int32.toNatClampNeg i0)) (mKey P Mn (Po (Int32.toNatClampNeg i0)))) (32 * Int32.toInt64 (Pl (Int32.toNatClampNeg i0))) n0 tr).2) (nI nc) gr P Mn T Wt Rn Po Pl Sp Ks Kp Kc Ik O As X) := hD
          refine lv_topl (fun z3 ez3 => ?_)
          refine lv_lstore (lv' := [(4, .long z3), (0, .ref (bd 0)), (1, .int i0), (2, .long n0)]) hx hb dX4_next_62 hl (by decide) rfl (fun ls hl => ?_)
          refine lv_aload_n hx hb dX4_next_64 rfl (lv_at hl 1 rfl) ?_
          refine va_get (D := D) (ci := 4) (v := .ref (bd 7)) (C := RX4) (T := TX4) (N := 21) hx hb hts iX4 hown hK.1 hP 0 rfl rfl 12 (by decide) (hts (.fieldLink RX4 29 "NamedStreamsModel" "place" "[I") (by decide +kernel)) (fun _ h9 => h9) rfl dX4_next_65 ?_
          refine lv_iload_n hx hb dX4_next_68 rfl (lv_at hl 2 rfl) ?_
          refine lv_dup2_11 hx hb dX4_next_69 rfl rfl ?_
          refine va_iald hx hb hK.1 hP 7 6 rfl rfl ((mIs_in c11 (Nat.le_trans hc0 (by decide))).mono hc0) dX4_next_70 ?_
          refine lv_iconst (v := 1) hx hb dX4_next_71 (by decide) ?_
          refine lv_iadd hx hb dX4_next_72 ?_
          refine lv_topi (fun z4 ez4 => ?_)
          refine va_iast hx hb hK.1 hP hD hS 7 6 rfl rfl ((mIs_in c11 (Nat.le_trans hc0 (by decide))).mono hc0) dX4_next_73 (fun H locs hP hD hS => ?_)
          have hP : va_P D vwCl (wM bd cb sd pz tc st ((mSpan (fBase sd (Rn (Int32.toNatClampNeg i0)) (mKey P Mn (Po (Int32.toNatClampNeg i0)))) (32 * Int32.toInt64 (Pl (Int32.toNatClampNeg i0))) n0 tr).2) (nI nc) gr P Mn T Wt Rn Po (upd Pl (Int32.toNatClampNeg i0) z4) Sp Ks Kp Kc Ik O As X) H := hP
          have hD : va_D A (wM bd cb sd pz tc st ((mSpan (fBase sd (Rn (Int32.toNatClampNeg i0)) (mKey P Mn (Po (Int32.toNatClampNeg i0)))) (32 * Int32.toInt64 (Pl (Int32.toNatClampNeg i0))) n0 tr).2) (nI nc) gr P Mn T Wt Rn Po (upd Pl (Int32.toNatClampNeg i0) z4) Sp Ks Kp Kc Ik O As X) := hD
          refine lv_lload hx hb dX4_next_74 (lv_at hl 0 rfl) ?_
          exact nk_retL (g := _) ((mSpan (fBase sd (Rn (Int32.toNatClampNeg i0)) (mKey P Mn (Po (Int32.toNatClampNeg i0)))) (32 * Int32.toInt64 (Pl (Int32.toNatClampNeg i0))) n0 tr).2, (upd Pl (Int32.toNatClampNeg i0) z4)) hx hb hr hlocks hP hD hS dX4_next_76 (by subst ez3; subst ez4; exact ((if_neg c3).trans ((if_neg c11).trans ((if_neg c22).trans (if_neg c32)))))
        · skip
          have c32 : n0 = (0 : Int64) := (lg_cmp_eq _ _).mp c32
          refine lv_ldc2 (v := -4) hx hb hown (hts (.constantLong RX4 120 (-4)) (by decide +kernel)) dX4_next_35 ?_
          exact nk_retL (g := _) (tr, Pl) hx hb hr hlocks hP hD hS dX4_next_38 (by exact ((if_neg c3).trans ((if_neg c11).trans ((if_neg c22).trans (if_pos c32)))))
      · skip
        refine lv_ldc2 (v := -1) hx hb hown (hts (.constantLong RX4 118 (-1)) (by decide +kernel)) dX4_next_25 ?_
        exact nk_retL (g := _) (tr, Pl) hx hb hr hlocks hP hD hS dX4_next_28 (by exact ((if_neg c3).trans ((if_neg c11).trans (if_pos c22))))

set_option maxHeartbeats 800000 in
set_option maxRecDepth 100000 in
theorem mX4_nextPick (l : Launch) (D : va_G) (bd : Nat → Nat) (cb : Nat → ClassId) (sd : Int64) (pz : Int32) (tc : Int32) (st : Int32) (tr : Int32) (gr : Int32) (P : Nat → Int64) (Mn : Nat → Int32) (T : Nat → Int64) (Wt : Nat → Int64) (Rn : Nat → Int64) (Po : Nat → Int32) (Pl : Nat → Int32) (Sp : Nat → Int32) (Ks : Nat → Int32) (Kp : Nat → Int32) (Kc : Nat → Int32) (Ik : Nat → Int32) (O : Nat → Int32) (As : Nat → Int64) (X : va_W) (nc : Nat) (i0 : Int32) (hc0 : nc ≤ 8) (hW : ¬ mIs (nI nc) i0 = 0 → vp_in (Po i0.toNatClampNeg) 24 ∧ vp_in (Mn (Po i0.toNatClampNeg).toNatClampNeg) 5) : nkMI l yX4_nextPick wsX4_nextPick ({ frames := 5, cells := 0, slots := 0, locals := 136 }) D (tM cb) [.ref (bd 0), .int i0] (wM bd cb sd pz tc st tr (nI nc) gr P Mn T Wt Rn Po Pl Sp Ks Kp Kc Ik O As X) (fun u : Int32 × Int32 × (Nat → Int32) => wM bd cb sd pz tc st u.1 (nI nc) u.2.1 P Mn T Wt Rn Po u.2.2 Sp Ks Kp Kc Ik O As X) (fun r u => mNPick sd P Mn (nI nc) Wt Rn Po Pl i0 tr gr = (r, u)) 0 0 := by
  refine nk_ofM (Qf := fun A => va_Qi (fun r u => mNPick sd P Mn (nI nc) Wt Rn Po Pl i0 tr gr = (r, u)) (nkB D A (fun u : Int32 × Int32 × (Nat → Int32) => wM bd cb sd pz tc st u.1 (nI nc) u.2.1 P Mn T Wt Rn Po u.2.2 Sp Ks Kp Kc Ik O As X)) A) (cc := cX4_nextPick) (maxL := 5) (ret := (some .int)) (by decide) rfl (Nat.le_of_ble_eq_true rfl) ?_
  intro p e s m below meth c A hx hb hr hml hts hown hlocks hin hK hP hD hA hS ls hl
  replace hown : s.vm.findClass RX4 = some m.cls := hown
  replace hl : lv_has ls 5 [(0, .ref (bd 0)), (1, .int i0)] := hl
  have hP : va_P D vwCl (wM bd cb sd pz tc st tr (nI nc) gr P Mn T Wt Rn Po Pl Sp Ks Kp Kc Ik O As X) s.heap := hP
  have iX4 : ∀ w ∈ u_ws RX4 TX4 21, w ∈ wsX4_nextPick := by decide +kernel
  refine lv_aload_n hx hb dX4_nextPick_0 rfl (lv_at hl 0 rfl) ?_
  refine lv_iload_n hx hb dX4_nextPick_1 rfl (lv_at hl 1 rfl) ?_
  refine nk_VRI (As := [.int i0]) (rest := []) ⟨hx, hb, hml, hown, hts⟩ (mX4_isStream l D bd cb sd pz tc st tr (nI nc) gr P Mn T Wt Rn Po Pl Sp Ks Kp Kc Ik O As X i0) (cwV 1 hts gX4_nextPick_X4_isStream rfl rfl rfl (by decide +kernel) ⟨Nat.le_of_ble_eq_true rfl, Nat.le_of_ble_eq_true rfl⟩) hK hP 0 4 rfl rfl rfl rfl hl.1 rfl (Nat.le_of_ble_eq_true rfl) dX4_nextPick_2 ⟨Nat.le_of_ble_eq_true rfl, Nat.le_of_ble_eq_true rfl⟩ (fun r1 hr1 => ?_)
  subst hr1
  refine lv_if_eq (tgt := 19) hx hb dX4_nextPick_5 (by decide) (fun c5 => ?_) (fun c5 => ?_)
  · skip
    refine lv_iconst (v := -1) hx hb dX4_nextPick_19 (by decide) ?_
    exact nk_retI (g := _) (tr, gr, Pl) hx hb hr hlocks hP hD hS dX4_nextPick_20 (by exact (if_pos c5))
  · skip
    refine lv_aload_n hx hb dX4_nextPick_8 rfl (lv_at hl 0 rfl) ?_
    refine va_get (D := D) (ci := 4) (v := .ref (bd 7)) (C := RX4) (T := TX4) (N := 21) hx hb hts iX4 hown hK.1 hP 0 rfl rfl 12 (by decide) (hts (.fieldLink RX4 29 "NamedStreamsModel" "place" "[I") (by decide +kernel)) (fun _ h9 => h9) rfl dX4_nextPick_9 ?_
    refine lv_iload_n hx hb dX4_nextPick_12 rfl (lv_at hl 1 rfl) ?_
    refine va_iald hx hb hK.1 hP 7 6 rfl rfl ((mIs_in c5 (Nat.le_trans hc0 (by decide))).mono hc0) dX4_nextPick_13 ?_
    refine lv_ldc (v := 2147483647) hx hb hown (hts (.constant RX4 156 (2147483647)) (by decide +kernel)) dX4_nextPick_14 ?_
    refine lv_icmp_ne (tgt := 21) hx hb dX4_nextPick_16 (by decide) (fun c16 => ?_) (fun c16 => ?_)
    · skip
      refine lv_aload_n hx hb dX4_nextPick_21 rfl (lv_at hl 0 rfl) ?_
      refine nk_VL (As := []) (rest := []) ⟨hx, hb, hml, hown, hts⟩ (mX4_sum l D bd cb sd pz tc st tr (nI nc) gr P Mn T Wt Rn Po Pl Sp Ks Kp Kc Ik O As X) (cwV 0 hts gX4_nextPick_X4_sum rfl rfl rfl (by decide +kernel) ⟨Nat.le_of_ble_eq_true rfl, Nat.le_of_ble_eq_true rfl⟩) hK hP hD hS hA 0 4 rfl rfl rfl rfl hl.1 rfl (Nat.le_of_ble_eq_true rfl) dX4_nextPick_22 ⟨Nat.le_of_ble_eq_true rfl, Nat.le_of_ble_eq_true rfl⟩ (fun r2 ur2 H locs hr2 hP hD hS => ?_)
      obtain ⟨rfl, rfl⟩ : r2 = (mSum Wt).1 ∧ ur2 = (mSum Wt).2 := by rw [hr2]; exact ⟨rfl, rfl⟩
      have hP : va_P D vwCl (wM bd cb sd pz tc st tr (nI nc) ((mSum Wt).2) P Mn T Wt Rn Po Pl Sp Ks Kp Kc Ik O As X) H := hP
      have hD : va_D A (wM bd cb sd pz tc st tr (nI nc) ((mSum Wt).2) P Mn T Wt Rn Po Pl Sp Ks Kp Kc Ik O As X) := hD
      refine lv_topl (fun z3 ez3 => ?_)
      refine lv_lstore_n (lv' := [(2, .long z3), (0, .ref (bd 0)), (1, .int i0)]) hx hb dX4_nextPick_25 rfl hl (by decide) rfl (fun ls hl => ?_)
      refine lv_aload_n hx hb dX4_nextPick_26 rfl (lv_at hl 1 rfl) ?_
      refine va_get (D := D) (ci := 4) (v := .int ((mSum Wt).2)) (C := RX4) (T := TX4) (N := 21) hx hb hts iX4 hown hK.1 hP 0 rfl rfl 18 (by decide) (hts (.fieldLink RX4 130 "NamedStreamsModel" "isGreat" "Z") (by decide +kernel)) (fun _ h9 => h9) rfl dX4_nextPick_27 ?_
      refine lv_if_ne (tgt := 39) hx hb dX4_nextPick_30 (by decide) (fun c30 => ?_) (fun c30 => ?_)
      · skip
        refine lv_aload_n hx hb dX4_nextPick_39 rfl (lv_at hl 1 rfl) ?_
        refine va_get (D := D) (ci := 4) (v := .int ((mSum Wt).2)) (C := RX4) (T := TX4) (N := 21) hx hb hts iX4 hown hK.1 hP 0 rfl rfl 18 (by decide) (hts (.fieldLink RX4 130 "NamedStreamsModel" "isGreat" "Z") (by decide +kernel)) (fun _ h9 => h9) rfl dX4_nextPick_40 ?_
        refine lv_if_eq (tgt := 51) hx hb dX4_nextPick_43 (by decide) (fun c43 => ?_) (fun c43 => ?_)
        · skip
          refine lv_bipush (v := -4) hx hb dX4_nextPick_51 (by decide) ?_
          exact nk_retI (g := _) (tr, (mSum Wt).2, Pl) hx hb hr hlocks hP hD hS dX4_nextPick_53 (by subst ez3; exact ((if_neg c5).trans ((if_neg c16).trans ((if_neg c30).trans (if_pos c43)))))
        · skip
          refine lv_bipush (v := -5) hx hb dX4_nextPick_46 (by decide) ?_
          refine lv_goto (tgt := 53) hx hb dX4_nextPick_48 (by decide) ?_
          exact nk_retI (g := _) (tr, (mSum Wt).2, Pl) hx hb hr hlocks hP hD hS dX4_nextPick_53 (by subst ez3; exact ((if_neg c5).trans ((if_neg c16).trans ((if_neg c30).trans (if_neg c43)))))
      · skip
        refine lv_lload_n hx hb dX4_nextPick_33 rfl (lv_at hl 0 rfl) ?_
        refine lv_lconst (v := 0) hx hb dX4_nextPick_34 (by decide) ?_
        refine W.lcmp hx hb dX4_nextPick_35 ?_
        refine lv_if_ne (tgt := 54) hx hb dX4_nextPick_36 (by decide) (fun c36 => ?_) (fun c36 => ?_)
        · skip
          have c36 : ¬ (z3 = (0 : Int64)) := fun h => c36 ((lg_cmp_eq _ _).mpr h)
          refine lv_aload_n hx hb dX4_nextPick_54 rfl (lv_at hl 1 rfl) ?_
          refine lv_aload_n hx hb dX4_nextPick_55 rfl (lv_at hl 1 rfl) ?_
          refine va_get (D := D) (ci := 4) (v := .ref (bd 5)) (C := RX4) (T := TX4) (N := 21) hx hb hts iX4 hown hK.1 hP 0 rfl rfl 10 (by decide) (hts (.fieldLink RX4 23 "NamedStreamsModel" "run" "[J") (by decide +kernel)) (fun _ h9 => h9) rfl dX4_nextPick_56 ?_
          refine lv_iload_n hx hb dX4_nextPick_59 rfl (lv_at hl 2 rfl) ?_
          refine va_lald hx hb hK.1 hP 5 4 rfl rfl ((mIs_in c5 (Nat.le_trans hc0 (by decide))).mono hc0) dX4_nextPick_60 ?_
          refine lv_aload_n hx hb dX4_nextPick_61 rfl (lv_at hl 1 rfl) ?_
          refine va_get (D := D) (ci := 4) (v := .ref (bd 6)) (C := RX4) (T := TX4) (N := 21) hx hb hts iX4 hown hK.1 hP 0 rfl rfl 11 (by decide) (hts (.fieldLink RX4 26 "NamedStreamsModel" "pathOf" "[I") (by decide +kernel)) (fun _ h9 => h9) rfl dX4_nextPick_62 ?_
          refine lv_iload_n hx hb dX4_nextPick_65 rfl (lv_at hl 2 rfl) ?_
          refine va_iald hx hb hK.1 hP 6 5 rfl rfl ((mIs_in c5 (Nat.le_trans hc0 (by decide))).mono hc0) dX4_nextPick_66 ?_
          refine lv_aload_n hx hb dX4_nextPick_67 rfl (lv_at hl 1 rfl) ?_
          refine va_get (D := D) (ci := 4) (v := .ref (bd 7)) (C := RX4) (T := TX4) (N := 21) hx hb hts iX4 hown hK.1 hP 0 rfl rfl 12 (by decide) (hts (.fieldLink RX4 29 "NamedStreamsModel" "place" "[I") (by decide +kernel)) (fun _ h9 => h9) rfl dX4_nextPick_68 ?_
          refine lv_iload_n hx hb dX4_nextPick_71 rfl (lv_at hl 2 rfl) ?_
          refine va_iald hx hb hK.1 hP 7 6 rfl rfl ((mIs_in c5 (Nat.le_trans hc0 (by decide))).mono hc0) dX4_nextPick_72 ?_
          refine lv_lload_n hx hb dX4_nextPick_73 rfl (lv_at hl 0 rfl) ?_
          refine nk_VI (As := [.long (Rn (Int32.toNatClampNeg i0)), .int (Po (Int32.toNatClampNeg i0)), .int (Pl (Int32.toNatClampNeg i0)), .long z3]) (rest := []) ⟨hx, hb, hml, hown, hts⟩ (mX4_picked l D bd cb sd pz tc st tr (nI nc) ((mSum Wt).2) P Mn T Wt Rn Po Pl Sp Ks Kp Kc Ik O As X (Rn (Int32.toNatClampNeg i0)) (Po (Int32.toNatClampNeg i0)) (Pl (Int32.toNatClampNeg i0)) z3 (hW c5).1 (hW c5).2 c36 (by subst ez3; exact mEx c30 c36)) (cwV 4 hts gX4_nextPick_X4_picked rfl rfl rfl (by decide +kernel) ⟨Nat.le_of_ble_eq_true rfl, Nat.le_of_ble_eq_true rfl⟩) hK hP hD hS hA 0 4 rfl rfl rfl rfl hl.1 rfl (Nat.le_of_ble_eq_true rfl) dX4_nextPick_74 ⟨Nat.le_of_ble_eq_true rfl, Nat.le_of_ble_eq_true rfl⟩ (fun r4 ur4 H locs hr4 hP hD hS => ?_)
          obtain ⟨rfl, rfl⟩ : r4 = (mPicked (fBase sd (Rn (Int32.toNatClampNeg i0)) (mKey P Mn (Po (Int32.toNatClampNeg i0)))) (32 * Int32.toInt64 (Pl (Int32.toNatClampNeg i0))) z3 Wt tr).1 ∧ ur4 = (mPicked (fBase sd (Rn (Int32.toNatClampNeg i0)) (mKey P Mn (Po (Int32.toNatClampNeg i0)))) (32 * Int32.toInt64 (Pl (Int32.toNatClampNeg i0))) z3 Wt tr).2 := by rw [hr4]; exact ⟨rfl, rfl⟩
          have hP : va_P D vwCl (wM bd cb sd pz tc st ((mPicked (fBase sd (Rn (Int32.toNatClampNeg i0)) (mKey P Mn (Po (Int32.toNatClampNeg i0)))) (32 * Int32.toInt64 (Pl (Int32.toNatClampNeg i0))) z3 Wt tr).2) (nI nc) ((mSum Wt).2) P Mn T Wt Rn Po Pl Sp Ks Kp Kc Ik O As X) H := hP
          have hD : va_D A (wM bd cb sd pz tc st ((mPicked (fBase sd (Rn (Int32.toNatClampNeg i0)) (mKey P Mn (Po (Int32.toNatClampNeg i0)))) (32 * Int32.toInt64 (Pl (Int32.toNatClampNeg i0))) z3 Wt tr).2) (nI nc) ((mSum Wt).2) P Mn T Wt Rn Po Pl Sp Ks Kp Kc Ik O As X) := hD
          refine lv_topi (fun z5 ez5 => ?_)
          refine lv_istore (lv' := [(4, .int z5), (2, .long z3), (0, .ref (bd 0)), (1, .int i0)]) hx hb dX4_nextPick_77 hl (by decide) rfl (fun ls hl => ?_)
          refine lv_aload_n hx hb dX4_nextPick_79 rfl (lv_at hl 2 rfl) ?_
          refine va_get (D := D) (ci := 4) (v := .ref (bd 7)) (C := RX4) (T := TX4) (N := 21) hx hb hts iX4 hown hK.1 hP 0 rfl rfl 12 (by decide) (hts (.fieldLink RX4 29 "NamedStreamsModel" "place" "[I") (by decide +kernel)) (fun _ h9 => h9) rfl dX4_nextPick_80 ?_
          refine lv_iload_n hx hb dX4_nextPick_83 rfl (lv_at hl 3 rfl) ?_
          refine lv_dup2_11 hx hb dX4_nextPick_84 rfl rfl ?_
          refine va_iald hx hb hK.1 hP 7 6 rfl rfl ((mIs_in c5 (Nat.le_trans hc0 (by decide))).mono hc0) dX4_nextPick_85 ?_
          refine lv_iconst (v := 1) hx hb dX4_nextPick_86 (by decide) ?_
          refine lv_iadd hx hb dX4_nextPick_87 ?_
          refine lv_topi (fun z6 ez6 => ?_)
          refine va_iast hx hb hK.1 hP hD hS 7 6 rfl rfl ((mIs_in c5 (Nat.le_trans hc0 (by decide))).mono hc0) dX4_nextPick_88 (fun H locs hP hD hS => ?_)
          have hP : va_P D vwCl (wM bd cb sd pz tc st ((mPicked (fBase sd (Rn (Int32.toNatClampNeg i0)) (mKey P Mn (Po (Int32.toNatClampNeg i0)))) (32 * Int32.toInt64 (Pl (Int32.toNatClampNeg i0))) z3 Wt tr).2) (nI nc) ((mSum Wt).2) P Mn T Wt Rn Po (upd Pl (Int32.toNatClampNeg i0) z6) Sp Ks Kp Kc Ik O As X) H := hP
          have hD : va_D A (wM bd cb sd pz tc st ((mPicked (fBase sd (Rn (Int32.toNatClampNeg i0)) (mKey P Mn (Po (Int32.toNatClampNeg i0)))) (32 * Int32.toInt64 (Pl (Int32.toNatClampNeg i0))) z3 Wt tr).2) (nI nc) ((mSum Wt).2) P Mn T Wt Rn Po (upd Pl (Int32.toNatClampNeg i0) z6) Sp Ks Kp Kc Ik O As X) := hD
          refine lv_iload hx hb dX4_nextPick_89 (lv_at hl 0 rfl) ?_
          exact nk_retI (g := _) ((mPicked (fBase sd (Rn (Int32.toNatClampNeg i0)) (mKey P Mn (Po (Int32.toNatClampNeg i0)))) (32 * Int32.toInt64 (Pl (Int32.toNatClampNeg i0))) z3 Wt tr).2, (mSum Wt).2, (upd Pl (Int32.toNatClampNeg i0) z6)) hx hb hr hlocks hP hD hS dX4_nextPick_91 (by subst ez3; subst ez5; subst ez6; exact ((if_neg c5).trans ((if_neg c16).trans ((if_pos c30).trans (if_neg c36)))))
        · skip
          have c36 : z3 = (0 : Int64) := (lg_cmp_eq _ _).mp c36
          refine lv_aload_n hx hb dX4_nextPick_39 rfl (lv_at hl 1 rfl) ?_
          refine va_get (D := D) (ci := 4) (v := .int ((mSum Wt).2)) (C := RX4) (T := TX4) (N := 21) hx hb hts iX4 hown hK.1 hP 0 rfl rfl 18 (by decide) (hts (.fieldLink RX4 130 "NamedStreamsModel" "isGreat" "Z") (by decide +kernel)) (fun _ h9 => h9) rfl dX4_nextPick_40 ?_
          refine lv_if_eq (tgt := 51) hx hb dX4_nextPick_43 (by decide) (fun c43 => ?_) (fun c43 => ?_)
          · skip
            refine lv_bipush (v := -4) hx hb dX4_nextPick_51 (by decide) ?_
            exact nk_retI (g := _) (tr, (mSum Wt).2, Pl) hx hb hr hlocks hP hD hS dX4_nextPick_53 (by subst ez3; exact ((if_neg c5).trans ((if_neg c16).trans ((if_pos c30).trans ((if_pos c36).trans (if_pos c43))))))
          · skip
            refine lv_bipush (v := -5) hx hb dX4_nextPick_46 (by decide) ?_
            refine lv_goto (tgt := 53) hx hb dX4_nextPick_48 (by decide) ?_
            exact nk_retI (g := _) (tr, (mSum Wt).2, Pl) hx hb hr hlocks hP hD hS dX4_nextPick_53 (by subst ez3; exact ((if_neg c5).trans ((if_neg c16).trans ((if_pos c30).trans ((if_pos c36).trans (if_neg c43))))))
    · skip
      refine lv_iconst (v := -1) hx hb dX4_nextPick_19 (by decide) ?_
      exact nk_retI (g := _) (tr, gr, Pl) hx hb hr hlocks hP hD hS dX4_nextPick_20 (by exact ((if_neg c5).trans (if_pos c16)))

set_option maxHeartbeats 800000 in
set_option maxRecDepth 100000 in
theorem mX4_skip (l : Launch) (D : va_G) (bd : Nat → Nat) (cb : Nat → ClassId) (sd : Int64) (pz : Int32) (tc : Int32) (st : Int32) (tr : Int32) (gr : Int32) (P : Nat → Int64) (Mn : Nat → Int32) (T : Nat → Int64) (Wt : Nat → Int64) (Rn : Nat → Int64) (Po : Nat → Int32) (Pl : Nat → Int32) (Sp : Nat → Int32) (Ks : Nat → Int32) (Kp : Nat → Int32) (Kc : Nat → Int32) (Ik : Nat → Int32) (O : Nat → Int32) (As : Nat → Int64) (X : va_W) (nc : Nat) (i0 n0 : Int32) (hc0 : nc ≤ 8) : nkMI l yX4_skip wsX4_skip ({ frames := 2, cells := 0, slots := 0, locals := 46 }) D (tM cb) [.ref (bd 0), .int i0, .int n0] (wM bd cb sd pz tc st tr (nI nc) gr P Mn T Wt Rn Po Pl Sp Ks Kp Kc Ik O As X) (fun u : Nat → Int32 => wM bd cb sd pz tc st tr (nI nc) gr P Mn T Wt Rn Po u Sp Ks Kp Kc Ik O As X) (fun r u => mSkip (nI nc) Pl i0 n0 = (r, u)) 0 0 := by
  refine nk_ofM (Qf := fun A => va_Qi (fun r u => mSkip (nI nc) Pl i0 n0 = (r, u)) (nkB D A (fun u : Nat → Int32 => wM bd cb sd pz tc st tr (nI nc) gr P Mn T Wt Rn Po u Sp Ks Kp Kc Ik O As X)) A) (cc := cX4_skip) (maxL := 3) (ret := (some .int)) (by decide) rfl (Nat.le_of_ble_eq_true rfl) ?_
  intro p e s m below meth c A hx hb hr hml hts hown hlocks hin hK hP hD hA hS ls hl
  replace hown : s.vm.findClass RX4 = some m.cls := hown
  replace hl : lv_has ls 3 [(0, .ref (bd 0)), (1, .int i0), (2, .int n0)] := hl
  have hP : va_P D vwCl (wM bd cb sd pz tc st tr (nI nc) gr P Mn T Wt Rn Po Pl Sp Ks Kp Kc Ik O As X) s.heap := hP
  have iX4 : ∀ w ∈ u_ws RX4 TX4 21, w ∈ wsX4_skip := by decide +kernel
  refine lv_aload_n hx hb dX4_skip_0 rfl (lv_at hl 0 rfl) ?_
  refine lv_iload_n hx hb dX4_skip_1 rfl (lv_at hl 1 rfl) ?_
  refine nk_VRI (As := [.int i0]) (rest := []) ⟨hx, hb, hml, hown, hts⟩ (mX4_isStream l D bd cb sd pz tc st tr (nI nc) gr P Mn T Wt Rn Po Pl Sp Ks Kp Kc Ik O As X i0) (cwV 1 hts gX4_skip_X4_isStream rfl rfl rfl (by decide +kernel) ⟨Nat.le_of_ble_eq_true rfl, Nat.le_of_ble_eq_true rfl⟩) hK hP 0 4 rfl rfl rfl rfl hl.1 rfl (Nat.le_of_ble_eq_true rfl) dX4_skip_2 ⟨Nat.le_of_ble_eq_true rfl, Nat.le_of_ble_eq_true rfl⟩ (fun r1 hr1 => ?_)
  subst hr1
  refine lv_if_eq (tgt := 37) hx hb dX4_skip_5 (by decide) (fun c5 => ?_) (fun c5 => ?_)
  · skip
    refine lv_iconst (v := -1) hx hb dX4_skip_37 (by decide) ?_
    exact nk_retI (g := _) Pl hx hb hr hlocks hP hD hS dX4_skip_38 (by exact (if_pos c5))
  · skip
    refine lv_iload_n hx hb dX4_skip_8 rfl (lv_at hl 2 rfl) ?_
    refine lv_i2l hx hb dX4_skip_9 rfl ?_
    refine lv_lconst (v := 0) hx hb dX4_skip_10 (by decide) ?_
    refine lv_ldc2 (v := 1000000000) hx hb hown (hts (.constantLong RX4 157 (1000000000)) (by decide +kernel)) dX4_skip_11 ?_
    refine nk_SSI (As := [.long (Int32.toInt64 n0), .long (0 : Int64), .long (1000000000 : Int64)]) (rest := []) ⟨hx, hb, hml, hown, hts⟩ (mX4_in l (Int32.toInt64 n0) (0 : Int64) (1000000000 : Int64)) (va_cwS 3 hts gX4_skip_X4_in rfl rfl rfl (by decide +kernel) ⟨Nat.le_of_ble_eq_true rfl, Nat.le_of_ble_eq_true rfl⟩) rfl hl.1 rfl (Nat.le_of_ble_eq_true rfl) dX4_skip_14 ⟨Nat.le_of_ble_eq_true rfl, Nat.le_of_ble_eq_true rfl⟩ (fun r2 hr2 => ?_)
    subst hr2
    refine lv_if_eq (tgt := 37) hx hb dX4_skip_17 (by decide) (fun c17 => ?_) (fun c17 => ?_)
    · skip
      refine lv_iconst (v := -1) hx hb dX4_skip_37 (by decide) ?_
      exact nk_retI (g := _) Pl hx hb hr hlocks hP hD hS dX4_skip_38 (by exact ((if_neg c5).trans (if_pos c17)))
    · skip
      refine lv_aload_n hx hb dX4_skip_20 rfl (lv_at hl 0 rfl) ?_
      refine va_get (D := D) (ci := 4) (v := .ref (bd 7)) (C := RX4) (T := TX4) (N := 21) hx hb hts iX4 hown hK.1 hP 0 rfl rfl 12 (by decide) (hts (.fieldLink RX4 29 "NamedStreamsModel" "place" "[I") (by decide +kernel)) (fun _ h9 => h9) rfl dX4_skip_21 ?_
      refine lv_iload_n hx hb dX4_skip_24 rfl (lv_at hl 1 rfl) ?_
      refine va_iald hx hb hK.1 hP 7 6 rfl rfl ((mIs_in c5 (Nat.le_trans hc0 (by decide))).mono hc0) dX4_skip_25 ?_
      refine lv_i2l hx hb dX4_skip_26 rfl ?_
      refine lv_iload_n hx hb dX4_skip_27 rfl (lv_at hl 2 rfl) ?_
      refine lv_i2l hx hb dX4_skip_28 rfl ?_
      refine lv_ladd hx hb dX4_skip_29 ?_
      refine lv_ldc2 (v := 2147483647) hx hb hown (hts (.constantLong RX4 144 (2147483647)) (by decide +kernel)) dX4_skip_30 ?_
      refine W.lcmp hx hb dX4_skip_33 ?_
      refine lv_if_le (tgt := 39) hx hb dX4_skip_34 (by decide) (fun c34 => ?_) (fun c34 => ?_)
      · skip
        have c34 : ((Int32.toInt64 (Pl (Int32.toNatClampNeg i0))) + (Int32.toInt64 n0)) ≤ (2147483647 : Int64) := (lg_cmp_le _ _).mp c34
        refine lv_aload_n hx hb dX4_skip_39 rfl (lv_at hl 0 rfl) ?_
        refine va_get (D := D) (ci := 4) (v := .ref (bd 7)) (C := RX4) (T := TX4) (N := 21) hx hb hts iX4 hown hK.1 hP 0 rfl rfl 12 (by decide) (hts (.fieldLink RX4 29 "NamedStreamsModel" "place" "[I") (by decide +kernel)) (fun _ h9 => h9) rfl dX4_skip_40 ?_
        refine lv_iload_n hx hb dX4_skip_43 rfl (lv_at hl 1 rfl) ?_
        refine lv_dup2_11 hx hb dX4_skip_44 rfl rfl ?_
        refine va_iald hx hb hK.1 hP 7 6 rfl rfl ((mIs_in c5 (Nat.le_trans hc0 (by decide))).mono hc0) dX4_skip_45 ?_
        refine lv_iload_n hx hb dX4_skip_46 rfl (lv_at hl 2 rfl) ?_
        refine lv_iadd hx hb dX4_skip_47 ?_
        refine lv_topi (fun z3 ez3 => ?_)
        refine va_iast hx hb hK.1 hP hD hS 7 6 rfl rfl ((mIs_in c5 (Nat.le_trans hc0 (by decide))).mono hc0) dX4_skip_48 (fun H locs hP hD hS => ?_)
        have hP : va_P D vwCl (wM bd cb sd pz tc st tr (nI nc) gr P Mn T Wt Rn Po (upd Pl (Int32.toNatClampNeg i0) z3) Sp Ks Kp Kc Ik O As X) H := hP
        have hD : va_D A (wM bd cb sd pz tc st tr (nI nc) gr P Mn T Wt Rn Po (upd Pl (Int32.toNatClampNeg i0) z3) Sp Ks Kp Kc Ik O As X) := hD
        refine lv_aload_n hx hb dX4_skip_49 rfl (lv_at hl 0 rfl) ?_
        refine va_get (D := D) (ci := 4) (v := .ref (bd 7)) (C := RX4) (T := TX4) (N := 21) hx hb hts iX4 hown hK.1 hP 0 rfl rfl 12 (by decide) (hts (.fieldLink RX4 29 "NamedStreamsModel" "place" "[I") (by decide +kernel)) (fun _ h9 => h9) rfl dX4_skip_50 ?_
        refine lv_iload_n hx hb dX4_skip_53 rfl (lv_at hl 1 rfl) ?_
        refine va_iald hx hb hK.1 hP 7 6 rfl rfl ((mIs_in c5 (Nat.le_trans hc0 (by decide))).mono hc0) dX4_skip_54 ?_
        exact nk_retI (g := _) (upd Pl (Int32.toNatClampNeg i0) z3) hx hb hr hlocks hP hD hS dX4_skip_55 (by subst ez3; exact ((if_neg c5).trans ((if_neg c17).trans (if_pos c34))))
      · skip
        have c34 : ¬ (((Int32.toInt64 (Pl (Int32.toNatClampNeg i0))) + (Int32.toInt64 n0)) ≤ (2147483647 : Int64)) := fun h => c34 ((lg_cmp_le _ _).mpr h)
        refine lv_iconst (v := -1) hx hb dX4_skip_37 (by decide) ?_
        exact nk_retI (g := _) Pl hx hb hr hlocks hP hD hS dX4_skip_38 (by exact ((if_neg c5).trans ((if_neg c17).trans (if_neg c34))))

set_option maxHeartbeats 800000 in
set_option maxRecDepth 100000 in
theorem mX4_keep (l : Launch) (D : va_G) (bd : Nat → Nat) (cb : Nat → ClassId) (sd : Int64) (pz : Int32) (tc : Int32) (st : Int32) (tr : Int32) (gr : Int32) (P : Nat → Int64) (Mn : Nat → Int32) (T : Nat → Int64) (Wt : Nat → Int64) (Rn : Nat → Int64) (Po : Nat → Int32) (Pl : Nat → Int32) (Sp : Nat → Int32) (Ks : Nat → Int32) (Kp : Nat → Int32) (Kc : Nat → Int32) (Ik : Nat → Int32) (O : Nat → Int32) (As : Nat → Int64) (X : va_W) (nc : Nat) (k0 i0 : Int32) (hc0 : nc ≤ 8) : nkMI l yX4_keep wsX4_keep ({ frames := 2, cells := 0, slots := 0, locals := 46 }) D (tM cb) [.ref (bd 0), .int k0, .int i0] (wM bd cb sd pz tc st tr (nI nc) gr P Mn T Wt Rn Po Pl Sp Ks Kp Kc Ik O As X) (fun u : sKp => wM bd cb sd pz tc st tr (nI nc) gr P Mn T Wt Rn Po Pl Sp u.2.1 u.2.2.1 u.2.2.2 u.1 O As X) (fun r u => mKeep (nI nc) Pl Sp Ik Ks Kp Kc k0 i0 = (r, u)) 0 0 := by
  refine nk_ofM (Qf := fun A => va_Qi (fun r u => mKeep (nI nc) Pl Sp Ik Ks Kp Kc k0 i0 = (r, u)) (nkB D A (fun u : sKp => wM bd cb sd pz tc st tr (nI nc) gr P Mn T Wt Rn Po Pl Sp u.2.1 u.2.2.1 u.2.2.2 u.1 O As X)) A) (cc := cX4_keep) (maxL := 3) (ret := (some .int)) (by decide) rfl (Nat.le_of_ble_eq_true rfl) ?_
  intro p e s m below meth c A hx hb hr hml hts hown hlocks hin hK hP hD hA hS ls hl
  replace hown : s.vm.findClass RX4 = some m.cls := hown
  replace hl : lv_has ls 3 [(0, .ref (bd 0)), (1, .int k0), (2, .int i0)] := hl
  have hP : va_P D vwCl (wM bd cb sd pz tc st tr (nI nc) gr P Mn T Wt Rn Po Pl Sp Ks Kp Kc Ik O As X) s.heap := hP
  have iX4 : ∀ w ∈ u_ws RX4 TX4 21, w ∈ wsX4_keep := by decide +kernel
  refine lv_iload_n hx hb dX4_keep_0 rfl (lv_at hl 1 rfl) ?_
  refine lv_i2l hx hb dX4_keep_1 rfl ?_
  refine lv_lconst (v := 0) hx hb dX4_keep_2 (by decide) ?_
  refine lv_ldc2 (v := 3) hx hb hown (hts (.constantLong RX4 159 (3)) (by decide +kernel)) dX4_keep_3 ?_
  refine nk_SSI (As := [.long (Int32.toInt64 k0), .long (0 : Int64), .long (3 : Int64)]) (rest := []) ⟨hx, hb, hml, hown, hts⟩ (mX4_in l (Int32.toInt64 k0) (0 : Int64) (3 : Int64)) (va_cwS 3 hts gX4_keep_X4_in rfl rfl rfl (by decide +kernel) ⟨Nat.le_of_ble_eq_true rfl, Nat.le_of_ble_eq_true rfl⟩) rfl hl.1 rfl (Nat.le_of_ble_eq_true rfl) dX4_keep_6 ⟨Nat.le_of_ble_eq_true rfl, Nat.le_of_ble_eq_true rfl⟩ (fun r1 hr1 => ?_)
  subst hr1
  refine lv_if_eq (tgt := 20) hx hb dX4_keep_9 (by decide) (fun c9 => ?_) (fun c9 => ?_)
  · skip
    refine lv_iconst (v := -1) hx hb dX4_keep_20 (by decide) ?_
    exact nk_retI (g := _) (Ik, Ks, Kp, Kc) hx hb hr hlocks hP hD hS dX4_keep_21 (by exact (if_pos c9))
  · skip
    refine lv_aload_n hx hb dX4_keep_12 rfl (lv_at hl 0 rfl) ?_
    refine lv_iload_n hx hb dX4_keep_13 rfl (lv_at hl 2 rfl) ?_
    refine nk_VRI (As := [.int i0]) (rest := []) ⟨hx, hb, hml, hown, hts⟩ (mX4_isStream l D bd cb sd pz tc st tr (nI nc) gr P Mn T Wt Rn Po Pl Sp Ks Kp Kc Ik O As X i0) (cwV 1 hts gX4_keep_X4_isStream rfl rfl rfl (by decide +kernel) ⟨Nat.le_of_ble_eq_true rfl, Nat.le_of_ble_eq_true rfl⟩) hK hP 0 4 rfl rfl rfl rfl hl.1 rfl (Nat.le_of_ble_eq_true rfl) dX4_keep_14 ⟨Nat.le_of_ble_eq_true rfl, Nat.le_of_ble_eq_true rfl⟩ (fun r2 hr2 => ?_)
    subst hr2
    refine lv_if_ne (tgt := 22) hx hb dX4_keep_17 (by decide) (fun c17 => ?_) (fun c17 => ?_)
    · skip
      refine lv_aload_n hx hb dX4_keep_22 rfl (lv_at hl 0 rfl) ?_
      refine va_get (D := D) (ci := 4) (v := .ref (bd 12)) (C := RX4) (T := TX4) (N := 21) hx hb hts iX4 hown hK.1 hP 0 rfl rfl 17 (by decide) (hts (.fieldLink RX4 44 "NamedStreamsModel" "isKept" "[Z") (by decide +kernel)) (fun _ h9 => h9) rfl dX4_keep_23 ?_
      refine lv_iload_n hx hb dX4_keep_26 rfl (lv_at hl 1 rfl) ?_
      refine lv_iconst (v := 1) hx hb dX4_keep_27 (by decide) ?_
      refine va_zast hx hb hK.1 hP hD hS 12 11 rfl rfl (mIn_in c9 (by decide)) dX4_keep_28 (fun H locs hP hD hS => ?_)
      have hP : va_P D vwCl (wM bd cb sd pz tc st tr (nI nc) gr P Mn T Wt Rn Po Pl Sp Ks Kp Kc (upd Ik (Int32.toNatClampNeg k0) (vp_nar .boolean (1 : Int32))) O As X) H := hP
      have hD : va_D A (wM bd cb sd pz tc st tr (nI nc) gr P Mn T Wt Rn Po Pl Sp Ks Kp Kc (upd Ik (Int32.toNatClampNeg k0) (vp_nar .boolean (1 : Int32))) O As X) := hD
      refine lv_aload_n hx hb dX4_keep_29 rfl (lv_at hl 0 rfl) ?_
      refine va_get (D := D) (ci := 4) (v := .ref (bd 9)) (C := RX4) (T := TX4) (N := 21) hx hb hts iX4 hown hK.1 hP 0 rfl rfl 14 (by decide) (hts (.fieldLink RX4 35 "NamedStreamsModel" "keptStream" "[I") (by decide +kernel)) (fun _ h9 => h9) rfl dX4_keep_30 ?_
      refine lv_iload_n hx hb dX4_keep_33 rfl (lv_at hl 1 rfl) ?_
      refine lv_iload_n hx hb dX4_keep_34 rfl (lv_at hl 2 rfl) ?_
      refine va_iast hx hb hK.1 hP hD hS 9 8 rfl rfl (mIn_in c9 (by decide)) dX4_keep_35 (fun H locs hP hD hS => ?_)
      have hP : va_P D vwCl (wM bd cb sd pz tc st tr (nI nc) gr P Mn T Wt Rn Po Pl Sp (upd Ks (Int32.toNatClampNeg k0) i0) Kp Kc (upd Ik (Int32.toNatClampNeg k0) (vp_nar .boolean (1 : Int32))) O As X) H := hP
      have hD : va_D A (wM bd cb sd pz tc st tr (nI nc) gr P Mn T Wt Rn Po Pl Sp (upd Ks (Int32.toNatClampNeg k0) i0) Kp Kc (upd Ik (Int32.toNatClampNeg k0) (vp_nar .boolean (1 : Int32))) O As X) := hD
      refine lv_aload_n hx hb dX4_keep_36 rfl (lv_at hl 0 rfl) ?_
      refine va_get (D := D) (ci := 4) (v := .ref (bd 10)) (C := RX4) (T := TX4) (N := 21) hx hb hts iX4 hown hK.1 hP 0 rfl rfl 15 (by decide) (hts (.fieldLink RX4 38 "NamedStreamsModel" "keptPlace" "[I") (by decide +kernel)) (fun _ h9 => h9) rfl dX4_keep_37 ?_
      refine lv_iload_n hx hb dX4_keep_40 rfl (lv_at hl 1 rfl) ?_
      refine lv_aload_n hx hb dX4_keep_41 rfl (lv_at hl 0 rfl) ?_
      refine va_get (D := D) (ci := 4) (v := .ref (bd 7)) (C := RX4) (T := TX4) (N := 21) hx hb hts iX4 hown hK.1 hP 0 rfl rfl 12 (by decide) (hts (.fieldLink RX4 29 "NamedStreamsModel" "place" "[I") (by decide +kernel)) (fun _ h9 => h9) rfl dX4_keep_42 ?_
      refine lv_iload_n hx hb dX4_keep_45 rfl (lv_at hl 2 rfl) ?_
      refine va_iald hx hb hK.1 hP 7 6 rfl rfl ((mIs_in c17 (Nat.le_trans hc0 (by decide))).mono hc0) dX4_keep_46 ?_
      refine lv_topi (fun z3 ez3 => ?_)
      refine va_iast hx hb hK.1 hP hD hS 10 9 rfl rfl (mIn_in c9 (by decide)) dX4_keep_47 (fun H locs hP hD hS => ?_)
      have hP : va_P D vwCl (wM bd cb sd pz tc st tr (nI nc) gr P Mn T Wt Rn Po Pl Sp (upd Ks (Int32.toNatClampNeg k0) i0) (upd Kp (Int32.toNatClampNeg k0) z3) Kc (upd Ik (Int32.toNatClampNeg k0) (vp_nar .boolean (1 : Int32))) O As X) H := hP
      have hD : va_D A (wM bd cb sd pz tc st tr (nI nc) gr P Mn T Wt Rn Po Pl Sp (upd Ks (Int32.toNatClampNeg k0) i0) (upd Kp (Int32.toNatClampNeg k0) z3) Kc (upd Ik (Int32.toNatClampNeg k0) (vp_nar .boolean (1 : Int32))) O As X) := hD
      refine lv_aload_n hx hb dX4_keep_48 rfl (lv_at hl 0 rfl) ?_
      refine va_get (D := D) (ci := 4) (v := .ref (bd 11)) (C := RX4) (T := TX4) (N := 21) hx hb hts iX4 hown hK.1 hP 0 rfl rfl 16 (by decide) (hts (.fieldLink RX4 41 "NamedStreamsModel" "keptSplits" "[I") (by decide +kernel)) (fun _ h9 => h9) rfl dX4_keep_49 ?_
      refine lv_iload_n hx hb dX4_keep_52 rfl (lv_at hl 1 rfl) ?_
      refine lv_aload_n hx hb dX4_keep_53 rfl (lv_at hl 0 rfl) ?_
      refine va_get (D := D) (ci := 4) (v := .ref (bd 8)) (C := RX4) (T := TX4) (N := 21) hx hb hts iX4 hown hK.1 hP 0 rfl rfl 13 (by decide) (hts (.fieldLink RX4 32 "NamedStreamsModel" "splits" "[I") (by decide +kernel)) (fun _ h9 => h9) rfl dX4_keep_54 ?_
      refine lv_iload_n hx hb dX4_keep_57 rfl (lv_at hl 2 rfl) ?_
      refine va_iald hx hb hK.1 hP 8 7 rfl rfl ((mIs_in c17 (Nat.le_trans hc0 (by decide))).mono hc0) dX4_keep_58 ?_
      refine lv_topi (fun z4 ez4 => ?_)
      refine va_iast hx hb hK.1 hP hD hS 11 10 rfl rfl (mIn_in c9 (by decide)) dX4_keep_59 (fun H locs hP hD hS => ?_)
      have hP : va_P D vwCl (wM bd cb sd pz tc st tr (nI nc) gr P Mn T Wt Rn Po Pl Sp (upd Ks (Int32.toNatClampNeg k0) i0) (upd Kp (Int32.toNatClampNeg k0) z3) (upd Kc (Int32.toNatClampNeg k0) z4) (upd Ik (Int32.toNatClampNeg k0) (vp_nar .boolean (1 : Int32))) O As X) H := hP
      have hD : va_D A (wM bd cb sd pz tc st tr (nI nc) gr P Mn T Wt Rn Po Pl Sp (upd Ks (Int32.toNatClampNeg k0) i0) (upd Kp (Int32.toNatClampNeg k0) z3) (upd Kc (Int32.toNatClampNeg k0) z4) (upd Ik (Int32.toNatClampNeg k0) (vp_nar .boolean (1 : Int32))) O As X) := hD
      refine lv_aload_n hx hb dX4_keep_60 rfl (lv_at hl 0 rfl) ?_
      refine va_get (D := D) (ci := 4) (v := .ref (bd 7)) (C := RX4) (T := TX4) (N := 21) hx hb hts iX4 hown hK.1 hP 0 rfl rfl 12 (by decide) (hts (.fieldLink RX4 29 "NamedStreamsModel" "place" "[I") (by decide +kernel)) (fun _ h9 => h9) rfl dX4_keep_61 ?_
      refine lv_iload_n hx hb dX4_keep_64 rfl (lv_at hl 2 rfl) ?_
      refine va_iald hx hb hK.1 hP 7 6 rfl rfl ((mIs_in c17 (Nat.le_trans hc0 (by decide))).mono hc0) dX4_keep_65 ?_
      exact nk_retI (g := _) ((upd Ik (Int32.toNatClampNeg k0) (vp_nar .boolean (1 : Int32))), (upd Ks (Int32.toNatClampNeg k0) i0), (upd Kp (Int32.toNatClampNeg k0) z3), (upd Kc (Int32.toNatClampNeg k0) z4)) hx hb hr hlocks hP hD hS dX4_keep_66 (by subst ez3; subst ez4; exact ((if_neg c9).trans (if_neg c17)))
    · skip
      refine lv_iconst (v := -1) hx hb dX4_keep_20 (by decide) ?_
      exact nk_retI (g := _) (Ik, Ks, Kp, Kc) hx hb hr hlocks hP hD hS dX4_keep_21 (by exact ((if_neg c9).trans (if_pos c17)))

set_option maxHeartbeats 800000 in
set_option maxRecDepth 100000 in
theorem mX4_back (l : Launch) (D : va_G) (bd : Nat → Nat) (cb : Nat → ClassId) (sd : Int64) (pz : Int32) (tc : Int32) (st : Int32) (tr : Int32) (sc : Int32) (gr : Int32) (P : Nat → Int64) (Mn : Nat → Int32) (T : Nat → Int64) (Wt : Nat → Int64) (Rn : Nat → Int64) (Po : Nat → Int32) (Pl : Nat → Int32) (Sp : Nat → Int32) (Ks : Nat → Int32) (Kp : Nat → Int32) (Kc : Nat → Int32) (Ik : Nat → Int32) (O : Nat → Int32) (As : Nat → Int64) (X : va_W) (k0 : Int32) (hKs : ¬ mIn k0.toInt64 0 3 = 0 → ¬ Ik k0.toNatClampNeg = 0 → vp_in (Ks k0.toNatClampNeg) 8) : nkMI l yX4_back wsX4_back ({ frames := 1, cells := 0, slots := 0, locals := 25 }) D (tM cb) [.ref (bd 0), .int k0] (wM bd cb sd pz tc st tr sc gr P Mn T Wt Rn Po Pl Sp Ks Kp Kc Ik O As X) (fun u : (Nat → Int32) × (Nat → Int32) => wM bd cb sd pz tc st tr sc gr P Mn T Wt Rn Po u.1 u.2 Ks Kp Kc Ik O As X) (fun r u => mBack Pl Sp Ik Ks Kp Kc k0 = (r, u)) 0 0 := by
  refine nk_ofM (Qf := fun A => va_Qi (fun r u => mBack Pl Sp Ik Ks Kp Kc k0 = (r, u)) (nkB D A (fun u : (Nat → Int32) × (Nat → Int32) => wM bd cb sd pz tc st tr sc gr P Mn T Wt Rn Po u.1 u.2 Ks Kp Kc Ik O As X)) A) (cc := cX4_back) (maxL := 3) (ret := (some .int)) (by decide) rfl (Nat.le_of_ble_eq_true rfl) ?_
  intro p e s m below meth c A hx hb hr hml hts hown hlocks hin hK hP hD hA hS ls hl
  replace hown : s.vm.findClass RX4 = some m.cls := hown
  replace hl : lv_has ls 3 [(0, .ref (bd 0)), (1, .int k0)] := hl
  have hP : va_P D vwCl (wM bd cb sd pz tc st tr sc gr P Mn T Wt Rn Po Pl Sp Ks Kp Kc Ik O As X) s.heap := hP
  have iX4 : ∀ w ∈ u_ws RX4 TX4 21, w ∈ wsX4_back := by decide +kernel
  refine lv_iload_n hx hb dX4_back_0 rfl (lv_at hl 1 rfl) ?_
  refine lv_i2l hx hb dX4_back_1 rfl ?_
  refine lv_lconst (v := 0) hx hb dX4_back_2 (by decide) ?_
  refine lv_ldc2 (v := 3) hx hb hown (hts (.constantLong RX4 159 (3)) (by decide +kernel)) dX4_back_3 ?_
  refine nk_SSI (As := [.long (Int32.toInt64 k0), .long (0 : Int64), .long (3 : Int64)]) (rest := []) ⟨hx, hb, hml, hown, hts⟩ (mX4_in l (Int32.toInt64 k0) (0 : Int64) (3 : Int64)) (va_cwS 3 hts gX4_back_X4_in rfl rfl rfl (by decide +kernel) ⟨Nat.le_of_ble_eq_true rfl, Nat.le_of_ble_eq_true rfl⟩) rfl hl.1 rfl (Nat.le_of_ble_eq_true rfl) dX4_back_6 ⟨Nat.le_of_ble_eq_true rfl, Nat.le_of_ble_eq_true rfl⟩ (fun r1 hr1 => ?_)
  subst hr1
  refine lv_if_ne (tgt := 14) hx hb dX4_back_9 (by decide) (fun c9 => ?_) (fun c9 => ?_)
  · skip
    refine lv_aload_n hx hb dX4_back_14 rfl (lv_at hl 0 rfl) ?_
    refine va_get (D := D) (ci := 4) (v := .ref (bd 12)) (C := RX4) (T := TX4) (N := 21) hx hb hts iX4 hown hK.1 hP 0 rfl rfl 17 (by decide) (hts (.fieldLink RX4 44 "NamedStreamsModel" "isKept" "[Z") (by decide +kernel)) (fun _ h9 => h9) rfl dX4_back_15 ?_
    refine lv_iload_n hx hb dX4_back_18 rfl (lv_at hl 1 rfl) ?_
    refine va_zald hx hb hK.1 hP 12 11 rfl rfl (mIn_in c9 (by decide)) dX4_back_19 ?_
    refine lv_if_ne (tgt := 26) hx hb dX4_back_20 (by decide) (fun c20 => ?_) (fun c20 => ?_)
    · skip
      refine lv_aload_n hx hb dX4_back_26 rfl (lv_at hl 0 rfl) ?_
      refine va_get (D := D) (ci := 4) (v := .ref (bd 9)) (C := RX4) (T := TX4) (N := 21) hx hb hts iX4 hown hK.1 hP 0 rfl rfl 14 (by decide) (hts (.fieldLink RX4 35 "NamedStreamsModel" "keptStream" "[I") (by decide +kernel)) (fun _ h9 => h9) rfl dX4_back_27 ?_
      refine lv_iload_n hx hb dX4_back_30 rfl (lv_at hl 1 rfl) ?_
      refine va_iald hx hb hK.1 hP 9 8 rfl rfl (mIn_in c9 (by decide)) dX4_back_31 ?_
      refine lv_topi (fun z2 ez2 => ?_)
      refine lv_istore_n (lv' := [(2, .int z2), (0, .ref (bd 0)), (1, .int k0)]) hx hb dX4_back_32 rfl hl (by decide) rfl (fun ls hl => ?_)
      refine lv_aload_n hx hb dX4_back_33 rfl (lv_at hl 1 rfl) ?_
      refine va_get (D := D) (ci := 4) (v := .ref (bd 7)) (C := RX4) (T := TX4) (N := 21) hx hb hts iX4 hown hK.1 hP 0 rfl rfl 12 (by decide) (hts (.fieldLink RX4 29 "NamedStreamsModel" "place" "[I") (by decide +kernel)) (fun _ h9 => h9) rfl dX4_back_34 ?_
      refine lv_iload_n hx hb dX4_back_37 rfl (lv_at hl 0 rfl) ?_
      refine lv_aload_n hx hb dX4_back_38 rfl (lv_at hl 1 rfl) ?_
      refine va_get (D := D) (ci := 4) (v := .ref (bd 10)) (C := RX4) (T := TX4) (N := 21) hx hb hts iX4 hown hK.1 hP 0 rfl rfl 15 (by decide) (hts (.fieldLink RX4 38 "NamedStreamsModel" "keptPlace" "[I") (by decide +kernel)) (fun _ h9 => h9) rfl dX4_back_39 ?_
      refine lv_iload_n hx hb dX4_back_42 rfl (lv_at hl 2 rfl) ?_
      refine va_iald hx hb hK.1 hP 10 9 rfl rfl (mIn_in c9 (by decide)) dX4_back_43 ?_
      refine lv_topi (fun z3 ez3 => ?_)
      refine va_iast hx hb hK.1 hP hD hS 7 6 rfl rfl (by subst ez2; subst ez3; exact hKs c9 c20) dX4_back_44 (fun H locs hP hD hS => ?_)
      have hP : va_P D vwCl (wM bd cb sd pz tc st tr sc gr P Mn T Wt Rn Po (upd Pl (Int32.toNatClampNeg z2) z3) Sp Ks Kp Kc Ik O As X) H := hP
      have hD : va_D A (wM bd cb sd pz tc st tr sc gr P Mn T Wt Rn Po (upd Pl (Int32.toNatClampNeg z2) z3) Sp Ks Kp Kc Ik O As X) := hD
      refine lv_aload_n hx hb dX4_back_45 rfl (lv_at hl 1 rfl) ?_
      refine va_get (D := D) (ci := 4) (v := .ref (bd 8)) (C := RX4) (T := TX4) (N := 21) hx hb hts iX4 hown hK.1 hP 0 rfl rfl 13 (by decide) (hts (.fieldLink RX4 32 "NamedStreamsModel" "splits" "[I") (by decide +kernel)) (fun _ h9 => h9) rfl dX4_back_46 ?_
      refine lv_iload_n hx hb dX4_back_49 rfl (lv_at hl 0 rfl) ?_
      refine lv_aload_n hx hb dX4_back_50 rfl (lv_at hl 1 rfl) ?_
      refine va_get (D := D) (ci := 4) (v := .ref (bd 11)) (C := RX4) (T := TX4) (N := 21) hx hb hts iX4 hown hK.1 hP 0 rfl rfl 16 (by decide) (hts (.fieldLink RX4 41 "NamedStreamsModel" "keptSplits" "[I") (by decide +kernel)) (fun _ h9 => h9) rfl dX4_back_51 ?_
      refine lv_iload_n hx hb dX4_back_54 rfl (lv_at hl 2 rfl) ?_
      refine va_iald hx hb hK.1 hP 11 10 rfl rfl (mIn_in c9 (by decide)) dX4_back_55 ?_
      refine lv_topi (fun z4 ez4 => ?_)
      refine va_iast hx hb hK.1 hP hD hS 8 7 rfl rfl (by subst ez2; subst ez3; subst ez4; exact hKs c9 c20) dX4_back_56 (fun H locs hP hD hS => ?_)
      have hP : va_P D vwCl (wM bd cb sd pz tc st tr sc gr P Mn T Wt Rn Po (upd Pl (Int32.toNatClampNeg z2) z3) (upd Sp (Int32.toNatClampNeg z2) z4) Ks Kp Kc Ik O As X) H := hP
      have hD : va_D A (wM bd cb sd pz tc st tr sc gr P Mn T Wt Rn Po (upd Pl (Int32.toNatClampNeg z2) z3) (upd Sp (Int32.toNatClampNeg z2) z4) Ks Kp Kc Ik O As X) := hD
      refine lv_iload_n hx hb dX4_back_57 rfl (lv_at hl 0 rfl) ?_
      exact nk_retI (g := _) ((upd Pl (Int32.toNatClampNeg z2) z3), (upd Sp (Int32.toNatClampNeg z2) z4)) hx hb hr hlocks hP hD hS dX4_back_58 (by subst ez2; subst ez3; subst ez4; exact ((if_neg c9).trans (if_neg c20)))
    · skip
      refine lv_bipush (v := -3) hx hb dX4_back_23 (by decide) ?_
      exact nk_retI (g := _) (Pl, Sp) hx hb hr hlocks hP hD hS dX4_back_25 (by exact ((if_neg c9).trans (if_pos c20)))
  · skip
    refine lv_iconst (v := -1) hx hb dX4_back_12 (by decide) ?_
    exact nk_retI (g := _) (Pl, Sp) hx hb hr hlocks hP hD hS dX4_back_13 (by exact (if_pos c9))

set_option maxHeartbeats 800000 in
set_option maxRecDepth 100000 in
theorem mX4_permuted (l : Launch) (D : va_G) (bd : Nat → Nat) (cb : Nat → ClassId) (sd : Int64) (pz : Int32) (tc : Int32) (st : Int32) (tr : Int32) (sc : Int32) (gr : Int32) (P : Nat → Int64) (Mn : Nat → Int32) (T : Nat → Int64) (Wt : Nat → Int64) (Rn : Nat → Int64) (Po : Nat → Int32) (Pl : Nat → Int32) (Sp : Nat → Int32) (Ks : Nat → Int32) (Kp : Nat → Int32) (Kc : Nat → Int32) (Ik : Nat → Int32) (O : Nat → Int32) (As : Nat → Int64) (X : va_W) (run0 : Int64) (p0 c0 n0 k0 : Int32) (hW : ¬ mIs pz p0 = 0 → vp_in p0 24 ∧ vp_in (Mn p0.toNatClampNeg) 5) : nkMI l yX4_permuted wsX4_permuted ({ frames := 4, cells := 0, slots := 0, locals := 105 }) D (tM cb) [.ref (bd 0), .long run0, .int p0, .int c0, .int n0, .int k0] (wM bd cb sd pz tc st tr sc gr P Mn T Wt Rn Po Pl Sp Ks Kp Kc Ik O As X) (fun u : (Nat → Int32) × Int32 => wM bd cb sd pz tc st u.2 sc gr P Mn T Wt Rn Po Pl Sp Ks Kp Kc Ik u.1 As X) (fun r u => mPermM sd P Mn pz O run0 p0 c0 n0 k0 tr = (r, u)) 0 0 := by
  refine nk_ofM (Qf := fun A => va_Qi (fun r u => mPermM sd P Mn pz O run0 p0 c0 n0 k0 tr = (r, u)) (nkB D A (fun u : (Nat → Int32) × Int32 => wM bd cb sd pz tc st u.2 sc gr P Mn T Wt Rn Po Pl Sp Ks Kp Kc Ik u.1 As X)) A) (cc := cX4_permuted) (maxL := 11) (ret := (some .int)) (by decide) rfl (Nat.le_of_ble_eq_true rfl) ?_
  intro p e s m below meth c A hx hb hr hml hts hown hlocks hin hK hP hD hA hS ls hl
  replace hown : s.vm.findClass RX4 = some m.cls := hown
  replace hl : lv_has ls 11 [(0, .ref (bd 0)), (1, .long run0), (3, .int p0), (4, .int c0), (5, .int n0), (6, .int k0)] := hl
  have hP : va_P D vwCl (wM bd cb sd pz tc st tr sc gr P Mn T Wt Rn Po Pl Sp Ks Kp Kc Ik O As X) s.heap := hP
  have iX4 : ∀ w ∈ u_ws RX4 TX4 21, w ∈ wsX4_permuted := by decide +kernel
  refine lv_aload_n hx hb dX4_permuted_0 rfl (lv_at hl 0 rfl) ?_
  refine lv_iload_n hx hb dX4_permuted_1 rfl (lv_at hl 2 rfl) ?_
  refine nk_VRI (As := [.int p0]) (rest := []) ⟨hx, hb, hml, hown, hts⟩ (mX4_isPath l D bd cb sd pz tc st tr sc gr P Mn T Wt Rn Po Pl Sp Ks Kp Kc Ik O As X p0) (cwV 1 hts gX4_permuted_X4_isPath rfl rfl rfl (by decide +kernel) ⟨Nat.le_of_ble_eq_true rfl, Nat.le_of_ble_eq_true rfl⟩) hK hP 0 4 rfl rfl rfl rfl hl.1 rfl (Nat.le_of_ble_eq_true rfl) dX4_permuted_2 ⟨Nat.le_of_ble_eq_true rfl, Nat.le_of_ble_eq_true rfl⟩ (fun r1 hr1 => ?_)
  subst hr1
  refine lv_if_eq (tgt := 55) hx hb dX4_permuted_5 (by decide) (fun c5 => ?_) (fun c5 => ?_)
  · skip
    refine lv_iconst (v := -1) hx hb dX4_permuted_55 (by decide) ?_
    exact nk_retI (g := _) (O, tr) hx hb hr hlocks hP hD hS dX4_permuted_56 (by exact (if_pos c5))
  · skip
    refine lv_iload hx hb dX4_permuted_8 (lv_at hl 3 rfl) ?_
    refine lv_if_lt (tgt := 55) hx hb dX4_permuted_10 (by decide) (fun c10 => ?_) (fun c10 => ?_)
    · skip
      refine lv_iconst (v := -1) hx hb dX4_permuted_55 (by decide) ?_
      exact nk_retI (g := _) (O, tr) hx hb hr hlocks hP hD hS dX4_permuted_56 (by exact ((if_neg c5).trans (if_pos c10)))
    · skip
      refine lv_iload hx hb dX4_permuted_13 (lv_at hl 4 rfl) ?_
      refine lv_i2l hx hb dX4_permuted_15 rfl ?_
      refine lv_lconst (v := 0) hx hb dX4_permuted_16 (by decide) ?_
      refine lv_ldc2 (v := 40) hx hb hown (hts (.constantLong RX4 142 (40)) (by decide +kernel)) dX4_permuted_17 ?_
      refine nk_SSI (As := [.long (Int32.toInt64 n0), .long (0 : Int64), .long (40 : Int64)]) (rest := []) ⟨hx, hb, hml, hown, hts⟩ (mX4_in l (Int32.toInt64 n0) (0 : Int64) (40 : Int64)) (va_cwS 3 hts gX4_permuted_X4_in rfl rfl rfl (by decide +kernel) ⟨Nat.le_of_ble_eq_true rfl, Nat.le_of_ble_eq_true rfl⟩) rfl hl.1 rfl (Nat.le_of_ble_eq_true rfl) dX4_permuted_20 ⟨Nat.le_of_ble_eq_true rfl, Nat.le_of_ble_eq_true rfl⟩ (fun r2 hr2 => ?_)
      subst hr2
      refine lv_if_eq (tgt := 55) hx hb dX4_permuted_23 (by decide) (fun c23 => ?_) (fun c23 => ?_)
      · skip
        refine lv_iconst (v := -1) hx hb dX4_permuted_55 (by decide) ?_
        exact nk_retI (g := _) (O, tr) hx hb hr hlocks hP hD hS dX4_permuted_56 (by exact ((if_neg c5).trans ((if_neg c10).trans (if_pos c23))))
      · skip
        refine lv_iload hx hb dX4_permuted_26 (lv_at hl 3 rfl) ?_
        refine lv_i2l hx hb dX4_permuted_28 rfl ?_
        refine lv_iload hx hb dX4_permuted_29 (lv_at hl 4 rfl) ?_
        refine lv_i2l hx hb dX4_permuted_31 rfl ?_
        refine lv_ladd hx hb dX4_permuted_32 ?_
        refine lv_ldc2 (v := 2147483647) hx hb hown (hts (.constantLong RX4 144 (2147483647)) (by decide +kernel)) dX4_permuted_33 ?_
        refine W.lcmp hx hb dX4_permuted_36 ?_
        refine lv_if_gt (tgt := 55) hx hb dX4_permuted_37 (by decide) (fun c37 => ?_) (fun c37 => ?_)
        · skip
          have c37 : (2147483647 : Int64) < ((Int32.toInt64 c0) + (Int32.toInt64 n0)) := (lg_cmp_gt _ _).mp c37
          refine lv_iconst (v := -1) hx hb dX4_permuted_55 (by decide) ?_
          exact nk_retI (g := _) (O, tr) hx hb hr hlocks hP hD hS dX4_permuted_56 (by exact ((if_neg c5).trans ((if_neg c10).trans ((if_neg c23).trans (if_pos c37)))))
        · skip
          have c37 : ¬ ((2147483647 : Int64) < ((Int32.toInt64 c0) + (Int32.toInt64 n0))) := fun h => c37 ((lg_cmp_gt _ _).mpr h)
          refine lv_iload hx hb dX4_permuted_40 (lv_at hl 5 rfl) ?_
          refine lv_i2l hx hb dX4_permuted_42 rfl ?_
          refine lv_lconst (v := 0) hx hb dX4_permuted_43 (by decide) ?_
          refine lv_iload hx hb dX4_permuted_44 (lv_at hl 4 rfl) ?_
          refine lv_iconst (v := 1) hx hb dX4_permuted_46 (by decide) ?_
          refine lv_isub hx hb dX4_permuted_47 ?_
          refine lv_i2l hx hb dX4_permuted_48 rfl ?_
          refine nk_SSI (As := [.long (Int32.toInt64 k0), .long (0 : Int64), .long (Int32.toInt64 (n0 - (1 : Int32)))]) (rest := []) ⟨hx, hb, hml, hown, hts⟩ (mX4_in l (Int32.toInt64 k0) (0 : Int64) (Int32.toInt64 (n0 - (1 : Int32)))) (va_cwS 3 hts gX4_permuted_X4_in rfl rfl rfl (by decide +kernel) ⟨Nat.le_of_ble_eq_true rfl, Nat.le_of_ble_eq_true rfl⟩) rfl hl.1 rfl (Nat.le_of_ble_eq_true rfl) dX4_permuted_49 ⟨Nat.le_of_ble_eq_true rfl, Nat.le_of_ble_eq_true rfl⟩ (fun r3 hr3 => ?_)
          subst hr3
          refine lv_if_ne (tgt := 57) hx hb dX4_permuted_52 (by decide) (fun c52 => ?_) (fun c52 => ?_)
          · skip
            obtain ⟨hnE, hn0⟩ := mP_n c23
            obtain ⟨nn, hnn⟩ : ∃ nn, nn = Int32.toNatClampNeg n0 := ⟨_, rfl⟩
            rw [← hnn] at hnE hn0
            refine lv_iconst (v := 0) hx hb dX4_permuted_57 (by decide) ?_
            refine lv_istore (lv' := [(7, .int (0 : Int32)), (0, .ref (bd 0)), (1, .long run0), (3, .int p0), (4, .int c0), (5, .int n0), (6, .int k0)]) hx hb dX4_permuted_58 hl (by decide) rfl (fun ls hl => ?_)
            have lp60 : ∀ (k : Nat) (i : Int32) (O1 : Nat → Int32) (H : Heap) (locs : List Loc) (ls : Array Slot), (k ≤ nn) → (i = nI (nn - k)) → (fFill nn k O1 = fFill nn nn O) → va_P D vwCl (wM bd cb sd pz tc st tr sc gr P Mn T Wt Rn Po Pl Sp Ks Kp Kc Ik O1 As X) H → va_D A (wM bd cb sd pz tc st tr sc gr P Mn T Wt Rn Po Pl Sp Ks Kp Kc Ik O1 As X) → va_S A s.heap H locs → lv_has ls 11 [(7, .int i), (0, .ref (bd 0)), (1, .long run0), (3, .int p0), (4, .int c0), (5, .int n0), (6, .int k0)] → W p l e ({ frames := 4, cells := 0, slots := 0, locals := 105 } : Room) s m ([.ref (bd 0), .long run0, .int p0, .int c0, .int n0, .int k0] : List Value).toArray below meth c H locs 0 0 (MQ below (va_Qi (fun r u => mPermM sd P Mn pz O run0 p0 c0 n0 k0 tr = (r, u)) (nkB D A (fun u : (Nat → Int32) × Int32 => wM bd cb sd pz tc st u.2 sc gr P Mn T Wt Rn Po Pl Sp Ks Kp Kc Ik u.1 As X)) A) ([.ref (bd 0), .long run0, .int p0, .int c0, .int n0, .int k0] : List Value).toArray s 0 0 A) (F0 m 60 ls []) := by
              intro k
              induction k with
              | zero =>
                intro i O1 H locs ls hk hi ht hP hD hS hl
                refine lv_iload hx hb dX4_permuted_60 (lv_at hl 0 rfl) ?_
                refine lv_iload hx hb dX4_permuted_62 (lv_at hl 5 rfl) ?_
                refine lv_icmp_ge (tgt := 82) hx hb dX4_permuted_64 (by decide) (fun c64 => ?_) (fun c64 => ?_)
                · skip
                  refine lv_iload hx hb dX4_permuted_82 (lv_at hl 5 rfl) ?_
                  refine lv_iconst (v := 1) hx hb dX4_permuted_84 (by decide) ?_
                  refine lv_isub hx hb dX4_permuted_85 ?_
                  refine lv_topi (fun z4 ez4 => ?_)
                  refine lv_istore (lv' := [(7, .int z4), (0, .ref (bd 0)), (1, .long run0), (3, .int p0), (4, .int c0), (5, .int n0), (6, .int k0)]) hx hb dX4_permuted_86 hl (by decide) rfl (fun ls hl => ?_)
                  have lp88 : ∀ (q : Nat) (j : Int32) (O2 : Nat → Int32) (tr2 : Int32) (H : Heap) (locs : List Loc) (ls : Array Slot), (q ≤ nn - 1) → ((q = 0 → j ≤ 0) ∧ (0 < q → j = nI q)) → (mPermL (fBase sd run0 (mKey P Mn p0)) c0 q O2 tr2 = mPermL (fBase sd run0 (mKey P Mn p0)) c0 (nn - 1) (fFill nn nn O) tr) → va_P D vwCl (wM bd cb sd pz tc st tr2 sc gr P Mn T Wt Rn Po Pl Sp Ks Kp Kc Ik O2 As X) H → va_D A (wM bd cb sd pz tc st tr2 sc gr P Mn T Wt Rn Po Pl Sp Ks Kp Kc Ik O2 As X) → va_S A s.heap H locs → lv_has ls 11 [(7, .int j), (0, .ref (bd 0)), (1, .long run0), (3, .int p0), (4, .int c0), (5, .int n0), (6, .int k0)] → W p l e ({ frames := 4, cells := 0, slots := 0, locals := 105 } : Room) s m ([.ref (bd 0), .long run0, .int p0, .int c0, .int n0, .int k0] : List Value).toArray below meth c H locs 0 0 (MQ below (va_Qi (fun r u => mPermM sd P Mn pz O run0 p0 c0 n0 k0 tr = (r, u)) (nkB D A (fun u : (Nat → Int32) × Int32 => wM bd cb sd pz tc st u.2 sc gr P Mn T Wt Rn Po Pl Sp Ks Kp Kc Ik u.1 As X)) A) ([.ref (bd 0), .long run0, .int p0, .int c0, .int n0, .int k0] : List Value).toArray s 0 0 A) (F0 m 88 ls []) := by
                    intro q
                    induction q with
                    | zero =>
                      intro j O2 tr2 H locs ls hq hj hT hP hD hS hl
                      refine lv_iload hx hb dX4_permuted_88 (lv_at hl 0 rfl) ?_
                      refine lv_if_le (tgt := 161) hx hb dX4_permuted_90 (by decide) (fun c90 => ?_) (fun c90 => ?_)
                      · skip
                        refine lv_aload_n hx hb dX4_permuted_161 rfl (lv_at hl 1 rfl) ?_
                        refine va_get (D := D) (ci := 4) (v := .ref (bd 13)) (C := RX4) (T := TX4) (N := 21) hx hb hts iX4 hown hK.1 hP 0 rfl rfl 19 (by decide) (hts (.fieldLink RX4 48 "NamedStreamsModel" "order" "[I") (by decide +kernel)) (fun _ h9 => h9) rfl dX4_permuted_162 ?_
                        refine lv_iload hx hb dX4_permuted_165 (lv_at hl 6 rfl) ?_
                        refine va_iald hx hb hK.1 hP 13 12 rfl rfl (mP_k c23 c52) dX4_permuted_167 ?_
                        exact nk_retI (g := _) (O2, tr2) hx hb hr hlocks hP hD hS dX4_permuted_168 (by refine ((if_neg c5).trans ((if_neg c10).trans ((if_neg c23).trans ((if_neg c37).trans (if_neg c52))))).trans ?_; rw [← hnn]; exact mPA_1 (by rw [← hT]; rfl))
                      · skip
                        exact absurd (hj.1 rfl) c90
                    | succ q ih88 =>
                      intro j O2 tr2 H locs ls hq hj hT hP hD hS hl
                      refine lv_iload hx hb dX4_permuted_88 (lv_at hl 0 rfl) ?_
                      refine lv_if_le (tgt := 161) hx hb dX4_permuted_90 (by decide) (fun c90 => ?_) (fun c90 => ?_)
                      · skip
                        exact absurd c90 (by rw [hj.2 (Nat.succ_pos _)]; exact nI_nle (by omega) (by omega))
                      · skip
                        refine lv_aload_n hx hb dX4_permuted_93 rfl (lv_at hl 1 rfl) ?_
                        refine lv_lload_n hx hb dX4_permuted_94 rfl (lv_at hl 2 rfl) ?_
                        refine lv_iload_n hx hb dX4_permuted_95 rfl (lv_at hl 3 rfl) ?_
                        refine lv_iload hx hb dX4_permuted_96 (lv_at hl 4 rfl) ?_
                        refine lv_iload hx hb dX4_permuted_98 (lv_at hl 0 rfl) ?_
                        refine lv_iadd hx hb dX4_permuted_100 ?_
                        refine lv_iload hx hb dX4_permuted_101 (lv_at hl 0 rfl) ?_
                        refine lv_i2l hx hb dX4_permuted_103 rfl ?_
                        refine lv_lconst (v := 1) hx hb dX4_permuted_104 (by decide) ?_
                        refine lv_ladd hx hb dX4_permuted_105 ?_
                        refine nk_VL (As := [.long run0, .int p0, .int (c0 + j), .long ((Int32.toInt64 j) + (1 : Int64))]) (rest := []) ⟨hx, hb, hml, hown, hts⟩ (mX4_draw l D bd cb sd pz tc st tr2 sc gr P Mn T Wt Rn Po Pl Sp Ks Kp Kc Ik O2 As X run0 p0 (c0 + j) ((Int32.toInt64 j) + (1 : Int64)) (hW c5).1 (hW c5).2 (mP_ne hn0 hq (hj.2 (Nat.succ_pos _)))) (cwV 4 hts gX4_permuted_X4_draw rfl rfl rfl (by decide +kernel) ⟨Nat.le_of_ble_eq_true rfl, Nat.le_of_ble_eq_true rfl⟩) hK hP hD hS hA 0 4 rfl rfl rfl rfl hl.1 rfl (Nat.le_of_ble_eq_true rfl) dX4_permuted_106 ⟨Nat.le_of_ble_eq_true rfl, Nat.le_of_ble_eq_true rfl⟩ (fun r5 ur5 H locs hr5 hP hD hS => ?_)
                        obtain ⟨rfl, rfl⟩ : r5 = (mSpan (fBase sd run0 (mKey P Mn p0)) (32 * Int32.toInt64 (c0 + j)) ((Int32.toInt64 j) + (1 : Int64)) tr2).1 ∧ ur5 = (mSpan (fBase sd run0 (mKey P Mn p0)) (32 * Int32.toInt64 (c0 + j)) ((Int32.toInt64 j) + (1 : Int64)) tr2).2 := by rw [hr5]; exact ⟨rfl, rfl⟩
                        have hP : va_P D vwCl (wM bd cb sd pz tc st ((mSpan (fBase sd run0 (mKey P Mn p0)) (32 * Int32.toInt64 (c0 + j)) ((Int32.toInt64 j) + (1 : Int64)) tr2).2) sc gr P Mn T Wt Rn Po Pl Sp Ks Kp Kc Ik O2 As X) H := hP
                        have hD : va_D A (wM bd cb sd pz tc st ((mSpan (fBase sd run0 (mKey P Mn p0)) (32 * Int32.toInt64 (c0 + j)) ((Int32.toInt64 j) + (1 : Int64)) tr2).2) sc gr P Mn T Wt Rn Po Pl Sp Ks Kp Kc Ik O2 As X) := hD
                        refine lv_topl (fun z6 ez6 => ?_)
                        refine lv_lstore (lv' := [(8, .long z6), (7, .int j), (0, .ref (bd 0)), (1, .long run0), (3, .int p0), (4, .int c0), (5, .int n0), (6, .int k0)]) hx hb dX4_permuted_109 hl (by decide) rfl (fun ls hl => ?_)
                        refine lv_lload hx hb dX4_permuted_111 (lv_at hl 0 rfl) ?_
                        refine lv_lconst (v := 0) hx hb dX4_permuted_113 (by decide) ?_
                        refine W.lcmp hx hb dX4_permuted_114 ?_
                        refine lv_if_ge (tgt := 121) hx hb dX4_permuted_115 (by decide) (fun c115 => ?_) (fun c115 => ?_)
                        · skip
                          have c115 : (0 : Int64) ≤ z6 := (lg_cmp_ge _ _).mp c115
                          refine lv_aload_n hx hb dX4_permuted_121 rfl (lv_at hl 2 rfl) ?_
                          refine va_get (D := D) (ci := 4) (v := .ref (bd 13)) (C := RX4) (T := TX4) (N := 21) hx hb hts iX4 hown hK.1 hP 0 rfl rfl 19 (by decide) (hts (.fieldLink RX4 48 "NamedStreamsModel" "order" "[I") (by decide +kernel)) (fun _ h9 => h9) rfl dX4_permuted_122 ?_
                          refine lv_iload hx hb dX4_permuted_125 (lv_at hl 1 rfl) ?_
                          refine va_iald hx hb hK.1 hP 13 12 rfl rfl (by rw [hj.2 (Nat.succ_pos _)]; exact vp_in_nI (by omega) (by decide)) dX4_permuted_127 ?_
                          refine lv_topi (fun z7 ez7 => ?_)
                          refine lv_istore (lv' := [(10, .int z7), (8, .long z6), (7, .int j), (0, .ref (bd 0)), (1, .long run0), (3, .int p0), (4, .int c0), (5, .int n0), (6, .int k0)]) hx hb dX4_permuted_128 hl (by decide) rfl (fun ls hl => ?_)
                          refine lv_aload_n hx hb dX4_permuted_130 rfl (lv_at hl 3 rfl) ?_
                          refine va_get (D := D) (ci := 4) (v := .ref (bd 13)) (C := RX4) (T := TX4) (N := 21) hx hb hts iX4 hown hK.1 hP 0 rfl rfl 19 (by decide) (hts (.fieldLink RX4 48 "NamedStreamsModel" "order" "[I") (by decide +kernel)) (fun _ h9 => h9) rfl dX4_permuted_131 ?_
                          refine lv_iload hx hb dX4_permuted_134 (lv_at hl 2 rfl) ?_
                          refine lv_aload_n hx hb dX4_permuted_136 rfl (lv_at hl 3 rfl) ?_
                          refine va_get (D := D) (ci := 4) (v := .ref (bd 13)) (C := RX4) (T := TX4) (N := 21) hx hb hts iX4 hown hK.1 hP 0 rfl rfl 19 (by decide) (hts (.fieldLink RX4 48 "NamedStreamsModel" "order" "[I") (by decide +kernel)) (fun _ h9 => h9) rfl dX4_permuted_137 ?_
                          refine lv_lload hx hb dX4_permuted_140 (lv_at hl 1 rfl) ?_
                          refine lv_l2i hx hb dX4_permuted_142 rfl ?_
                          refine va_iald hx hb hK.1 hP 13 12 rfl rfl (mP_in hn0 hq (hj.2 (Nat.succ_pos _)) (by subst ez7; subst ez6; rfl) (by subst ez6; subst ez7; exact c115)) dX4_permuted_143 ?_
                          refine lv_topi (fun z8 ez8 => ?_)
                          refine va_iast hx hb hK.1 hP hD hS 13 12 rfl rfl (by rw [hj.2 (Nat.succ_pos _)]; exact vp_in_nI (by omega) (by decide)) dX4_permuted_144 (fun H locs hP hD hS => ?_)
                          have hP : va_P D vwCl (wM bd cb sd pz tc st ((mSpan (fBase sd run0 (mKey P Mn p0)) (32 * Int32.toInt64 (c0 + j)) ((Int32.toInt64 j) + (1 : Int64)) tr2).2) sc gr P Mn T Wt Rn Po Pl Sp Ks Kp Kc Ik (upd O2 (Int32.toNatClampNeg j) z8) As X) H := hP
                          have hD : va_D A (wM bd cb sd pz tc st ((mSpan (fBase sd run0 (mKey P Mn p0)) (32 * Int32.toInt64 (c0 + j)) ((Int32.toInt64 j) + (1 : Int64)) tr2).2) sc gr P Mn T Wt Rn Po Pl Sp Ks Kp Kc Ik (upd O2 (Int32.toNatClampNeg j) z8) As X) := hD
                          refine lv_aload_n hx hb dX4_permuted_145 rfl (lv_at hl 3 rfl) ?_
                          refine va_get (D := D) (ci := 4) (v := .ref (bd 13)) (C := RX4) (T := TX4) (N := 21) hx hb hts iX4 hown hK.1 hP 0 rfl rfl 19 (by decide) (hts (.fieldLink RX4 48 "NamedStreamsModel" "order" "[I") (by decide +kernel)) (fun _ h9 => h9) rfl dX4_permuted_146 ?_
                          refine lv_lload hx hb dX4_permuted_149 (lv_at hl 1 rfl) ?_
                          refine lv_l2i hx hb dX4_permuted_151 rfl ?_
                          refine lv_iload hx hb dX4_permuted_152 (lv_at hl 0 rfl) ?_
                          refine va_iast hx hb hK.1 hP hD hS 13 12 rfl rfl (mP_in hn0 hq (hj.2 (Nat.succ_pos _)) (by subst ez8; subst ez7; subst ez6; rfl) (by subst ez6; subst ez7; subst ez8; exact c115)) dX4_permuted_154 (fun H locs hP hD hS => ?_)
                          have hP : va_P D vwCl (wM bd cb sd pz tc st ((mSpan (fBase sd run0 (mKey P Mn p0)) (32 * Int32.toInt64 (c0 + j)) ((Int32.toInt64 j) + (1 : Int64)) tr2).2) sc gr P Mn T Wt Rn Po Pl Sp Ks Kp Kc Ik (upd (upd O2 (Int32.toNatClampNeg j) z8) (Int32.toNatClampNeg (Int64.toInt32 z6)) z7) As X) H := hP
                          have hD : va_D A (wM bd cb sd pz tc st ((mSpan (fBase sd run0 (mKey P Mn p0)) (32 * Int32.toInt64 (c0 + j)) ((Int32.toInt64 j) + (1 : Int64)) tr2).2) sc gr P Mn T Wt Rn Po Pl Sp Ks Kp Kc Ik (upd (upd O2 (Int32.toNatClampNeg j) z8) (Int32.toNatClampNeg (Int64.toInt32 z6)) z7) As X) := hD
                          obtain ⟨i9, ei9⟩ : ∃ y : Int32, y = j + (-1) := ⟨_, rfl⟩
                          refine lv_iinc (v := i9) (lv' := [(7, .int i9), (10, .int z7), (8, .long z6), (0, .ref (bd 0)), (1, .long run0), (3, .int p0), (4, .int c0), (5, .int n0), (6, .int k0)]) hx hb dX4_permuted_155 hl (k := 2) rfl (by rw [ei9]; rfl) (by decide) rfl (fun ls hl => ?_)
                          refine lv_goto (tgt := 88) hx hb dX4_permuted_158 (by decide) ?_
                          exact ih88 i9 (upd (upd O2 (Int32.toNatClampNeg j) z8) (Int32.toNatClampNeg (Int64.toInt32 z6)) z7) ((mSpan (fBase sd run0 (mKey P Mn p0)) (32 * Int32.toInt64 (c0 + j)) ((Int32.toInt64 j) + (1 : Int64)) tr2).2) _ _ _ (Nat.le_of_succ_le hq) (mP_1 hj.2 ei9) (by have hi2 := hj.2 (Nat.succ_pos _); subst hi2; subst ez6; subst ez7; subst ez8; rw [← hT, mPermL, if_pos c115]; rfl) hP hD hS (lv_sub hl [0, 3, 4, 5, 6, 7, 8] rfl)
                        · skip
                          have c115 : ¬ ((0 : Int64) ≤ z6) := fun h => c115 ((lg_cmp_ge _ _).mpr h)
                          refine lv_bipush (v := -3) hx hb dX4_permuted_118 (by decide) ?_
                          exact nk_retI (g := _) (O2, (mSpan (fBase sd run0 (mKey P Mn p0)) (32 * Int32.toInt64 (c0 + j)) ((Int32.toInt64 j) + (1 : Int64)) tr2).2) hx hb hr hlocks hP hD hS dX4_permuted_120 (by refine ((if_neg c5).trans ((if_neg c10).trans ((if_neg c23).trans ((if_neg c37).trans (if_neg c52))))).trans ?_; rw [← hnn]; exact mPA_0 (by have hi2 := hj.2 (Nat.succ_pos _); subst hi2; subst ez6; rw [← hT, mPermL, if_neg c115]))
                  exact lp88 (nn - 1) z4 O1 tr _ _ _ (Nat.le_refl _) (by subst ez4; rw [hnE]; exact mP_0 nn) (by have ht2 : O1 = fFill nn nn O := ht; rw [ht2]) hP hD hS (lv_sub hl [0, 1, 2, 3, 4, 5, 6] rfl)
                · skip
                  exact absurd (by rw [hi, hnE]; exact nI_le (by omega) (by omega)) c64
              | succ k ih60 =>
                intro i O1 H locs ls hk hi ht hP hD hS hl
                refine lv_iload hx hb dX4_permuted_60 (lv_at hl 0 rfl) ?_
                refine lv_iload hx hb dX4_permuted_62 (lv_at hl 5 rfl) ?_
                refine lv_icmp_ge (tgt := 82) hx hb dX4_permuted_64 (by decide) (fun c64 => ?_) (fun c64 => ?_)
                · skip
                  exact absurd c64 (Int32.not_le.mpr (by rw [hi, hnE]; exact nI_lt (by omega) (by omega)))
                · skip
                  refine lv_aload_n hx hb dX4_permuted_67 rfl (lv_at hl 1 rfl) ?_
                  refine va_get (D := D) (ci := 4) (v := .ref (bd 13)) (C := RX4) (T := TX4) (N := 21) hx hb hts iX4 hown hK.1 hP 0 rfl rfl 19 (by decide) (hts (.fieldLink RX4 48 "NamedStreamsModel" "order" "[I") (by decide +kernel)) (fun _ h9 => h9) rfl dX4_permuted_68 ?_
                  refine lv_iload hx hb dX4_permuted_71 (lv_at hl 0 rfl) ?_
                  refine lv_iload hx hb dX4_permuted_73 (lv_at hl 0 rfl) ?_
                  refine va_iast hx hb hK.1 hP hD hS 13 12 rfl rfl (by rw [hi]; exact vp_in_nI (by omega) (by decide)) dX4_permuted_75 (fun H locs hP hD hS => ?_)
                  have hP : va_P D vwCl (wM bd cb sd pz tc st tr sc gr P Mn T Wt Rn Po Pl Sp Ks Kp Kc Ik (upd O1 (Int32.toNatClampNeg i) i) As X) H := hP
                  have hD : va_D A (wM bd cb sd pz tc st tr sc gr P Mn T Wt Rn Po Pl Sp Ks Kp Kc Ik (upd O1 (Int32.toNatClampNeg i) i) As X) := hD
                  obtain ⟨i10, ei10⟩ : ∃ y : Int32, y = i + 1 := ⟨_, rfl⟩
                  refine lv_iinc (v := i10) (lv' := [(7, .int i10), (0, .ref (bd 0)), (1, .long run0), (3, .int p0), (4, .int c0), (5, .int n0), (6, .int k0)]) hx hb dX4_permuted_76 hl (k := 0) rfl (by rw [ei10]; rfl) (by decide) rfl (fun ls hl => ?_)
                  refine lv_goto (tgt := 60) hx hb dX4_permuted_79 (by decide) ?_
                  exact ih60 i10 (upd O1 (Int32.toNatClampNeg i) i) _ _ _ (Nat.le_of_succ_le hk) (ns_step hi hk ei10) (by subst hi; exact ht) hP hD hS (lv_sub hl [0, 1, 2, 3, 4, 5, 6] rfl)
            exact lp60 nn (0 : Int32) O _ _ _ (Nat.le_refl nn) (by rw [Nat.sub_self]; rfl) rfl hP hD hS (lv_sub hl [0, 1, 2, 3, 4, 5, 6] rfl)
          · skip
            refine lv_iconst (v := -1) hx hb dX4_permuted_55 (by decide) ?_
            exact nk_retI (g := _) (O, tr) hx hb hr hlocks hP hD hS dX4_permuted_56 (by exact ((if_neg c5).trans ((if_neg c10).trans ((if_neg c23).trans ((if_neg c37).trans (if_pos c52))))))
