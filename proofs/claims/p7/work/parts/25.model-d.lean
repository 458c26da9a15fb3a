def mAs (T : Nat → Int64) : Nat → (Nat → Int64) → (Nat → Int64)
  | 0, A => A
  | k + 1, A => mAs T k (vp_updL A (nI (4 - (k + 1))).toNatClampNeg (T (nI (4 - (k + 1))).toNatClampNeg))
def mTc (P : Nat → Int64) (p : Int32) (l : Nat) : Nat → (Nat → Int64) → (Nat → Int64)
  | 0, T => T
  | k + 1, T => mTc P p l k (vp_updL T (nI (l - (k + 1))).toNatClampNeg (P (4 * p + nI (l - (k + 1))).toNatClampNeg))
def mT1 (P T : Nat → Int64) (Sp : Nat → Int32) (pp ll : Nat) (i : Int32) : Nat → Int64 := vp_updL (mTc P (nI pp) ll ll T) (nI ll).toNatClampNeg (Sp i.toNatClampNeg).toInt64
def mSplit (P : Nat → Int64) (Mn : Nat → Int32) (T As Rn : Nat → Int64) (Po Pl Sp : Nat → Int32) (nc zz pp ll : Nat) (i : Int32) : Int32 × (Nat → Int64) × (Nat → Int64) × sMp × sBg :=
  if 0 ≤ (mTake P (mT1 P T Sp pp ll i) Mn zz (ll + 1)).1 then ((mBegin (nI nc) Rn Po Pl (upd Sp i.toNatClampNeg (Sp i.toNatClampNeg + 1)) (Rn i.toNatClampNeg) (mTake P (mT1 P T Sp pp ll i) Mn zz (ll + 1)).1).1, mAs (mAs T 4 As) 4 (mT1 P T Sp pp ll i), mAs T 4 As, (mTake P (mT1 P T Sp pp ll i) Mn zz (ll + 1)).2, (mBegin (nI nc) Rn Po Pl (upd Sp i.toNatClampNeg (Sp i.toNatClampNeg + 1)) (Rn i.toNatClampNeg) (mTake P (mT1 P T Sp pp ll i) Mn zz (ll + 1)).1).2)
  else (-2, mAs (mAs T 4 As) 4 (mT1 P T Sp pp ll i), mAs T 4 As, (mTake P (mT1 P T Sp pp ll i) Mn zz (ll + 1)).2, nI nc, Rn, Po, Pl, Sp)
theorem ns_8 {n : Nat} (h : nI n = 8) : n % 4294967296 = 8 := by
  have h2 := congrArg (fun x : Int32 => x.toBitVec.toNat) h
  simpa [nI] using h2
theorem ns_4 {n : Nat} (hn : n < 2 ^ 31) (h : nI n = 4) : n = 4 := (nI_eq hn (by decide)).mp h
set_option maxHeartbeats 800000 in
set_option maxRecDepth 100000 in
theorem mX4_split_N (l : Launch) (D : va_G) (bd : Nat → Nat) (cb : Nat → ClassId) (sd : Int64) (pz : Int32) (tc : Int32) (st : Int32) (tr : Int32) (gr : Int32) (P : Nat → Int64) (Mn : Nat → Int32) (T : Nat → Int64) (Wt : Nat → Int64) (Rn : Nat → Int64) (Po : Nat → Int32) (Pl : Nat → Int32) (Sp : Nat → Int32) (Ks : Nat → Int32) (Kp : Nat → Int32) (Kc : Nat → Int32) (Ik : Nat → Int32) (O : Nat → Int32) (As : Nat → Int64) (X : va_W) (nc : Nat) (i0 : Int32) (hI : mIs (nI nc) i0 = 0) : nkMI l yX4_split wsX4_split ({ frames := 2, cells := 0, slots := 0, locals := 46 }) D (tM cb) [.ref (bd 0), .int i0] (wM bd cb sd pz tc st tr (nI nc) gr P Mn T Wt Rn Po Pl Sp Ks Kp Kc Ik O As X) (fun _ : Unit => wM bd cb sd pz tc st tr (nI nc) gr P Mn T Wt Rn Po Pl Sp Ks Kp Kc Ik O As X) (fun r _ => r = -1) 0 0 := by
  refine nk_ofM (Qf := fun A => va_Qi (fun r _ => r = -1) (nkB D A (fun _ : Unit => wM bd cb sd pz tc st tr (nI nc) gr P Mn T Wt Rn Po Pl Sp Ks Kp Kc Ik O As X)) A) (cc := cX4_split) (maxL := 6) (ret := (some .int)) (by decide) rfl (Nat.le_of_ble_eq_true rfl) ?_
  intro p e s m below meth c A hx hb hr hml hts hown hlocks hin hK hP hD hA hS ls hl
  replace hown : s.vm.findClass RX4 = some m.cls := hown
  replace hl : lv_has ls 6 [(0, .ref (bd 0)), (1, .int i0)] := hl
  have hP : va_P D vwCl (wM bd cb sd pz tc st tr (nI nc) gr P Mn T Wt Rn Po Pl Sp Ks Kp Kc Ik O As X) s.heap := hP
  have iX4 : ∀ w ∈ u_ws RX4 TX4 21, w ∈ wsX4_split := by decide +kernel
  refine lv_aload_n hx hb dX4_split_0 rfl (lv_at hl 0 rfl) ?_
  refine lv_iload_n hx hb dX4_split_1 rfl (lv_at hl 1 rfl) ?_
  refine nk_VRI (As := [.int i0]) (rest := []) ⟨hx, hb, hml, hown, hts⟩ (mX4_isStream l D bd cb sd pz tc st tr (nI nc) gr P Mn T Wt Rn Po Pl Sp Ks Kp Kc Ik O As X i0) (cwV 1 hts gX4_split_X4_isStream rfl rfl rfl (by decide +kernel) ⟨Nat.le_of_ble_eq_true rfl, Nat.le_of_ble_eq_true rfl⟩) hK hP 0 4 rfl rfl rfl rfl hl.1 rfl (Nat.le_of_ble_eq_true rfl) dX4_split_2 ⟨Nat.le_of_ble_eq_true rfl, Nat.le_of_ble_eq_true rfl⟩ (fun r1 hr1 => ?_)
  subst hr1
  refine lv_if_ne (tgt := 10) hx hb dX4_split_5 (by decide) (fun c5 => ?_) (fun c5 => ?_)
  · skip
    exact absurd hI c5
  · skip
    refine lv_iconst (v := -1) hx hb dX4_split_8 (by decide) ?_
    exact nk_retI (g := _) () hx hb hr hlocks hP hD hS dX4_split_9 rfl

set_option maxHeartbeats 800000 in
set_option maxRecDepth 100000 in
theorem mX4_split_F (l : Launch) (D : va_G) (bd : Nat → Nat) (cb : Nat → ClassId) (sd : Int64) (pz : Int32) (tc : Int32) (st : Int32) (tr : Int32) (gr : Int32) (P : Nat → Int64) (Mn : Nat → Int32) (T : Nat → Int64) (Wt : Nat → Int64) (Rn : Nat → Int64) (Po : Nat → Int32) (Pl : Nat → Int32) (Sp : Nat → Int32) (Ks : Nat → Int32) (Kp : Nat → Int32) (Kc : Nat → Int32) (Ik : Nat → Int32) (O : Nat → Int32) (As : Nat → Int64) (X : va_W) (nc pp : Nat) (i0 : Int32) (hc0 : nc ≤ 8) (hI : ¬ mIs (nI nc) i0 = 0) (hPo : Po i0.toNatClampNeg = nI pp) (hpp : pp < 24) (hF : nI nc = 8 ∨ Mn (nI pp).toNatClampNeg = 4) : nkMI l yX4_split wsX4_split ({ frames := 2, cells := 0, slots := 0, locals := 46 }) D (tM cb) [.ref (bd 0), .int i0] (wM bd cb sd pz tc st tr (nI nc) gr P Mn T Wt Rn Po Pl Sp Ks Kp Kc Ik O As X) (fun _ : Unit => wM bd cb sd pz tc st tr (nI nc) gr P Mn T Wt Rn Po Pl Sp Ks Kp Kc Ik O As X) (fun r _ => r = -2) 0 0 := by
  refine nk_ofM (Qf := fun A => va_Qi (fun r _ => r = -2) (nkB D A (fun _ : Unit => wM bd cb sd pz tc st tr (nI nc) gr P Mn T Wt Rn Po Pl Sp Ks Kp Kc Ik O As X)) A) (cc := cX4_split) (maxL := 6) (ret := (some .int)) (by decide) rfl (Nat.le_of_ble_eq_true rfl) ?_
  intro p e s m below meth c A hx hb hr hml hts hown hlocks hin hK hP hD hA hS ls hl
  replace hown : s.vm.findClass RX4 = some m.cls := hown
  replace hl : lv_has ls 6 [(0, .ref (bd 0)), (1, .int i0)] := hl
  have hP : va_P D vwCl (wM bd cb sd pz tc st tr (nI nc) gr P Mn T Wt Rn Po Pl Sp Ks Kp Kc Ik O As X) s.heap := hP
  have iX4 : ∀ w ∈ u_ws RX4 TX4 21, w ∈ wsX4_split := by decide +kernel
  refine lv_aload_n hx hb dX4_split_0 rfl (lv_at hl 0 rfl) ?_
  refine lv_iload_n hx hb dX4_split_1 rfl (lv_at hl 1 rfl) ?_
  refine nk_VRI (As := [.int i0]) (rest := []) ⟨hx, hb, hml, hown, hts⟩ (mX4_isStream l D bd cb sd pz tc st tr (nI nc) gr P Mn T Wt Rn Po Pl Sp Ks Kp Kc Ik O As X i0) (cwV 1 hts gX4_split_X4_isStream rfl rfl rfl (by decide +kernel) ⟨Nat.le_of_ble_eq_true rfl, Nat.le_of_ble_eq_true rfl⟩) hK hP 0 4 rfl rfl rfl rfl hl.1 rfl (Nat.le_of_ble_eq_true rfl) dX4_split_2 ⟨Nat.le_of_ble_eq_true rfl, Nat.le_of_ble_eq_true rfl⟩ (fun r1 hr1 => ?_)
  subst hr1
  refine lv_if_ne (tgt := 10) hx hb dX4_split_5 (by decide) (fun c5 => ?_) (fun c5 => ?_)
  · skip
    refine lv_aload_n hx hb dX4_split_10 rfl (lv_at hl 0 rfl) ?_
    refine va_get (D := D) (ci := 4) (v := .ref (bd 6)) (C := RX4) (T := TX4) (N := 21) hx hb hts iX4 hown hK.1 hP 0 rfl rfl 11 (by decide) (hts (.fieldLink RX4 26 "NamedStreamsModel" "pathOf" "[I") (by decide +kernel)) (fun _ h9 => h9) rfl dX4_split_11 ?_
    refine lv_iload_n hx hb dX4_split_14 rfl (lv_at hl 1 rfl) ?_
    refine va_iald hx hb hK.1 hP 6 5 rfl rfl ((mIs_in c5 (Nat.le_trans hc0 (by decide))).mono hc0) dX4_split_15 ?_
    refine lv_topi (fun z2 ez2 => ?_)
    refine lv_istore_n (lv' := [(2, .int z2), (0, .ref (bd 0)), (1, .int i0)]) hx hb dX4_split_16 rfl hl (by decide) rfl (fun ls hl => ?_)
    obtain rfl : z2 = nI pp := ez2.trans hPo
    refine lv_aload_n hx hb dX4_split_17 rfl (lv_at hl 1 rfl) ?_
    refine va_get (D := D) (ci := 4) (v := .int (nI nc)) (C := RX4) (T := TX4) (N := 21) hx hb hts iX4 hown hK.1 hP 0 rfl rfl 9 (by decide) (hts (.fieldLink RX4 146 "NamedStreamsModel" "streams" "I") (by decide +kernel)) (fun _ h9 => h9) rfl dX4_split_18 ?_
    refine lv_bipush (v := 8) hx hb dX4_split_21 (by decide) ?_
    refine lv_icmp_eq (tgt := 36) hx hb dX4_split_23 (by decide) (fun c23 => ?_) (fun c23 => ?_)
    · skip
      refine lv_bipush (v := -2) hx hb dX4_split_36 (by decide) ?_
      exact nk_retI (g := _) () hx hb hr hlocks hP hD hS dX4_split_38 rfl
    · skip
      refine lv_aload_n hx hb dX4_split_26 rfl (lv_at hl 1 rfl) ?_
      refine va_get (D := D) (ci := 4) (v := .ref (bd 2)) (C := RX4) (T := TX4) (N := 21) hx hb hts iX4 hown hK.1 hP 0 rfl rfl 3 (by decide) (hts (.fieldLink RX4 13 "NamedStreamsModel" "many" "[I") (by decide +kernel)) (fun _ h9 => h9) rfl dX4_split_27 ?_
      refine lv_iload_n hx hb dX4_split_30 rfl (lv_at hl 0 rfl) ?_
      refine va_iald hx hb hK.1 hP 2 1 rfl rfl (vp_in_nI hpp (by decide)) dX4_split_31 ?_
      refine lv_iconst (v := 4) hx hb dX4_split_32 (by decide) ?_
      refine lv_icmp_ne (tgt := 39) hx hb dX4_split_33 (by decide) (fun c33 => ?_) (fun c33 => ?_)
      · skip
        exact absurd (hF.elim (fun h => absurd h c23) id) c33
      · skip
        refine lv_bipush (v := -2) hx hb dX4_split_36 (by decide) ?_
        exact nk_retI (g := _) () hx hb hr hlocks hP hD hS dX4_split_38 rfl
  · skip
    exact absurd c5 hI

set_option maxHeartbeats 800000 in
set_option maxRecDepth 100000 in
theorem mX4_split_M (l : Launch) (D : va_G) (bd : Nat → Nat) (cb : Nat → ClassId) (sd : Int64) (st : Int32) (tr : Int32) (gr : Int32) (P : Nat → Int64) (Mn : Nat → Int32) (T : Nat → Int64) (Wt : Nat → Int64) (Rn : Nat → Int64) (Po : Nat → Int32) (Pl : Nat → Int32) (Sp : Nat → Int32) (Ks : Nat → Int32) (Kp : Nat → Int32) (Kc : Nat → Int32) (Ik : Nat → Int32) (O : Nat → Int32) (As : Nat → Int64) (X : va_W) (nc zz tt pp ll : Nat) (i0 : Int32) (hc8 : nc < 8) (hz0 : zz ≤ 24) (ht0 : tt ≤ 4) (hI : ¬ mIs (nI nc) i0 = 0) (hPo : Po i0.toNatClampNeg = nI pp) (hpp : pp < 24) (hl0 : Mn (Int32.toNatClampNeg (nI pp)) = nI ll) (hl4 : ll < 4) : nkMI l yX4_split wsX4_split ({ frames := 2, cells := 0, slots := 0, locals := 46 }) D (tM cb) [.ref (bd 0), .int i0] (wM bd cb sd (nI zz) (nI tt) st tr (nI nc) gr P Mn T Wt Rn Po Pl Sp Ks Kp Kc Ik O As X) (fun u : (Nat → Int64) × (Nat → Int64) × sMp × sBg => wM bd cb sd u.2.2.1.2.2 (nI tt) st tr u.2.2.2.1 gr u.2.2.1.1 u.2.2.1.2.1 u.1 Wt u.2.2.2.2.1 u.2.2.2.2.2.1 u.2.2.2.2.2.2.1 u.2.2.2.2.2.2.2 Ks Kp Kc Ik O u.2.1 X) (fun r u => mSplit P Mn T As Rn Po Pl Sp nc zz pp ll i0 = (r, u)) 0 0 := by
  refine nk_ofM (Qf := fun A => va_Qi (fun r u => mSplit P Mn T As Rn Po Pl Sp nc zz pp ll i0 = (r, u)) (nkB D A (fun u : (Nat → Int64) × (Nat → Int64) × sMp × sBg => wM bd cb sd u.2.2.1.2.2 (nI tt) st tr u.2.2.2.1 gr u.2.2.1.1 u.2.2.1.2.1 u.1 Wt u.2.2.2.2.1 u.2.2.2.2.2.1 u.2.2.2.2.2.2.1 u.2.2.2.2.2.2.2 Ks Kp Kc Ik O u.2.1 X)) A) (cc := cX4_split) (maxL := 6) (ret := (some .int)) (by decide) rfl (Nat.le_of_ble_eq_true rfl) ?_
  intro p e s m below meth c A hx hb hr hml hts hown hlocks hin hK hP hD hA hS ls hl
  replace hown : s.vm.findClass RX4 = some m.cls := hown
  replace hl : lv_has ls 6 [(0, .ref (bd 0)), (1, .int i0)] := hl
  have hP : va_P D vwCl (wM bd cb sd (nI zz) (nI tt) st tr (nI nc) gr P Mn T Wt Rn Po Pl Sp Ks Kp Kc Ik O As X) s.heap := hP
  have iX4 : ∀ w ∈ u_ws RX4 TX4 21, w ∈ wsX4_split := by decide +kernel
  have hc0 : nc ≤ 8 := Nat.le_of_lt hc8
  refine lv_aload_n hx hb dX4_split_0 rfl (lv_at hl 0 rfl) ?_
  refine lv_iload_n hx hb dX4_split_1 rfl (lv_at hl 1 rfl) ?_
  refine nk_VRI (As := [.int i0]) (rest := []) ⟨hx, hb, hml, hown, hts⟩ (mX4_isStream l D bd cb sd (nI zz) (nI tt) st tr (nI nc) gr P Mn T Wt Rn Po Pl Sp Ks Kp Kc Ik O As X i0) (cwV 1 hts gX4_split_X4_isStream rfl rfl rfl (by decide +kernel) ⟨Nat.le_of_ble_eq_true rfl, Nat.le_of_ble_eq_true rfl⟩) hK hP 0 4 rfl rfl rfl rfl hl.1 rfl (Nat.le_of_ble_eq_true rfl) dX4_split_2 ⟨Nat.le_of_ble_eq_true rfl, Nat.le_of_ble_eq_true rfl⟩ (fun r1 hr1 => ?_)
  subst hr1
  refine lv_if_ne (tgt := 10) hx hb dX4_split_5 (by decide) (fun c5 => ?_) (fun c5 => ?_)
  · skip
    refine lv_aload_n hx hb dX4_split_10 rfl (lv_at hl 0 rfl) ?_
    refine va_get (D := D) (ci := 4) (v := .ref (bd 6)) (C := RX4) (T := TX4) (N := 21) hx hb hts iX4 hown hK.1 hP 0 rfl rfl 11 (by decide) (hts (.fieldLink RX4 26 "NamedStreamsModel" "pathOf" "[I") (by decide +kernel)) (fun _ h9 => h9) rfl dX4_split_11 ?_
    refine lv_iload_n hx hb dX4_split_14 rfl (lv_at hl 1 rfl) ?_
    refine va_iald hx hb hK.1 hP 6 5 rfl rfl ((mIs_in c5 (Nat.le_trans hc0 (by decide))).mono hc0) dX4_split_15 ?_
    refine lv_topi (fun z2 ez2 => ?_)
    refine lv_istore_n (lv' := [(2, .int z2), (0, .ref (bd 0)), (1, .int i0)]) hx hb dX4_split_16 rfl hl (by decide) rfl (fun ls hl => ?_)
    obtain rfl : z2 = nI pp := ez2.trans hPo
    refine lv_aload_n hx hb dX4_split_17 rfl (lv_at hl 1 rfl) ?_
    refine va_get (D := D) (ci := 4) (v := .int (nI nc)) (C := RX4) (T := TX4) (N := 21) hx hb hts iX4 hown hK.1 hP 0 rfl rfl 9 (by decide) (hts (.fieldLink RX4 146 "NamedStreamsModel" "streams" "I") (by decide +kernel)) (fun _ h9 => h9) rfl dX4_split_18 ?_
    refine lv_bipush (v := 8) hx hb dX4_split_21 (by decide) ?_
    refine lv_icmp_eq (tgt := 36) hx hb dX4_split_23 (by decide) (fun c23 => ?_) (fun c23 => ?_)
    · skip
      exact absurd c23 (fun h => absurd (ns_8 h) (by omega))
    · skip
      refine lv_aload_n hx hb dX4_split_26 rfl (lv_at hl 1 rfl) ?_
      refine va_get (D := D) (ci := 4) (v := .ref (bd 2)) (C := RX4) (T := TX4) (N := 21) hx hb hts iX4 hown hK.1 hP 0 rfl rfl 3 (by decide) (hts (.fieldLink RX4 13 "NamedStreamsModel" "many" "[I") (by decide +kernel)) (fun _ h9 => h9) rfl dX4_split_27 ?_
      refine lv_iload_n hx hb dX4_split_30 rfl (lv_at hl 0 rfl) ?_
      refine va_iald hx hb hK.1 hP 2 1 rfl rfl (vp_in_nI hpp (by decide)) dX4_split_31 ?_
      refine lv_iconst (v := 4) hx hb dX4_split_32 (by decide) ?_
      refine lv_icmp_ne (tgt := 39) hx hb dX4_split_33 (by decide) (fun c33 => ?_) (fun c33 => ?_)
      · skip
        refine lv_aload_n hx hb dX4_split_39 rfl (lv_at hl 1 rfl) ?_
        refine va_get (D := D) (ci := 4) (v := .int (nI tt)) (C := RX4) (T := TX4) (N := 21) hx hb hts iX4 hown hK.1 hP 0 rfl rfl 5 (by decide) (hts (.fieldLink RX4 68 "NamedStreamsModel" "toldMany" "I") (by decide +kernel)) (fun _ h9 => h9) rfl dX4_split_40 ?_
        refine lv_istore_n (lv' := [(3, .int (nI tt)), (2, .int (nI pp)), (0, .ref (bd 0)), (1, .int i0)]) hx hb dX4_split_43 rfl hl (by decide) rfl (fun ls hl => ?_)
        refine lv_iconst (v := 0) hx hb dX4_split_44 (by decide) ?_
        refine lv_istore (lv' := [(4, .int (0 : Int32)), (3, .int (nI tt)), (2, .int (nI pp)), (0, .ref (bd 0)), (1, .int i0)]) hx hb dX4_split_45 hl (by decide) rfl (fun ls hl => ?_)
        have lp47 : ∀ (k : Nat) (i47 : Int32) (A1 : Nat → Int64) (H : Heap) (locs : List Loc) (ls : Array Slot), (k ≤ 4) → (i47 = nI (4 - k)) → (mAs T k A1 = mAs T 4 As) → va_P D vwCl (wM bd cb sd (nI zz) (nI tt) st tr (nI nc) gr P Mn T Wt Rn Po Pl Sp Ks Kp Kc Ik O A1 X) H → va_D A (wM bd cb sd (nI zz) (nI tt) st tr (nI nc) gr P Mn T Wt Rn Po Pl Sp Ks Kp Kc Ik O A1 X) → va_S A s.heap H locs → lv_has ls 6 [(4, .int i47), (3, .int (nI tt)), (2, .int (nI pp)), (0, .ref (bd 0)), (1, .int i0)] → W p l e ({ frames := 2, cells := 0, slots := 0, locals := 46 } : Room) s m ([.ref (bd 0), .int i0] : List Value).toArray below meth c H locs 0 0 (MQ below (va_Qi (fun r u => mSplit P Mn T As Rn Po Pl Sp nc zz pp ll i0 = (r, u)) (nkB D A (fun u : (Nat → Int64) × (Nat → Int64) × sMp × sBg => wM bd cb sd u.2.2.1.2.2 (nI tt) st tr u.2.2.2.1 gr u.2.2.1.1 u.2.2.1.2.1 u.1 Wt u.2.2.2.2.1 u.2.2.2.2.2.1 u.2.2.2.2.2.2.1 u.2.2.2.2.2.2.2 Ks Kp Kc Ik O u.2.1 X)) A) ([.ref (bd 0), .int i0] : List Value).toArray s 0 0 A) (F0 m 47 ls []) := by
          intro k
          induction k with
          | zero =>
            intro i47 A1 H locs ls hk47 hi47 ht47 hP hD hS hl
            obtain rfl : A1 = mAs T 4 As := ht47
            refine lv_iload hx hb dX4_split_47 (lv_at hl 0 rfl) ?_
            refine lv_iconst (v := 4) hx hb dX4_split_49 (by decide) ?_
            refine lv_icmp_ge (tgt := 73) hx hb dX4_split_50 (by decide) (fun c50 => ?_) (fun c50 => ?_)
            · skip
              refine lv_aload_n hx hb dX4_split_73 rfl (lv_at hl 3 rfl) ?_
              refine lv_aload_n hx hb dX4_split_74 rfl (lv_at hl 3 rfl) ?_
              refine va_get (D := D) (ci := 4) (v := .ref (bd 2)) (C := RX4) (T := TX4) (N := 21) hx hb hts iX4 hown hK.1 hP 0 rfl rfl 3 (by decide) (hts (.fieldLink RX4 13 "NamedStreamsModel" "many" "[I") (by decide +kernel)) (fun _ h9 => h9) rfl dX4_split_75 ?_
              refine lv_iload_n hx hb dX4_split_78 rfl (lv_at hl 2 rfl) ?_
              refine va_iald hx hb hK.1 hP 2 1 rfl rfl (vp_in_nI hpp (by decide)) dX4_split_79 ?_
              refine lv_iconst (v := 1) hx hb dX4_split_80 (by decide) ?_
              refine lv_iadd hx hb dX4_split_81 ?_
              refine W.eq (g2 := F0 m 82 ls [.int (nI (ll + 1)), .ref (bd 0)]) (by rw [hl0, nI_1]) ?_
              refine va_put (D := D) (ci := 4) (v := .int (nI (ll + 1))) (ty := .int) (C := RX4) (T := TX4) (N := 21) hx hb hts iX4 tyX4 tyX4_ok nmX4 hown hK.1 hP hD hS 0 rfl rfl 5 (by decide) (hts (.fieldLink RX4 68 "NamedStreamsModel" "toldMany" "I") (by decide +kernel)) (fun _ h9 => h9) rfl (by decide +kernel) rfl rfl (Nat.le_of_ble_eq_true rfl) dX4_split_82 (fun H locs hP hD hS => ?_)
              have hP : va_P D vwCl (wM bd cb sd (nI zz) (nI (ll + 1)) st tr (nI nc) gr P Mn T Wt Rn Po Pl Sp Ks Kp Kc Ik O (mAs T 4 As) X) H := hP
              have hD : va_D A (wM bd cb sd (nI zz) (nI (ll + 1)) st tr (nI nc) gr P Mn T Wt Rn Po Pl Sp Ks Kp Kc Ik O (mAs T 4 As) X) := hD
              refine lv_iconst (v := 0) hx hb dX4_split_85 (by decide) ?_
              refine lv_istore (lv' := [(4, .int (0 : Int32)), (3, .int (nI tt)), (2, .int (nI pp)), (0, .ref (bd 0)), (1, .int i0)]) hx hb dX4_split_86 hl (by decide) rfl (fun ls hl => ?_)
              have lp88 : ∀ (k : Nat) (i88 : Int32) (T1 : Nat → Int64) (H : Heap) (locs : List Loc) (ls : Array Slot), (k ≤ ll) → (i88 = nI (ll - k)) → (mTc P (nI pp) ll k T1 = mTc P (nI pp) ll ll T) → va_P D vwCl (wM bd cb sd (nI zz) (nI (ll + 1)) st tr (nI nc) gr P Mn T1 Wt Rn Po Pl Sp Ks Kp Kc Ik O (mAs T 4 As) X) H → va_D A (wM bd cb sd (nI zz) (nI (ll + 1)) st tr (nI nc) gr P Mn T1 Wt Rn Po Pl Sp Ks Kp Kc Ik O (mAs T 4 As) X) → va_S A s.heap H locs → lv_has ls 6 [(4, .int i88), (3, .int (nI tt)), (2, .int (nI pp)), (0, .ref (bd 0)), (1, .int i0)] → W p l e ({ frames := 2, cells := 0, slots := 0, locals := 46 } : Room) s m ([.ref (bd 0), .int i0] : List Value).toArray below meth c H locs 0 0 (MQ below (va_Qi (fun r u => mSplit P Mn T As Rn Po Pl Sp nc zz pp ll i0 = (r, u)) (nkB D A (fun u : (Nat → Int64) × (Nat → Int64) × sMp × sBg => wM bd cb sd u.2.2.1.2.2 (nI tt) st tr u.2.2.2.1 gr u.2.2.1.1 u.2.2.1.2.1 u.1 Wt u.2.2.2.2.1 u.2.2.2.2.2.1 u.2.2.2.2.2.2.1 u.2.2.2.2.2.2.2 Ks Kp Kc Ik O u.2.1 X)) A) ([.ref (bd 0), .int i0] : List Value).toArray s 0 0 A) (F0 m 88 ls []) := by
                intro k
                induction k with
                | zero =>
                  intro i88 T1 H locs ls hk88 hi88 ht88 hP hD hS hl
                  obtain rfl : T1 = mTc P (nI pp) ll ll T := ht88
                  refine lv_iload hx hb dX4_split_88 (lv_at hl 0 rfl) ?_
                  refine lv_aload_n hx hb dX4_split_90 rfl (lv_at hl 3 rfl) ?_
                  refine va_get (D := D) (ci := 4) (v := .ref (bd 2)) (C := RX4) (T := TX4) (N := 21) hx hb hts iX4 hown hK.1 hP 0 rfl rfl 3 (by decide) (hts (.fieldLink RX4 13 "NamedStreamsModel" "many" "[I") (by decide +kernel)) (fun _ h9 => h9) rfl dX4_split_91 ?_
                  refine lv_iload_n hx hb dX4_split_94 rfl (lv_at hl 2 rfl) ?_
                  refine va_iald hx hb hK.1 hP 2 1 rfl rfl (vp_in_nI hpp (by decide)) dX4_split_95 ?_
                  refine lv_icmp_ge (tgt := 123) hx hb dX4_split_96 (by decide) (fun c96 => ?_) (fun c96 => ?_)
                  · skip
                    refine lv_aload_n hx hb dX4_split_123 rfl (lv_at hl 3 rfl) ?_
                    refine va_get (D := D) (ci := 4) (v := .ref (bd 3)) (C := RX4) (T := TX4) (N := 21) hx hb hts iX4 hown hK.1 hP 0 rfl rfl 4 (by decide) (hts (.fieldLink RX4 17 "NamedStreamsModel" "told" "[J") (by decide +kernel)) (fun _ h9 => h9) rfl dX4_split_124 ?_
                    refine lv_aload_n hx hb dX4_split_127 rfl (lv_at hl 3 rfl) ?_
                    refine va_get (D := D) (ci := 4) (v := .ref (bd 2)) (C := RX4) (T := TX4) (N := 21) hx hb hts iX4 hown hK.1 hP 0 rfl rfl 3 (by decide) (hts (.fieldLink RX4 13 "NamedStreamsModel" "many" "[I") (by decide +kernel)) (fun _ h9 => h9) rfl dX4_split_128 ?_
                    refine lv_iload_n hx hb dX4_split_131 rfl (lv_at hl 2 rfl) ?_
                    refine va_iald hx hb hK.1 hP 2 1 rfl rfl (vp_in_nI hpp (by decide)) dX4_split_132 ?_
                    refine lv_aload_n hx hb dX4_split_133 rfl (lv_at hl 3 rfl) ?_
                    refine va_get (D := D) (ci := 4) (v := .ref (bd 8)) (C := RX4) (T := TX4) (N := 21) hx hb hts iX4 hown hK.1 hP 0 rfl rfl 13 (by decide) (hts (.fieldLink RX4 32 "NamedStreamsModel" "splits" "[I") (by decide +kernel)) (fun _ h9 => h9) rfl dX4_split_134 ?_
                    refine lv_iload_n hx hb dX4_split_137 rfl (lv_at hl 4 rfl) ?_
                    refine va_iald hx hb hK.1 hP 8 7 rfl rfl ((mIs_in c5 (Nat.le_trans hc0 (by decide))).mono hc0) dX4_split_138 ?_
                    refine lv_i2l hx hb dX4_split_139 rfl ?_
                    refine lv_topl (fun z3 ez3 => ?_)
                    refine va_last hx hb hK.1 hP hD hS 3 2 rfl rfl (by rw [hl0]; exact vp_in_nI hl4 (by decide)) dX4_split_140 (fun H locs hP hD hS => ?_)
                    have hP : va_P D vwCl (wM bd cb sd (nI zz) (nI (ll + 1)) st tr (nI nc) gr P Mn (vp_updL (mTc P (nI pp) ll ll T) (Int32.toNatClampNeg (Mn (Int32.toNatClampNeg (nI pp)))) z3) Wt Rn Po Pl Sp Ks Kp Kc Ik O (mAs T 4 As) X) H := hP
                    have hD : va_D A (wM bd cb sd (nI zz) (nI (ll + 1)) st tr (nI nc) gr P Mn (vp_updL (mTc P (nI pp) ll ll T) (Int32.toNatClampNeg (Mn (Int32.toNatClampNeg (nI pp)))) z3) Wt Rn Po Pl Sp Ks Kp Kc Ik O (mAs T 4 As) X) := hD
                    have hTz := hP
                    subst ez3
                    rw [hl0] at hP hD
                    have hP : va_P D vwCl (wM bd cb sd (nI zz) (nI (ll + 1)) st tr (nI nc) gr P Mn (vp_updL (mTc P (nI pp) ll ll T) (Int32.toNatClampNeg (nI ll)) (Int32.toInt64 (Sp (Int32.toNatClampNeg i0)))) Wt Rn Po Pl Sp Ks Kp Kc Ik O (mAs T 4 As) X) H := hP
                    have hD : va_D A (wM bd cb sd (nI zz) (nI (ll + 1)) st tr (nI nc) gr P Mn (vp_updL (mTc P (nI pp) ll ll T) (Int32.toNatClampNeg (nI ll)) (Int32.toInt64 (Sp (Int32.toNatClampNeg i0)))) Wt Rn Po Pl Sp Ks Kp Kc Ik O (mAs T 4 As) X) := hD
                    refine lv_aload_n hx hb dX4_split_141 rfl (lv_at hl 3 rfl) ?_
                    refine nk_VI (As := []) (rest := []) ⟨hx, hb, hml, hown, hts⟩ (mX4_takePath l D bd cb sd st tr (nI nc) gr P Mn (vp_updL (mTc P (nI pp) ll ll T) (Int32.toNatClampNeg (nI ll)) (Int32.toInt64 (Sp (Int32.toNatClampNeg i0)))) Wt Rn Po Pl Sp Ks Kp Kc Ik O (mAs T 4 As) X zz (ll + 1) hz0 (by omega)) (cwV 0 hts gX4_split_X4_takePath rfl rfl rfl (by decide +kernel) ⟨Nat.le_of_ble_eq_true rfl, Nat.le_of_ble_eq_true rfl⟩) hK hP hD hS hA 0 4 rfl rfl rfl rfl hl.1 rfl (Nat.le_of_ble_eq_true rfl) dX4_split_142 ⟨Nat.le_of_ble_eq_true rfl, Nat.le_of_ble_eq_true rfl⟩ (fun r4 ur4 H locs hr4 hP hD hS => ?_)
                    obtain ⟨rfl, rfl⟩ : r4 = (mTake P (vp_updL (mTc P (nI pp) ll ll T) (Int32.toNatClampNeg (nI ll)) (Int32.toInt64 (Sp (Int32.toNatClampNeg i0)))) Mn zz (ll + 1)).1 ∧ ur4 = (mTake P (vp_updL (mTc P (nI pp) ll ll T) (Int32.toNatClampNeg (nI ll)) (Int32.toInt64 (Sp (Int32.toNatClampNeg i0)))) Mn zz (ll + 1)).2 := by rw [hr4]; exact ⟨rfl, rfl⟩
                    have hP : va_P D vwCl (wM bd cb sd ((mTake P (vp_updL (mTc P (nI pp) ll ll T) (Int32.toNatClampNeg (nI ll)) (Int32.toInt64 (Sp (Int32.toNatClampNeg i0)))) Mn zz (ll + 1)).2.2.2) (nI (ll + 1)) st tr (nI nc) gr ((mTake P (vp_updL (mTc P (nI pp) ll ll T) (Int32.toNatClampNeg (nI ll)) (Int32.toInt64 (Sp (Int32.toNatClampNeg i0)))) Mn zz (ll + 1)).2.1) ((mTake P (vp_updL (mTc P (nI pp) ll ll T) (Int32.toNatClampNeg (nI ll)) (Int32.toInt64 (Sp (Int32.toNatClampNeg i0)))) Mn zz (ll + 1)).2.2.1) (vp_updL (mTc P (nI pp) ll ll T) (Int32.toNatClampNeg (nI ll)) (Int32.toInt64 (Sp (Int32.toNatClampNeg i0)))) Wt Rn Po Pl Sp Ks Kp Kc Ik O (mAs T 4 As) X) H := hP
                    have hD : va_D A (wM bd cb sd ((mTake P (vp_updL (mTc P (nI pp) ll ll T) (Int32.toNatClampNeg (nI ll)) (Int32.toInt64 (Sp (Int32.toNatClampNeg i0)))) Mn zz (ll + 1)).2.2.2) (nI (ll + 1)) st tr (nI nc) gr ((mTake P (vp_updL (mTc P (nI pp) ll ll T) (Int32.toNatClampNeg (nI ll)) (Int32.toInt64 (Sp (Int32.toNatClampNeg i0)))) Mn zz (ll + 1)).2.1) ((mTake P (vp_updL (mTc P (nI pp) ll ll T) (Int32.toNatClampNeg (nI ll)) (Int32.toInt64 (Sp (Int32.toNatClampNeg i0)))) Mn zz (ll + 1)).2.2.1) (vp_updL (mTc P (nI pp) ll ll T) (Int32.toNatClampNeg (nI ll)) (Int32.toInt64 (Sp (Int32.toNatClampNeg i0)))) Wt Rn Po Pl Sp Ks Kp Kc Ik O (mAs T 4 As) X) := hD
                    refine lv_topi (fun z5 ez5 => ?_)
                    refine lv_istore (lv' := [(4, .int z5), (3, .int (nI tt)), (2, .int (nI pp)), (0, .ref (bd 0)), (1, .int i0)]) hx hb dX4_split_145 hl (by decide) rfl (fun ls hl => ?_)
                    refine lv_aload_n hx hb dX4_split_147 rfl (lv_at hl 3 rfl) ?_
                    refine lv_iload_n hx hb dX4_split_148 rfl (lv_at hl 1 rfl) ?_
                    refine va_put (D := D) (ci := 4) (v := .int (nI tt)) (ty := .int) (C := RX4) (T := TX4) (N := 21) hx hb hts iX4 tyX4 tyX4_ok nmX4 hown hK.1 hP hD hS 0 rfl rfl 5 (by decide) (hts (.fieldLink RX4 68 "NamedStreamsModel" "toldMany" "I") (by decide +kernel)) (fun _ h9 => h9) rfl (by decide +kernel) rfl rfl (Nat.le_of_ble_eq_true rfl) dX4_split_149 (fun H locs hP hD hS => ?_)
                    have hP : va_P D vwCl (wM bd cb sd ((mTake P (vp_updL (mTc P (nI pp) ll ll T) (Int32.toNatClampNeg (nI ll)) (Int32.toInt64 (Sp (Int32.toNatClampNeg i0)))) Mn zz (ll + 1)).2.2.2) (nI tt) st tr (nI nc) gr ((mTake P (vp_updL (mTc P (nI pp) ll ll T) (Int32.toNatClampNeg (nI ll)) (Int32.toInt64 (Sp (Int32.toNatClampNeg i0)))) Mn zz (ll + 1)).2.1) ((mTake P (vp_updL (mTc P (nI pp) ll ll T) (Int32.toNatClampNeg (nI ll)) (Int32.toInt64 (Sp (Int32.toNatClampNeg i0)))) Mn zz (ll + 1)).2.2.1) (vp_updL (mTc P (nI pp) ll ll T) (Int32.toNatClampNeg (nI ll)) (Int32.toInt64 (Sp (Int32.toNatClampNeg i0)))) Wt Rn Po Pl Sp Ks Kp Kc Ik O (mAs T 4 As) X) H := hP
                    have hD : va_D A (wM bd cb sd ((mTake P (vp_updL (mTc P (nI pp) ll ll T) (Int32.toNatClampNeg (nI ll)) (Int32.toInt64 (Sp (Int32.toNatClampNeg i0)))) Mn zz (ll + 1)).2.2.2) (nI tt) st tr (nI nc) gr ((mTake P (vp_updL (mTc P (nI pp) ll ll T) (Int32.toNatClampNeg (nI ll)) (Int32.toInt64 (Sp (Int32.toNatClampNeg i0)))) Mn zz (ll + 1)).2.1) ((mTake P (vp_updL (mTc P (nI pp) ll ll T) (Int32.toNatClampNeg (nI ll)) (Int32.toInt64 (Sp (Int32.toNatClampNeg i0)))) Mn zz (ll + 1)).2.2.1) (vp_updL (mTc P (nI pp) ll ll T) (Int32.toNatClampNeg (nI ll)) (Int32.toInt64 (Sp (Int32.toNatClampNeg i0)))) Wt Rn Po Pl Sp Ks Kp Kc Ik O (mAs T 4 As) X) := hD
                    refine lv_iconst (v := 0) hx hb dX4_split_152 (by decide) ?_
                    refine lv_istore (lv' := [(5, .int (0 : Int32)), (4, .int z5), (3, .int (nI tt)), (2, .int (nI pp)), (0, .ref (bd 0)), (1, .int i0)]) hx hb dX4_split_153 hl (by decide) rfl (fun ls hl => ?_)
                    have lp155 : ∀ (k : Nat) (i155 : Int32) (T3 : Nat → Int64) (H : Heap) (locs : List Loc) (ls : Array Slot), (k ≤ 4) → (i155 = nI (4 - k)) → (mAs (mAs T 4 As) k T3 = mAs (mAs T 4 As) 4 (vp_updL (mTc P (nI pp) ll ll T) (Int32.toNatClampNeg (nI ll)) (Int32.toInt64 (Sp (Int32.toNatClampNeg i0))))) → va_P D vwCl (wM bd cb sd ((mTake P (vp_updL (mTc P (nI pp) ll ll T) (Int32.toNatClampNeg (nI ll)) (Int32.toInt64 (Sp (Int32.toNatClampNeg i0)))) Mn zz (ll + 1)).2.2.2) (nI tt) st tr (nI nc) gr ((mTake P (vp_updL (mTc P (nI pp) ll ll T) (Int32.toNatClampNeg (nI ll)) (Int32.toInt64 (Sp (Int32.toNatClampNeg i0)))) Mn zz (ll + 1)).2.1) ((mTake P (vp_updL (mTc P (nI pp) ll ll T) (Int32.toNatClampNeg (nI ll)) (Int32.toInt64 (Sp (Int32.toNatClampNeg i0)))) Mn zz (ll + 1)).2.2.1) T3 Wt Rn Po Pl Sp Ks Kp Kc Ik O (mAs T 4 As) X) H → va_D A (wM bd cb sd ((mTake P (vp_updL (mTc P (nI pp) ll ll T) (Int32.toNatClampNeg (nI ll)) (Int32.toInt64 (Sp (Int32.toNatClampNeg i0)))) Mn zz (ll + 1)).2.2.2) (nI tt) st tr (nI nc) gr ((mTake P (vp_updL (mTc P (nI pp) ll ll T) (Int32.toNatClampNeg (nI ll)) (Int32.toInt64 (Sp (Int32.toNatClampNeg i0)))) Mn zz (ll + 1)).2.1) ((mTake P (vp_updL (mTc P (nI pp) ll ll T) (Int32.toNatClampNeg (nI ll)) (Int32.toInt64 (Sp (Int32.toNatClampNeg i0)))) Mn zz (ll + 1)).2.2.1) T3 Wt Rn Po Pl Sp Ks Kp Kc Ik O (mAs T 4 As) X) → va_S A s.heap H locs → lv_has ls 6 [(5, .int i155), (4, .int z5), (3, .int (nI tt)), (2, .int (nI pp)), (0, .ref (bd 0)), (1, .int i0)] → W p l e ({ frames := 2, cells := 0, slots := 0, locals := 46 } : Room) s m ([.ref (bd 0), .int i0] : List Value).toArray below meth c H locs 0 0 (MQ below (va_Qi (fun r u => mSplit P Mn T As Rn Po Pl Sp nc zz pp ll i0 = (r, u)) (nkB D A (fun u : (Nat → Int64) × (Nat → Int64) × sMp × sBg => wM bd cb sd u.2.2.1.2.2 (nI tt) st tr u.2.2.2.1 gr u.2.2.1.1 u.2.2.1.2.1 u.1 Wt u.2.2.2.2.1 u.2.2.2.2.2.1 u.2.2.2.2.2.2.1 u.2.2.2.2.2.2.2 Ks Kp Kc Ik O u.2.1 X)) A) ([.ref (bd 0), .int i0] : List Value).toArray s 0 0 A) (F0 m 155 ls []) := by
                      intro k
                      induction k with
                      | zero =>
                        intro i155 T3 H locs ls hk155 hi155 ht155 hP hD hS hl
                        obtain rfl : T3 = mAs (mAs T 4 As) 4 (vp_updL (mTc P (nI pp) ll ll T) (Int32.toNatClampNeg (nI ll)) (Int32.toInt64 (Sp (Int32.toNatClampNeg i0)))) := ht155
                        refine lv_iload hx hb dX4_split_155 (lv_at hl 0 rfl) ?_
                        refine lv_iconst (v := 4) hx hb dX4_split_157 (by decide) ?_
                        refine lv_icmp_ge (tgt := 181) hx hb dX4_split_158 (by decide) (fun c158 => ?_) (fun c158 => ?_)
                        · skip
                          refine lv_iload hx hb dX4_split_181 (lv_at hl 1 rfl) ?_
                          refine lv_if_ge (tgt := 189) hx hb dX4_split_183 (by decide) (fun c183 => ?_) (fun c183 => ?_)
                          · skip
                            refine lv_aload_n hx hb dX4_split_189 rfl (lv_at hl 4 rfl) ?_
                            refine va_get (D := D) (ci := 4) (v := .ref (bd 8)) (C := RX4) (T := TX4) (N := 21) hx hb hts iX4 hown hK.1 hP 0 rfl rfl 13 (by decide) (hts (.fieldLink RX4 32 "NamedStreamsModel" "splits" "[I") (by decide +kernel)) (fun _ h9 => h9) rfl dX4_split_190 ?_
                            refine lv_iload_n hx hb dX4_split_193 rfl (lv_at hl 5 rfl) ?_
                            refine lv_dup2_11 hx hb dX4_split_194 rfl rfl ?_
                            refine va_iald hx hb hK.1 hP 8 7 rfl rfl ((mIs_in c5 (Nat.le_trans hc0 (by decide))).mono hc0) dX4_split_195 ?_
                            refine lv_iconst (v := 1) hx hb dX4_split_196 (by decide) ?_
                            refine lv_iadd hx hb dX4_split_197 ?_
                            refine lv_topi (fun z6 ez6 => ?_)
                            refine va_iast hx hb hK.1 hP hD hS 8 7 rfl rfl ((mIs_in c5 (Nat.le_trans hc0 (by decide))).mono hc0) dX4_split_198 (fun H locs hP hD hS => ?_)
                            have hP : va_P D vwCl (wM bd cb sd ((mTake P (vp_updL (mTc P (nI pp) ll ll T) (Int32.toNatClampNeg (nI ll)) (Int32.toInt64 (Sp (Int32.toNatClampNeg i0)))) Mn zz (ll + 1)).2.2.2) (nI tt) st tr (nI nc) gr ((mTake P (vp_updL (mTc P (nI pp) ll ll T) (Int32.toNatClampNeg (nI ll)) (Int32.toInt64 (Sp (Int32.toNatClampNeg i0)))) Mn zz (ll + 1)).2.1) ((mTake P (vp_updL (mTc P (nI pp) ll ll T) (Int32.toNatClampNeg (nI ll)) (Int32.toInt64 (Sp (Int32.toNatClampNeg i0)))) Mn zz (ll + 1)).2.2.1) (mAs (mAs T 4 As) 4 (vp_updL (mTc P (nI pp) ll ll T) (Int32.toNatClampNeg (nI ll)) (Int32.toInt64 (Sp (Int32.toNatClampNeg i0))))) Wt Rn Po Pl (upd Sp (Int32.toNatClampNeg i0) z6) Ks Kp Kc Ik O (mAs T 4 As) X) H := hP
                            have hD : va_D A (wM bd cb sd ((mTake P (vp_updL (mTc P (nI pp) ll ll T) (Int32.toNatClampNeg (nI ll)) (Int32.toInt64 (Sp (Int32.toNatClampNeg i0)))) Mn zz (ll + 1)).2.2.2) (nI tt) st tr (nI nc) gr ((mTake P (vp_updL (mTc P (nI pp) ll ll T) (Int32.toNatClampNeg (nI ll)) (Int32.toInt64 (Sp (Int32.toNatClampNeg i0)))) Mn zz (ll + 1)).2.1) ((mTake P (vp_updL (mTc P (nI pp) ll ll T) (Int32.toNatClampNeg (nI ll)) (Int32.toInt64 (Sp (Int32.toNatClampNeg i0)))) Mn zz (ll + 1)).2.2.1) (mAs (mAs T 4 As) 4 (vp_updL (mTc P (nI pp) ll ll T) (Int32.toNatClampNeg (nI ll)) (Int32.toInt64 (Sp (Int32.toNatClampNeg i0))))) Wt Rn Po Pl (upd Sp (Int32.toNatClampNeg i0) z6) Ks Kp Kc Ik O (mAs T 4 As) X) := hD
                            refine lv_aload_n hx hb dX4_split_199 rfl (lv_at hl 4 rfl) ?_
                            refine lv_aload_n hx hb dX4_split_200 rfl (lv_at hl 4 rfl) ?_
                            refine va_get (D := D) (ci := 4) (v := .ref (bd 5)) (C := RX4) (T := TX4) (N := 21) hx hb hts iX4 hown hK.1 hP 0 rfl rfl 10 (by decide) (hts (.fieldLink RX4 23 "NamedStreamsModel" "run" "[J") (by decide +kernel)) (fun _ h9 => h9) rfl dX4_split_201 ?_
                            refine lv_iload_n hx hb dX4_split_204 rfl (lv_at hl 5 rfl) ?_
                            refine va_lald hx hb hK.1 hP 5 4 rfl rfl ((mIs_in c5 (Nat.le_trans hc0 (by decide))).mono hc0) dX4_split_205 ?_
                            refine lv_iload hx hb dX4_split_206 (lv_at hl 1 rfl) ?_
                            refine nk_VI (As := [.long (Rn (Int32.toNatClampNeg i0)), .int z5]) (rest := []) ⟨hx, hb, hml, hown, hts⟩ (mX4_begin l D bd cb sd ((mTake P (vp_updL (mTc P (nI pp) ll ll T) (Int32.toNatClampNeg (nI ll)) (Int32.toInt64 (Sp (Int32.toNatClampNeg i0)))) Mn zz (ll + 1)).2.2.2) (nI tt) st tr (nI nc) gr ((mTake P (vp_updL (mTc P (nI pp) ll ll T) (Int32.toNatClampNeg (nI ll)) (Int32.toInt64 (Sp (Int32.toNatClampNeg i0)))) Mn zz (ll + 1)).2.1) ((mTake P (vp_updL (mTc P (nI pp) ll ll T) (Int32.toNatClampNeg (nI ll)) (Int32.toInt64 (Sp (Int32.toNatClampNeg i0)))) Mn zz (ll + 1)).2.2.1) (mAs (mAs T 4 As) 4 (vp_updL (mTc P (nI pp) ll ll T) (Int32.toNatClampNeg (nI ll)) (Int32.toInt64 (Sp (Int32.toNatClampNeg i0))))) Wt Rn Po Pl (upd Sp (Int32.toNatClampNeg i0) z6) Ks Kp Kc Ik O (mAs T 4 As) X (Rn (Int32.toNatClampNeg i0)) z5 (vp_in_nI hc8 (by decide))) (cwV 2 hts gX4_split_X4_begin rfl rfl rfl (by decide +kernel) ⟨Nat.le_of_ble_eq_true rfl, Nat.le_of_ble_eq_true rfl⟩) hK hP hD hS hA 0 4 rfl rfl rfl rfl hl.1 rfl (Nat.le_of_ble_eq_true rfl) dX4_split_208 ⟨Nat.le_of_ble_eq_true rfl, Nat.le_of_ble_eq_true rfl⟩ (fun r7 ur7 H locs hr7 hP hD hS => ?_)
                            obtain ⟨rfl, rfl⟩ : r7 = (mBegin (nI nc) Rn Po Pl (upd Sp (Int32.toNatClampNeg i0) z6) (Rn (Int32.toNatClampNeg i0)) z5).1 ∧ ur7 = (mBegin (nI nc) Rn Po Pl (upd Sp (Int32.toNatClampNeg i0) z6) (Rn (Int32.toNatClampNeg i0)) z5).2 := by rw [hr7]; exact ⟨rfl, rfl⟩
                            have hP : va_P D vwCl (wM bd cb sd ((mTake P (vp_updL (mTc P (nI pp) ll ll T) (Int32.toNatClampNeg (nI ll)) (Int32.toInt64 (Sp (Int32.toNatClampNeg i0)))) Mn zz (ll + 1)).2.2.2) (nI tt) st tr ((mBegin (nI nc) Rn Po Pl (upd Sp (Int32.toNatClampNeg i0) z6) (Rn (Int32.toNatClampNeg i0)) z5).2.1) gr ((mTake P (vp_updL (mTc P (nI pp) ll ll T) (Int32.toNatClampNeg (nI ll)) (Int32.toInt64 (Sp (Int32.toNatClampNeg i0)))) Mn zz (ll + 1)).2.1) ((mTake P (vp_updL (mTc P (nI pp) ll ll T) (Int32.toNatClampNeg (nI ll)) (Int32.toInt64 (Sp (Int32.toNatClampNeg i0)))) Mn zz (ll + 1)).2.2.1) (mAs (mAs T 4 As) 4 (vp_updL (mTc P (nI pp) ll ll T) (Int32.toNatClampNeg (nI ll)) (Int32.toInt64 (Sp (Int32.toNatClampNeg i0))))) Wt ((mBegin (nI nc) Rn Po Pl (upd Sp (Int32.toNatClampNeg i0) z6) (Rn (Int32.toNatClampNeg i0)) z5).2.2.1) ((mBegin (nI nc) Rn Po Pl (upd Sp (Int32.toNatClampNeg i0) z6) (Rn (Int32.toNatClampNeg i0)) z5).2.2.2.1) ((mBegin (nI nc) Rn Po Pl (upd Sp (Int32.toNatClampNeg i0) z6) (Rn (Int32.toNatClampNeg i0)) z5).2.2.2.2.1) ((mBegin (nI nc) Rn Po Pl (upd Sp (Int32.toNatClampNeg i0) z6) (Rn (Int32.toNatClampNeg i0)) z5).2.2.2.2.2) Ks Kp Kc Ik O (mAs T 4 As) X) H := hP
                            have hD : va_D A (wM bd cb sd ((mTake P (vp_updL (mTc P (nI pp) ll ll T) (Int32.toNatClampNeg (nI ll)) (Int32.toInt64 (Sp (Int32.toNatClampNeg i0)))) Mn zz (ll + 1)).2.2.2) (nI tt) st tr ((mBegin (nI nc) Rn Po Pl (upd Sp (Int32.toNatClampNeg i0) z6) (Rn (Int32.toNatClampNeg i0)) z5).2.1) gr ((mTake P (vp_updL (mTc P (nI pp) ll ll T) (Int32.toNatClampNeg (nI ll)) (Int32.toInt64 (Sp (Int32.toNatClampNeg i0)))) Mn zz (ll + 1)).2.1) ((mTake P (vp_updL (mTc P (nI pp) ll ll T) (Int32.toNatClampNeg (nI ll)) (Int32.toInt64 (Sp (Int32.toNatClampNeg i0)))) Mn zz (ll + 1)).2.2.1) (mAs (mAs T 4 As) 4 (vp_updL (mTc P (nI pp) ll ll T) (Int32.toNatClampNeg (nI ll)) (Int32.toInt64 (Sp (Int32.toNatClampNeg i0))))) Wt ((mBegin (nI nc) Rn Po Pl (upd Sp (Int32.toNatClampNeg i0) z6) (Rn (Int32.toNatClampNeg i0)) z5).2.2.1) ((mBegin (nI nc) Rn Po Pl (upd Sp (Int32.toNatClampNeg i0) z6) (Rn (Int32.toNatClampNeg i0)) z5).2.2.2.1) ((mBegin (nI nc) Rn Po Pl (upd Sp (Int32.toNatClampNeg i0) z6) (Rn (Int32.toNatClampNeg i0)) z5).2.2.2.2.1) ((mBegin (nI nc) Rn Po Pl (upd Sp (Int32.toNatClampNeg i0) z6) (Rn (Int32.toNatClampNeg i0)) z5).2.2.2.2.2) Ks Kp Kc Ik O (mAs T 4 As) X) := hD
                            exact nk_retI (g := _) ((mAs (mAs T 4 As) 4 (vp_updL (mTc P (nI pp) ll ll T) (Int32.toNatClampNeg (nI ll)) (Int32.toInt64 (Sp (Int32.toNatClampNeg i0))))), (mAs T 4 As), ((mTake P (vp_updL (mTc P (nI pp) ll ll T) (Int32.toNatClampNeg (nI ll)) (Int32.toInt64 (Sp (Int32.toNatClampNeg i0)))) Mn zz (ll + 1)).2.1, (mTake P (vp_updL (mTc P (nI pp) ll ll T) (Int32.toNatClampNeg (nI ll)) (Int32.toInt64 (Sp (Int32.toNatClampNeg i0)))) Mn zz (ll + 1)).2.2.1, (mTake P (vp_updL (mTc P (nI pp) ll ll T) (Int32.toNatClampNeg (nI ll)) (Int32.toInt64 (Sp (Int32.toNatClampNeg i0)))) Mn zz (ll + 1)).2.2.2), ((mBegin (nI nc) Rn Po Pl (upd Sp (Int32.toNatClampNeg i0) z6) (Rn (Int32.toNatClampNeg i0)) z5).2.1, (mBegin (nI nc) Rn Po Pl (upd Sp (Int32.toNatClampNeg i0) z6) (Rn (Int32.toNatClampNeg i0)) z5).2.2.1, (mBegin (nI nc) Rn Po Pl (upd Sp (Int32.toNatClampNeg i0) z6) (Rn (Int32.toNatClampNeg i0)) z5).2.2.2.1, (mBegin (nI nc) Rn Po Pl (upd Sp (Int32.toNatClampNeg i0) z6) (Rn (Int32.toNatClampNeg i0)) z5).2.2.2.2.1, (mBegin (nI nc) Rn Po Pl (upd Sp (Int32.toNatClampNeg i0) z6) (Rn (Int32.toNatClampNeg i0)) z5).2.2.2.2.2)) hx hb hr hlocks hP hD hS dX4_split_211 (by subst ez5; subst ez6; exact if_pos c183)
                          · skip
                            refine lv_bipush (v := -2) hx hb dX4_split_186 (by decide) ?_
                            exact nk_retI (g := _) ((mAs (mAs T 4 As) 4 (vp_updL (mTc P (nI pp) ll ll T) (Int32.toNatClampNeg (nI ll)) (Int32.toInt64 (Sp (Int32.toNatClampNeg i0))))), (mAs T 4 As), ((mTake P (vp_updL (mTc P (nI pp) ll ll T) (Int32.toNatClampNeg (nI ll)) (Int32.toInt64 (Sp (Int32.toNatClampNeg i0)))) Mn zz (ll + 1)).2.1, (mTake P (vp_updL (mTc P (nI pp) ll ll T) (Int32.toNatClampNeg (nI ll)) (Int32.toInt64 (Sp (Int32.toNatClampNeg i0)))) Mn zz (ll + 1)).2.2.1, (mTake P (vp_updL (mTc P (nI pp) ll ll T) (Int32.toNatClampNeg (nI ll)) (Int32.toInt64 (Sp (Int32.toNatClampNeg i0)))) Mn zz (ll + 1)).2.2.2), ((nI nc), Rn, Po, Pl, Sp)) hx hb hr hlocks hP hD hS dX4_split_188 (by subst ez5; exact if_neg c183)
                        · skip
                          exact absurd (by rw [hi155]; decide) c158
                      | succ k ih155 =>
                        intro i155 T3 H locs ls hk155 hi155 ht155 hP hD hS hl
                        refine lv_iload hx hb dX4_split_155 (lv_at hl 0 rfl) ?_
                        refine lv_iconst (v := 4) hx hb dX4_split_157 (by decide) ?_
                        refine lv_icmp_ge (tgt := 181) hx hb dX4_split_158 (by decide) (fun c158 => ?_) (fun c158 => ?_)
                        · skip
                          exact absurd c158 (Int32.not_le.mpr (by rw [hi155]; exact ns_nI_lt (n := 4) rfl (by omega) (by decide)))
                        · skip
                          refine lv_aload_n hx hb dX4_split_161 rfl (lv_at hl 4 rfl) ?_
                          refine va_get (D := D) (ci := 4) (v := .ref (bd 3)) (C := RX4) (T := TX4) (N := 21) hx hb hts iX4 hown hK.1 hP 0 rfl rfl 4 (by decide) (hts (.fieldLink RX4 17 "NamedStreamsModel" "told" "[J") (by decide +kernel)) (fun _ h9 => h9) rfl dX4_split_162 ?_
                          refine lv_iload hx hb dX4_split_165 (lv_at hl 0 rfl) ?_
                          refine lv_aload_n hx hb dX4_split_167 rfl (lv_at hl 4 rfl) ?_
                          refine va_get (D := D) (ci := 4) (v := .ref (bd 14)) (C := RX4) (T := TX4) (N := 21) hx hb hts iX4 hown hK.1 hP 0 rfl rfl 20 (by decide) (hts (.fieldLink RX4 51 "NamedStreamsModel" "aside" "[J") (by decide +kernel)) (fun _ h9 => h9) rfl dX4_split_168 ?_
                          refine lv_iload hx hb dX4_split_171 (lv_at hl 0 rfl) ?_
                          refine va_lald hx hb hK.1 hP 14 13 rfl rfl (by rw [hi155]; exact vp_in_nI (by omega) (by decide)) dX4_split_173 ?_
                          refine lv_topl (fun z8 ez8 => ?_)
                          refine va_last hx hb hK.1 hP hD hS 3 2 rfl rfl (by rw [hi155]; exact vp_in_nI (by omega) (by decide)) dX4_split_174 (fun H locs hP hD hS => ?_)
                          have hP : va_P D vwCl (wM bd cb sd ((mTake P (vp_updL (mTc P (nI pp) ll ll T) (Int32.toNatClampNeg (nI ll)) (Int32.toInt64 (Sp (Int32.toNatClampNeg i0)))) Mn zz (ll + 1)).2.2.2) (nI tt) st tr (nI nc) gr ((mTake P (vp_updL (mTc P (nI pp) ll ll T) (Int32.toNatClampNeg (nI ll)) (Int32.toInt64 (Sp (Int32.toNatClampNeg i0)))) Mn zz (ll + 1)).2.1) ((mTake P (vp_updL (mTc P (nI pp) ll ll T) (Int32.toNatClampNeg (nI ll)) (Int32.toInt64 (Sp (Int32.toNatClampNeg i0)))) Mn zz (ll + 1)).2.2.1) (vp_updL T3 (Int32.toNatClampNeg i155) z8) Wt Rn Po Pl Sp Ks Kp Kc Ik O (mAs T 4 As) X) H := hP
                          have hD : va_D A (wM bd cb sd ((mTake P (vp_updL (mTc P (nI pp) ll ll T) (Int32.toNatClampNeg (nI ll)) (Int32.toInt64 (Sp (Int32.toNatClampNeg i0)))) Mn zz (ll + 1)).2.2.2) (nI tt) st tr (nI nc) gr ((mTake P (vp_updL (mTc P (nI pp) ll ll T) (Int32.toNatClampNeg (nI ll)) (Int32.toInt64 (Sp (Int32.toNatClampNeg i0)))) Mn zz (ll + 1)).2.1) ((mTake P (vp_updL (mTc P (nI pp) ll ll T) (Int32.toNatClampNeg (nI ll)) (Int32.toInt64 (Sp (Int32.toNatClampNeg i0)))) Mn zz (ll + 1)).2.2.1) (vp_updL T3 (Int32.toNatClampNeg i155) z8) Wt Rn Po Pl Sp Ks Kp Kc Ik O (mAs T 4 As) X) := hD
                          obtain ⟨i9, ei9⟩ : ∃ y : Int32, y = i155 + 1 := ⟨_, rfl⟩
                          refine lv_iinc (v := i9) (lv' := [(5, .int i9), (4, .int z5), (3, .int (nI tt)), (2, .int (nI pp)), (0, .ref (bd 0)), (1, .int i0)]) hx hb dX4_split_175 hl (k := 0) rfl (by rw [ei9]; rfl) (by decide) rfl (fun ls hl => ?_)
                          refine lv_goto (tgt := 155) hx hb dX4_split_178 (by decide) ?_
                          exact ih155 i9 (vp_updL T3 (Int32.toNatClampNeg i155) z8) _ _ _ (Nat.le_of_succ_le hk155) (ns_step hi155 hk155 ei9) (by subst hi155; subst ez8; rw [mAs] at ht155; exact ht155) hP hD hS (lv_sub hl [0, 1, 2, 3, 4, 5] rfl)
                    exact lp155 4 (0 : Int32) (vp_updL (mTc P (nI pp) ll ll T) (Int32.toNatClampNeg (nI ll)) (Int32.toInt64 (Sp (Int32.toNatClampNeg i0)))) _ _ _ (Nat.le_refl 4) (by decide) rfl hP hD hS (lv_sub hl [0, 1, 2, 3, 4, 5] rfl)
                  · skip
                    exact absurd (by rw [hl0, hi88]; exact nI_le (by omega) (by omega)) c96
                | succ k ih88 =>
                  intro i88 T1 H locs ls hk88 hi88 ht88 hP hD hS hl
                  refine lv_iload hx hb dX4_split_88 (lv_at hl 0 rfl) ?_
                  refine lv_aload_n hx hb dX4_split_90 rfl (lv_at hl 3 rfl) ?_
                  refine va_get (D := D) (ci := 4) (v := .ref (bd 2)) (C := RX4) (T := TX4) (N := 21) hx hb hts iX4 hown hK.1 hP 0 rfl rfl 3 (by decide) (hts (.fieldLink RX4 13 "NamedStreamsModel" "many" "[I") (by decide +kernel)) (fun _ h9 => h9) rfl dX4_split_91 ?_
                  refine lv_iload_n hx hb dX4_split_94 rfl (lv_at hl 2 rfl) ?_
                  refine va_iald hx hb hK.1 hP 2 1 rfl rfl (vp_in_nI hpp (by decide)) dX4_split_95 ?_
                  refine lv_icmp_ge (tgt := 123) hx hb dX4_split_96 (by decide) (fun c96 => ?_) (fun c96 => ?_)
                  · skip
                    exact absurd c96 (Int32.not_le.mpr (by rw [hl0, hi88]; exact nI_lt (by omega) (by omega)))
                  · skip
                    refine lv_aload_n hx hb dX4_split_99 rfl (lv_at hl 3 rfl) ?_
                    refine va_get (D := D) (ci := 4) (v := .ref (bd 3)) (C := RX4) (T := TX4) (N := 21) hx hb hts iX4 hown hK.1 hP 0 rfl rfl 4 (by decide) (hts (.fieldLink RX4 17 "NamedStreamsModel" "told" "[J") (by decide +kernel)) (fun _ h9 => h9) rfl dX4_split_100 ?_
                    refine lv_iload hx hb dX4_split_103 (lv_at hl 0 rfl) ?_
                    refine lv_aload_n hx hb dX4_split_105 rfl (lv_at hl 3 rfl) ?_
                    refine va_get (D := D) (ci := 4) (v := .ref (bd 1)) (C := RX4) (T := TX4) (N := 21) hx hb hts iX4 hown hK.1 hP 0 rfl rfl 2 (by decide) (hts (.fieldLink RX4 7 "NamedStreamsModel" "part" "[J") (by decide +kernel)) (fun _ h9 => h9) rfl dX4_split_106 ?_
                    refine lv_iconst (v := 4) hx hb dX4_split_109 (by decide) ?_
                    refine lv_iload_n hx hb dX4_split_110 rfl (lv_at hl 2 rfl) ?_
                    refine lv_imul hx hb dX4_split_111 ?_
                    refine lv_iload hx hb dX4_split_112 (lv_at hl 0 rfl) ?_
                    refine lv_iadd hx hb dX4_split_114 ?_
                    refine va_lald hx hb hK.1 hP 1 0 rfl rfl (by rw [hi88]; exact ns_in96b hpp (by omega)) dX4_split_115 ?_
                    refine lv_topl (fun z10 ez10 => ?_)
                    refine va_last hx hb hK.1 hP hD hS 3 2 rfl rfl (by rw [hi88]; exact vp_in_nI (show ll - (k + 1) < 4 by omega) (by decide)) dX4_split_116 (fun H locs hP hD hS => ?_)
                    have hP : va_P D vwCl (wM bd cb sd (nI zz) (nI (ll + 1)) st tr (nI nc) gr P Mn (vp_updL T1 (Int32.toNatClampNeg i88) z10) Wt Rn Po Pl Sp Ks Kp Kc Ik O (mAs T 4 As) X) H := hP
                    have hD : va_D A (wM bd cb sd (nI zz) (nI (ll + 1)) st tr (nI nc) gr P Mn (vp_updL T1 (Int32.toNatClampNeg i88) z10) Wt Rn Po Pl Sp Ks Kp Kc Ik O (mAs T 4 As) X) := hD
                    obtain ⟨i11, ei11⟩ : ∃ y : Int32, y = i88 + 1 := ⟨_, rfl⟩
                    refine lv_iinc (v := i11) (lv' := [(4, .int i11), (3, .int (nI tt)), (2, .int (nI pp)), (0, .ref (bd 0)), (1, .int i0)]) hx hb dX4_split_117 hl (k := 0) rfl (by rw [ei11]; rfl) (by decide) rfl (fun ls hl => ?_)
                    refine lv_goto (tgt := 88) hx hb dX4_split_120 (by decide) ?_
                    exact ih88 i11 (vp_updL T1 (Int32.toNatClampNeg i88) z10) _ _ _ (Nat.le_of_succ_le hk88) (ns_step hi88 hk88 ei11) (by subst hi88; subst ez10; rw [mTc] at ht88; exact ht88) hP hD hS (lv_sub hl [0, 1, 2, 3, 4] rfl)
              exact lp88 ll (0 : Int32) T _ _ _ (Nat.le_refl ll) (by rw [Nat.sub_self]; rfl) rfl hP hD hS (lv_sub hl [0, 1, 2, 3, 4] rfl)
            · skip
              exact absurd (by rw [hi47]; decide) c50
          | succ k ih47 =>
            intro i47 A1 H locs ls hk47 hi47 ht47 hP hD hS hl
            refine lv_iload hx hb dX4_split_47 (lv_at hl 0 rfl) ?_
            refine lv_iconst (v := 4) hx hb dX4_split_49 (by decide) ?_
            refine lv_icmp_ge (tgt := 73) hx hb dX4_split_50 (by decide) (fun c50 => ?_) (fun c50 => ?_)
            · skip
              exact absurd c50 (Int32.not_le.mpr (by rw [hi47]; exact ns_nI_lt (n := 4) rfl (by omega) (by decide)))
            · skip
              refine lv_aload_n hx hb dX4_split_53 rfl (lv_at hl 3 rfl) ?_
              refine va_get (D := D) (ci := 4) (v := .ref (bd 14)) (C := RX4) (T := TX4) (N := 21) hx hb hts iX4 hown hK.1 hP 0 rfl rfl 20 (by decide) (hts (.fieldLink RX4 51 "NamedStreamsModel" "aside" "[J") (by decide +kernel)) (fun _ h9 => h9) rfl dX4_split_54 ?_
              refine lv_iload hx hb dX4_split_57 (lv_at hl 0 rfl) ?_
              refine lv_aload_n hx hb dX4_split_59 rfl (lv_at hl 3 rfl) ?_
              refine va_get (D := D) (ci := 4) (v := .ref (bd 3)) (C := RX4) (T := TX4) (N := 21) hx hb hts iX4 hown hK.1 hP 0 rfl rfl 4 (by decide) (hts (.fieldLink RX4 17 "NamedStreamsModel" "told" "[J") (by decide +kernel)) (fun _ h9 => h9) rfl dX4_split_60 ?_
              refine lv_iload hx hb dX4_split_63 (lv_at hl 0 rfl) ?_
              refine va_lald hx hb hK.1 hP 3 2 rfl rfl (by rw [hi47]; exact vp_in_nI (by omega) (by decide)) dX4_split_65 ?_
              refine lv_topl (fun z12 ez12 => ?_)
              refine va_last hx hb hK.1 hP hD hS 14 13 rfl rfl (by rw [hi47]; exact vp_in_nI (by omega) (by decide)) dX4_split_66 (fun H locs hP hD hS => ?_)
              have hP : va_P D vwCl (wM bd cb sd (nI zz) (nI tt) st tr (nI nc) gr P Mn T Wt Rn Po Pl Sp Ks Kp Kc Ik O (vp_updL A1 (Int32.toNatClampNeg i47) z12) X) H := hP
              have hD : va_D A (wM bd cb sd (nI zz) (nI tt) st tr (nI nc) gr P Mn T Wt Rn Po Pl Sp Ks Kp Kc Ik O (vp_updL A1 (Int32.toNatClampNeg i47) z12) X) := hD
              obtain ⟨i13, ei13⟩ : ∃ y : Int32, y = i47 + 1 := ⟨_, rfl⟩
              refine lv_iinc (v := i13) (lv' := [(4, .int i13), (3, .int (nI tt)), (2, .int (nI pp)), (0, .ref (bd 0)), (1, .int i0)]) hx hb dX4_split_67 hl (k := 0) rfl (by rw [ei13]; rfl) (by decide) rfl (fun ls hl => ?_)
              refine lv_goto (tgt := 47) hx hb dX4_split_70 (by decide) ?_
              exact ih47 i13 (vp_updL A1 (Int32.toNatClampNeg i47) z12) _ _ _ (Nat.le_of_succ_le hk47) (ns_step hi47 hk47 ei13) (by subst hi47; subst ez12; rw [mAs] at ht47; exact ht47) hP hD hS (lv_sub hl [0, 1, 2, 3, 4] rfl)
        exact lp47 4 (0 : Int32) As _ _ _ (Nat.le_refl 4) (by decide) rfl hP hD hS (lv_sub hl [0, 1, 2, 3, 4] rfl)
      · skip
        exact absurd c33 (by rw [hl0]; exact fun h => absurd (ns_4 (by omega) h) (by omega))
  · skip
    exact absurd c5 hI
