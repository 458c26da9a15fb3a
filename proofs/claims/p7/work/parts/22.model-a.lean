/-! what the reference's methods compute, as the machine does -/
def mIn (v a b : Int64) : Int32 := if v < a then 0 else if b < v then 0 else 1
theorem mIn_nar (v a b : Int64) : narrow .boolean (.int (mIn v a b)) = .int (mIn v a b) := by
  unfold mIn
  by_cases h1 : v < a
  · rw [if_pos h1]; rfl
  · rw [if_neg h1]
    by_cases h2 : b < v
    · rw [if_pos h2]; rfl
    · rw [if_neg h2]; rfl
def mRest (w n : Int64) : Int64 := if w < 0 then fRem w n else w - w / n * n
def mPart (t : Nat) (T : Nat → Int64) (v : Int64) : Int32 × Int32 × (Nat → Int64) := if nI t = 4 then (-2, nI t, T) else (nI t + 1, nI t + 1, vp_updL T (nI t).toNatClampNeg v)
def mLkI (P T : Nat → Int64) (p : Int32) (t : Nat) : Nat → Int32 → Int32
  | 0, b => b
  | k + 1, b => if b = 0 then mLkI P T p t k 0 else if P (4 * p + nI (t - (k + 1))).toNatClampNeg = T (nI (t - (k + 1))).toNatClampNeg then mLkI P T p t k 1 else mLkI P T p t k 0
def mLkO (P T : Nat → Int64) (Mn : Nat → Int32) (z t : Nat) : Nat → Int32
  | 0 => nI z
  | k + 1 => if mLkI P T (nI (z - (k + 1))) t t (if Mn (nI (z - (k + 1))).toNatClampNeg = nI t then 1 else 0) = 0 then mLkO P T Mn z t k else nI (z - (k + 1))
def mLk (P T : Nat → Int64) (Mn : Nat → Int32) (z t : Nat) : Int32 := mLkO P T Mn z t z
def mCopyT (T : Nat → Int64) (z t : Nat) : Nat → (Nat → Int64) → (Nat → Int64)
  | 0, P => P
  | k + 1, P => mCopyT T z t k (vp_updL P (4 * nI z + nI (t - (k + 1))).toNatClampNeg (T (nI (t - (k + 1))).toNatClampNeg))
abbrev sMp : Type := (Nat → Int64) × (Nat → Int32) × Int32
def mTake (P T : Nat → Int64) (Mn : Nat → Int32) (z t : Nat) : Int32 × sMp := if mLk P T Mn z t = 24 then (-2, P, Mn, nI z) else if mLk P T Mn z t = nI z then (nI z, mCopyT T z t t P, upd Mn (nI z).toNatClampNeg (nI t), nI z + 1) else (mLk P T Mn z t, P, Mn, nI z)
def mPath (P T : Nat → Int64) (Mn : Nat → Int32) (z t : Nat) : Int32 × Int32 × sMp := if nI t = 0 then (-1, nI t, P, Mn, nI z) else if 0 ≤ (mTake P T Mn z t).1 then ((mTake P T Mn z t).1, 0, (mTake P T Mn z t).2) else ((mTake P T Mn z t).1, nI t, (mTake P T Mn z t).2)
def mIs (pz p : Int32) : Int32 := mIn p.toInt64 0 (pz - 1).toInt64
theorem mIs_nar (pz p : Int32) : narrow .boolean (.int (mIs pz p)) = .int (mIs pz p) := mIn_nar _ _ _
def sKey (P : Nat → Int64) (p : Int32) (l k : Nat) (key : Int64) : Int64 := fMix ((key + (-7046029254386353131)) ^^^ P (4 * p + nI (l - (k + 1))).toNatClampNeg)
def mKeyL (P : Nat → Int64) (p : Int32) (l k : Nat) (key : Int64) : Int64 := fIter (sKey P p l) k key
theorem mKeyL_s (P : Nat → Int64) (p : Int32) (l k : Nat) (key : Int64) : mKeyL P p l (k + 1) key = mKeyL P p l k (fMix ((key + (-7046029254386353131)) ^^^ P (4 * p + nI (l - (k + 1))).toNatClampNeg)) := fIter_s (sKey P p l) k key
theorem mKeyL_0 (P : Nat → Int64) (p : Int32) (l : Nat) (key : Int64) : mKeyL P p l 0 key = key := rfl
def mKey (P : Nat → Int64) (Mn : Nat → Int32) (p : Int32) : Int64 := mKeyL P p (Mn p.toNatClampNeg).toNatClampNeg (Mn p.toNatClampNeg).toNatClampNeg 0
def mKeyM (P : Nat → Int64) (Mn : Nat → Int32) (pz p : Int32) : Int64 × Int32 := if mIs pz p = 0 then (0, -1) else (mKey P Mn p, 0)
def mWd (sd : Int64) (P : Nat → Int64) (Mn : Nat → Int32) (pz : Int32) (run : Int64) (p : Int32) (k : Int64) : Int64 × Int32 := if mIs pz p = 0 then (0, -1) else (fWord (fBase sd run (mKey P Mn p)) k, 0)
def mDraw (o f n x : Int64) : Nat → Int32 → Int64 × Int32
  | 0, tr => (-3, tr)
  | k + 1, _ => if x = 0 then (mRest (fWord o (f + (nI (32 - (k + 1))).toInt64)) n, nI (32 - (k + 1)) + 1) else if fBelow (fWord o (f + (nI (32 - (k + 1))).toInt64)) (-x) = 0 then mDraw o f n x k (nI (32 - (k + 1)) + 1) else (mRest (fWord o (f + (nI (32 - (k + 1))).toInt64)) n, nI (32 - (k + 1)) + 1)
def mSpan (o f n : Int64) (tr : Int32) : Int64 × Int32 := mDraw o f n (mRest (-n) n) 32 tr
def mSpanM (sd : Int64) (P : Nat → Int64) (Mn : Nat → Int32) (pz : Int32) (run : Int64) (p c : Int32) (n : Int64) (tr : Int32) : Int64 × Int32 := if mIs pz p = 0 then (-1, tr) else if c < 0 then (-1, tr) else if 0 ≤ n then (if n = 0 then (-4, tr) else mSpan (fBase sd run (mKey P Mn p)) (32 * c.toInt64) n tr) else (-1, tr)
def mFrB (b r w : Int64) (t : Int32) (K : Int64 → Int64 → Int32 × Int32) : Int32 × Int32 := if 0 ≤ w then (if r < b - r then (if 2 * r = 0 then (0, t + 1) else K (2 * r) (nsL w 1)) else (1, t + 1)) else (if r < b - r then (0, t + 1) else (if r - (b - r) = 0 then (0, t + 1) else K (r - (b - r)) (nsL w 1)))
def mFrL (o f b : Int64) : Nat → Int64 → Int64 → Int32 × Int32
  | 0, _, _ => (-3, nI 2048)
  | k + 1, r, w => if nI (2048 - (k + 1)) - nI (2048 - (k + 1)) / 64 * 64 = 0 then mFrB b r (fWord o (f + (nI (2048 - (k + 1)) / 64).toInt64)) (nI (2048 - (k + 1))) (fun r w => mFrL o f b k r w) else mFrB b r w (nI (2048 - (k + 1))) (fun r w => mFrL o f b k r w)
def mFracM (sd : Int64) (P : Nat → Int64) (Mn : Nat → Int32) (pz : Int32) (run : Int64) (p c : Int32) (a b : Int64) (tr : Int32) : Int32 × Int32 := if mIs pz p = 0 then (-1, tr) else if c < 0 then (-1, tr) else if b < 0 then (-1, tr) else if mIn a 0 b = 0 then (-1, tr) else if b = 0 then (-4, tr) else if a = 0 then (0, 0) else if a = b then (1, 0) else mFrL (fBase sd run (mKey P Mn p)) (32 * c.toInt64) b 2048 a 0
def mWeight (Wt : Nat → Int64) (k : Int32) (w : Int64) : Int32 × (Nat → Int64) := if mIn k.toInt64 0 9 = 0 then (-1, Wt) else if 0 ≤ w then (1, vp_updL Wt k.toNatClampNeg w) else (-1, Wt)
def mSumL (Wt : Nat → Int64) : Nat → Int32 → Int64 → Int64 × Int32
  | 0, gr, s => (s, gr)
  | k + 1, gr, s => if gr = 0 then (if 0 ≤ s + Wt (nI (10 - (k + 1))).toNatClampNeg then mSumL Wt k 0 (s + Wt (nI (10 - (k + 1))).toNatClampNeg) else mSumL Wt k 1 0) else mSumL Wt k 1 0
def mSum (Wt : Nat → Int64) : Int64 × Int32 := mSumL Wt 10 0 0
def mPref (Wt : Nat → Int64) : Nat → Int64
  | 0 => Wt 0
  | j + 1 => mPref Wt j + Wt (j + 1)
def mReach (Wt : Nat → Int64) (d : Int64) : Nat → Int32
  | 0 => nI 9
  | k + 1 => if d < mPref Wt (9 - (k + 1)) then nI (9 - (k + 1)) else mReach Wt d k
def mPicked (o f s : Int64) (Wt : Nat → Int64) (tr : Int32) : Int32 × Int32 := if 0 ≤ (mSpan o f s tr).1 then (mReach Wt (mSpan o f s tr).1 9, (mSpan o f s tr).2) else (-3, (mSpan o f s tr).2)
def mPickM (sd : Int64) (P : Nat → Int64) (Mn : Nat → Int32) (pz : Int32) (Wt : Nat → Int64) (run : Int64) (p c : Int32) (tr gr : Int32) : Int32 × Int32 × Int32 := if mIs pz p = 0 then (-1, tr, gr) else if 0 ≤ c then (if (mSum Wt).2 = 0 then (if (mSum Wt).1 = 0 then (-4, tr, (mSum Wt).2) else ((mPicked (fBase sd run (mKey P Mn p)) (32 * c.toInt64) (mSum Wt).1 Wt tr).1, (mPicked (fBase sd run (mKey P Mn p)) (32 * c.toInt64) (mSum Wt).1 Wt tr).2, (mSum Wt).2)) else (-5, tr, (mSum Wt).2)) else (-1, tr, gr)
theorem mIn1 {v a b : Int64} (h : ¬ mIn v a b = 0) : a ≤ v ∧ v ≤ b := by
  unfold mIn at h
  by_cases h1 : v < a
  · rw [if_pos h1] at h; exact absurd rfl h
  · rw [if_neg h1] at h
    by_cases h2 : b < v
    · rw [if_pos h2] at h; exact absurd rfl h
    · exact ⟨Int64.not_lt.mp h1, Int64.not_lt.mp h2⟩
theorem i2l_toInt (x : Int32) : x.toInt64.toInt = x.toInt := Int32.toInt_toInt64 x
/-- k in 0 .. m as longs, m below n: a place -/
theorem mIn_in {k : Int32} {m : Int64} {n : Nat} (h : ¬ mIn k.toInt64 0 m = 0) (hm : m.toInt < n) : vp_in k n := by
  obtain ⟨h1, h2⟩ := mIn1 h
  rw [Int64.le_iff_toInt_le, i2l_toInt] at h1 h2
  rw [vp_in_iff]
  have h0 : (0 : Int64).toInt = 0 := rfl
  omega
theorem mIs_in {z : Nat} {p : Int32} (h : ¬ mIs (nI z) p = 0) (hz : z ≤ 24) : vp_in p z := by
  have hlt : z < 2 ^ 31 := by omega
  refine mIn_in h ?_
  rw [i2l_toInt]
  rcases Nat.eq_zero_or_pos z with rfl | hp
  · decide
  · rw [show nI z - 1 = nI (z - 1) from by rw [← nI_pred (z - 1), Nat.sub_add_cancel hp], nI_toInt (by omega)]
    omega
theorem vp_in.mono {i : Int32} {n m : Nat} (h : vp_in i n) (hnm : n ≤ m) : vp_in i m := by
  rw [vp_in_iff] at h ⊢
  omega
theorem ns_neLt {z n : Nat} {m : Int32} (h : ¬ nI z = m) (hm : m = nI n) (hz : z ≤ n) (hn : n < 2 ^ 31) : z < n := by
  rw [hm, nI_eq (by omega) hn] at h
  omega
theorem ns_in96b {p i : Nat} (hp : p < 24) (hi : i < 4) : vp_in (4 * nI p + nI i) 96 := by
  have e : 4 * nI p + nI i = nI (4 * p + i) := by
    rw [show (4 : Int32) = nI 4 from rfl, pk_mul, nI_add]
  rw [e]
  exact vp_in_nI (by omega) (by decide)
set_option maxHeartbeats 800000 in
set_option maxRecDepth 100000 in
theorem mX4_in (l : Launch) (v0 l0 m0 : Int64) : nkSI l yX4_in wsX4_in ({ frames := 0, cells := 0, slots := 0, locals := 0 }) [.long v0, .long l0, .long m0] (fun r => r = mIn v0 l0 m0) := by
  refine nk_ofS (cc := cX4_in) (maxL := 6) (ret := (some .boolean)) (by decide) rfl (Nat.le_of_ble_eq_true rfl) ?_
  intro p e s m below meth c hx hb hr hml hts hown hlocks ls hl
  replace hown : s.vm.findClass RX4 = some m.cls := hown
  replace hl : lv_has ls 6 [(0, .long v0), (2, .long l0), (4, .long m0)] := hl
  refine lv_lload_n hx hb dX4_in_0 rfl (lv_at hl 0 rfl) ?_
  refine lv_lload_n hx hb dX4_in_1 rfl (lv_at hl 1 rfl) ?_
  refine W.lcmp hx hb dX4_in_2 ?_
  refine lv_if_lt (tgt := 17) hx hb dX4_in_3 (by decide) (fun c3 => ?_) (fun c3 => ?_)
  · skip
    have c3 : v0 < l0 := (lg_cmp_lt _ _).mp c3
    refine lv_iconst (v := 0) hx hb dX4_in_17 (by decide) ?_
    exact nk_endZ hx hb hr hlocks (by first | rfl | decide) dX4_in_18 (by exact (if_pos c3).symm)
  · skip
    have c3 : ¬ (v0 < l0) := fun h => c3 ((lg_cmp_lt _ _).mpr h)
    refine lv_lload_n hx hb dX4_in_6 rfl (lv_at hl 0 rfl) ?_
    refine lv_lload hx hb dX4_in_7 (lv_at hl 2 rfl) ?_
    refine W.lcmp hx hb dX4_in_9 ?_
    refine lv_if_gt (tgt := 17) hx hb dX4_in_10 (by decide) (fun c10 => ?_) (fun c10 => ?_)
    · skip
      have c10 : m0 < v0 := (lg_cmp_gt _ _).mp c10
      refine lv_iconst (v := 0) hx hb dX4_in_17 (by decide) ?_
      exact nk_endZ hx hb hr hlocks (by first | rfl | decide) dX4_in_18 (by exact ((if_neg c3).trans (if_pos c10)).symm)
    · skip
      have c10 : ¬ (m0 < v0) := fun h => c10 ((lg_cmp_gt _ _).mpr h)
      refine lv_iconst (v := 1) hx hb dX4_in_13 (by decide) ?_
      refine lv_goto (tgt := 18) hx hb dX4_in_14 (by decide) ?_
      exact nk_endZ hx hb hr hlocks (by first | rfl | decide) dX4_in_18 (by exact ((if_neg c3).trans (if_neg c10)).symm)

set_option maxHeartbeats 800000 in
set_option maxRecDepth 100000 in
theorem mX4_rest (l : Launch) (x0 n0 : Int64) (hn0 : ¬ n0 = 0) : nkSL l yX4_rest wsX4_rest ({ frames := 1, cells := 0, slots := 0, locals := 23 }) [.long x0, .long n0] (fun r => r = mRest x0 n0) := by
  refine nk_ofS (cc := cX4_rest) (maxL := 8) (ret := (some .long)) (by decide) rfl (Nat.le_of_ble_eq_true rfl) ?_
  intro p e s m below meth c hx hb hr hml hts hown hlocks ls hl
  replace hown : s.vm.findClass RX4 = some m.cls := hown
  replace hl : lv_has ls 8 [(0, .long x0), (2, .long n0)] := hl
  refine lv_lload_n hx hb dX4_rest_0 rfl (lv_at hl 0 rfl) ?_
  refine lv_lconst (v := 0) hx hb dX4_rest_1 (by decide) ?_
  refine W.lcmp hx hb dX4_rest_2 ?_
  refine lv_if_lt (tgt := 10) hx hb dX4_rest_3 (by decide) (fun c3 => ?_) (fun c3 => ?_)
  · skip
    have c3 : x0 < (0 : Int64) := (lg_cmp_lt _ _).mp c3
    refine lv_lload_n hx hb dX4_rest_10 rfl (lv_at hl 0 rfl) ?_
    refine lv_iconst (v := 1) hx hb dX4_rest_11 (by decide) ?_
    refine lv_lushr (v := (nsU x0 (1 : Int32))) hx hb dX4_rest_12 rfl ?_
    refine lv_lload_n hx hb dX4_rest_13 rfl (lv_at hl 1 rfl) ?_
    refine lv_ldiv hx hb dX4_rest_14 hn0 ?_
    refine lv_iconst (v := 1) hx hb dX4_rest_15 (by decide) ?_
    refine lv_lshl (v := (nsL ((nsU x0 (1 : Int32)) / n0) (1 : Int32))) hx hb dX4_rest_16 rfl ?_
    refine lv_topl (fun z1 ez1 => ?_)
    refine lv_lstore (lv' := [(4, .long z1), (0, .long x0), (2, .long n0)]) hx hb dX4_rest_17 hl (by decide) rfl (fun ls hl => ?_)
    refine lv_lload_n hx hb dX4_rest_19 rfl (lv_at hl 1 rfl) ?_
    refine lv_lload hx hb dX4_rest_20 (lv_at hl 0 rfl) ?_
    refine lv_lload_n hx hb dX4_rest_22 rfl (lv_at hl 2 rfl) ?_
    refine lv_lmul hx hb dX4_rest_23 ?_
    refine lv_lsub hx hb dX4_rest_24 ?_
    refine lv_topl (fun z2 ez2 => ?_)
    refine lv_lstore (lv' := [(6, .long z2), (4, .long z1), (0, .long x0), (2, .long n0)]) hx hb dX4_rest_25 hl (by decide) rfl (fun ls hl => ?_)
    refine lv_lload hx hb dX4_rest_27 (lv_at hl 0 rfl) ?_
    refine lv_lload_n hx hb dX4_rest_29 rfl (lv_at hl 3 rfl) ?_
    refine nk_SSI (As := [.long z2, .long n0]) (rest := []) ⟨hx, hb, hml, hown, hts⟩ (mX4_isBelow l z2 n0) (va_cwS 2 hts gX4_rest_X4_isBelow rfl rfl rfl (by decide +kernel) ⟨Nat.le_of_ble_eq_true rfl, Nat.le_of_ble_eq_true rfl⟩) rfl hl.1 rfl (Nat.le_of_ble_eq_true rfl) dX4_rest_30 ⟨Nat.le_of_ble_eq_true rfl, Nat.le_of_ble_eq_true rfl⟩ (fun r3 hr3 => ?_)
    subst hr3
    refine lv_if_eq (tgt := 41) hx hb dX4_rest_33 (by decide) (fun c33 => ?_) (fun c33 => ?_)
    · skip
      refine lv_lload hx hb dX4_rest_41 (lv_at hl 0 rfl) ?_
      refine lv_lload_n hx hb dX4_rest_43 rfl (lv_at hl 3 rfl) ?_
      refine lv_lsub hx hb dX4_rest_44 ?_
      exact nk_endL hx hb hr hlocks dX4_rest_45 (by subst ez1; subst ez2; first | exact ((if_pos c3).trans (if_pos c33)).symm | exact ((if_pos c3).trans (if_neg c33)).symm)
    · skip
      refine lv_lload hx hb dX4_rest_36 (lv_at hl 0 rfl) ?_
      refine lv_goto (tgt := 45) hx hb dX4_rest_38 (by decide) ?_
      exact nk_endL hx hb hr hlocks dX4_rest_45 (by subst ez1; subst ez2; first | exact ((if_pos c3).trans (if_pos c33)).symm | exact ((if_pos c3).trans (if_neg c33)).symm)
  · skip
    have c3 : ¬ (x0 < (0 : Int64)) := fun h => c3 ((lg_cmp_lt _ _).mpr h)
    refine lv_lload_n hx hb dX4_rest_6 rfl (lv_at hl 0 rfl) ?_
    refine lv_lload_n hx hb dX4_rest_7 rfl (lv_at hl 1 rfl) ?_
    refine lv_lrem hx hb dX4_rest_8 hn0 ?_
    exact nk_endL hx hb hr hlocks dX4_rest_9 (by exact (if_neg c3).symm)

set_option maxHeartbeats 800000 in
set_option maxRecDepth 100000 in
theorem mX4_part (l : Launch) (D : va_G) (bd : Nat → Nat) (cb : Nat → ClassId) (sd : Int64) (pz : Int32) (st : Int32) (tr : Int32) (sc : Int32) (gr : Int32) (P : Nat → Int64) (Mn : Nat → Int32) (T : Nat → Int64) (Wt : Nat → Int64) (Rn : Nat → Int64) (Po : Nat → Int32) (Pl : Nat → Int32) (Sp : Nat → Int32) (Ks : Nat → Int32) (Kp : Nat → Int32) (Kc : Nat → Int32) (Ik : Nat → Int32) (O : Nat → Int32) (As : Nat → Int64) (X : va_W) (tt : Nat) (v0 : Int64) (ht0 : tt ≤ 4) : nkMI l yX4_part wsX4_part ({ frames := 0, cells := 0, slots := 0, locals := 0 }) D (tM cb) [.ref (bd 0), .long v0] (wM bd cb sd pz (nI tt) st tr sc gr P Mn T Wt Rn Po Pl Sp Ks Kp Kc Ik O As X) (fun u : Int32 × (Nat → Int64) => wM bd cb sd pz u.1 st tr sc gr P Mn u.2 Wt Rn Po Pl Sp Ks Kp Kc Ik O As X) (fun r u => mPart tt T v0 = (r, u)) 0 0 := by
  refine nk_ofM (Qf := fun A => va_Qi (fun r u => mPart tt T v0 = (r, u)) (nkB D A (fun u : Int32 × (Nat → Int64) => wM bd cb sd pz u.1 st tr sc gr P Mn u.2 Wt Rn Po Pl Sp Ks Kp Kc Ik O As X)) A) (cc := cX4_part) (maxL := 3) (ret := (some .int)) (by decide) rfl (Nat.le_of_ble_eq_true rfl) ?_
  intro p e s m below meth c A hx hb hr hml hts hown hlocks hin hK hP hD hA hS ls hl
  replace hown : s.vm.findClass RX4 = some m.cls := hown
  replace hl : lv_has ls 3 [(0, .ref (bd 0)), (1, .long v0)] := hl
  have hP : va_P D vwCl (wM bd cb sd pz (nI tt) st tr sc gr P Mn T Wt Rn Po Pl Sp Ks Kp Kc Ik O As X) s.heap := hP
  have iX4 : ∀ w ∈ u_ws RX4 TX4 21, w ∈ wsX4_part := by decide +kernel
  refine lv_aload_n hx hb dX4_part_0 rfl (lv_at hl 0 rfl) ?_
  refine va_get (D := D) (ci := 4) (v := .int (nI tt)) (C := RX4) (T := TX4) (N := 21) hx hb hts iX4 hown hK.1 hP 0 rfl rfl 5 (by decide) (hts (.fieldLink RX4 68 "NamedStreamsModel" "toldMany" "I") (by decide +kernel)) (fun _ h9 => h9) rfl dX4_part_1 ?_
  refine lv_iconst (v := 4) hx hb dX4_part_4 (by decide) ?_
  refine lv_icmp_ne (tgt := 11) hx hb dX4_part_5 (by decide) (fun c5 => ?_) (fun c5 => ?_)
  · skip
    refine lv_aload_n hx hb dX4_part_11 rfl (lv_at hl 0 rfl) ?_
    refine va_get (D := D) (ci := 4) (v := .ref (bd 3)) (C := RX4) (T := TX4) (N := 21) hx hb hts iX4 hown hK.1 hP 0 rfl rfl 4 (by decide) (hts (.fieldLink RX4 17 "NamedStreamsModel" "told" "[J") (by decide +kernel)) (fun _ h9 => h9) rfl dX4_part_12 ?_
    refine lv_aload_n hx hb dX4_part_15 rfl (lv_at hl 0 rfl) ?_
    refine va_get (D := D) (ci := 4) (v := .int (nI tt)) (C := RX4) (T := TX4) (N := 21) hx hb hts iX4 hown hK.1 hP 0 rfl rfl 5 (by decide) (hts (.fieldLink RX4 68 "NamedStreamsModel" "toldMany" "I") (by decide +kernel)) (fun _ h9 => h9) rfl dX4_part_16 ?_
    refine lv_lload_n hx hb dX4_part_19 rfl (lv_at hl 1 rfl) ?_
    refine va_last hx hb hK.1 hP hD hS 3 2 rfl rfl (vp_in_nI (by have h9 : ¬ nI tt = nI 4 := c5; rw [nI_eq (by omega) (by decide)] at h9; omega) (by decide)) dX4_part_20 (fun H locs hP hD hS => ?_)
    have hP : va_P D vwCl (wM bd cb sd pz (nI tt) st tr sc gr P Mn (vp_updL T (Int32.toNatClampNeg (nI tt)) v0) Wt Rn Po Pl Sp Ks Kp Kc Ik O As X) H := hP
    have hD : va_D A (wM bd cb sd pz (nI tt) st tr sc gr P Mn (vp_updL T (Int32.toNatClampNeg (nI tt)) v0) Wt Rn Po Pl Sp Ks Kp Kc Ik O As X) := hD
    refine lv_aload_n hx hb dX4_part_21 rfl (lv_at hl 0 rfl) ?_
    refine lv_dup hx hb dX4_part_22 rfl ?_
    refine va_get (D := D) (ci := 4) (v := .int (nI tt)) (C := RX4) (T := TX4) (N := 21) hx hb hts iX4 hown hK.1 hP 0 rfl rfl 5 (by decide) (hts (.fieldLink RX4 68 "NamedStreamsModel" "toldMany" "I") (by decide +kernel)) (fun _ h9 => h9) rfl dX4_part_23 ?_
    refine lv_iconst (v := 1) hx hb dX4_part_26 (by decide) ?_
    refine lv_iadd hx hb dX4_part_27 ?_
    refine lv_topi (fun z1 ez1 => ?_)
    refine va_put (D := D) (ci := 4) (v := .int z1) (ty := .int) (C := RX4) (T := TX4) (N := 21) hx hb hts iX4 tyX4 tyX4_ok nmX4 hown hK.1 hP hD hS 0 rfl rfl 5 (by decide) (hts (.fieldLink RX4 68 "NamedStreamsModel" "toldMany" "I") (by decide +kernel)) (fun _ h9 => h9) rfl (by decide +kernel) rfl rfl (Nat.le_of_ble_eq_true rfl) dX4_part_28 (fun H locs hP hD hS => ?_)
    have hP : va_P D vwCl (wM bd cb sd pz z1 st tr sc gr P Mn (vp_updL T (Int32.toNatClampNeg (nI tt)) v0) Wt Rn Po Pl Sp Ks Kp Kc Ik O As X) H := hP
    have hD : va_D A (wM bd cb sd pz z1 st tr sc gr P Mn (vp_updL T (Int32.toNatClampNeg (nI tt)) v0) Wt Rn Po Pl Sp Ks Kp Kc Ik O As X) := hD
    refine lv_aload_n hx hb dX4_part_31 rfl (lv_at hl 0 rfl) ?_
    refine va_get (D := D) (ci := 4) (v := .int z1) (C := RX4) (T := TX4) (N := 21) hx hb hts iX4 hown hK.1 hP 0 rfl rfl 5 (by decide) (hts (.fieldLink RX4 68 "NamedStreamsModel" "toldMany" "I") (by decide +kernel)) (fun _ h9 => h9) rfl dX4_part_32 ?_
    exact nk_retI (g := _) (z1, (vp_updL T (Int32.toNatClampNeg (nI tt)) v0)) hx hb hr hlocks hP hD hS dX4_part_35 (by subst ez1; exact (if_neg c5))
  · skip
    refine lv_bipush (v := -2) hx hb dX4_part_8 (by decide) ?_
    exact nk_retI (g := _) ((nI tt), T) hx hb hr hlocks hP hD hS dX4_part_10 (by exact (if_pos c5))

set_option maxHeartbeats 800000 in
set_option maxRecDepth 100000 in
theorem mX4_likePath (l : Launch) (D : va_G) (bd : Nat → Nat) (cb : Nat → ClassId) (sd : Int64) (st : Int32) (tr : Int32) (sc : Int32) (gr : Int32) (P : Nat → Int64) (Mn : Nat → Int32) (T : Nat → Int64) (Wt : Nat → Int64) (Rn : Nat → Int64) (Po : Nat → Int32) (Pl : Nat → Int32) (Sp : Nat → Int32) (Ks : Nat → Int32) (Kp : Nat → Int32) (Kc : Nat → Int32) (Ik : Nat → Int32) (O : Nat → Int32) (As : Nat → Int64) (X : va_W) (zz tt : Nat) (hz0 : zz ≤ 24) (ht0 : tt ≤ 4) : nkRI l yX4_likePath wsX4_likePath ({ frames := 0, cells := 0, slots := 0, locals := 0 }) D (tM cb) [.ref (bd 0)] (wM bd cb sd (nI zz) (nI tt) st tr sc gr P Mn T Wt Rn Po Pl Sp Ks Kp Kc Ik O As X) (fun r => r = mLk P T Mn zz tt) := by
  refine nk_ofR (cc := cX4_likePath) (maxL := 4) (ret := (some .int)) (by decide) rfl (Nat.le_of_ble_eq_true rfl) ?_
  intro p e s m below meth c hx hb hr hml hts hown hlocks hK hP ls hl
  replace hown : s.vm.findClass RX4 = some m.cls := hown
  replace hl : lv_has ls 4 [(0, .ref (bd 0))] := hl
  have hP : va_P D vwCl (wM bd cb sd (nI zz) (nI tt) st tr sc gr P Mn T Wt Rn Po Pl Sp Ks Kp Kc Ik O As X) s.heap := hP
  have iX4 : ∀ w ∈ u_ws RX4 TX4 21, w ∈ wsX4_likePath := by decide +kernel
  refine lv_iconst (v := 0) hx hb dX4_likePath_0 (by decide) ?_
  refine lv_istore_n (lv' := [(1, .int (0 : Int32)), (0, .ref (bd 0))]) hx hb dX4_likePath_1 rfl hl (by decide) rfl (fun ls hl => ?_)
  have lp2 : ∀ (k : Nat) (i : Int32) (ls : Array Slot), k ≤ zz → i = nI (zz - k) → mLkO P T Mn zz tt k = mLk P T Mn zz tt → lv_has ls 4 [(1, .int i), (0, .ref (bd 0))] → W p l e ({ frames := 0, cells := 0, slots := 0, locals := 0 } : Room) s m ([.ref (bd 0)] : List Value).toArray below meth c s.heap [] 0 0 (MQ below (vp_Si (fun r => r = mLk P T Mn zz tt)) ([.ref (bd 0)] : List Value).toArray s 0 0 (fun _ => False)) (F0 m 2 ls []) := by
    intro k
    induction k with
    | zero =>
      intro i ls hk hi ht hl
      refine lv_iload_n hx hb dX4_likePath_2 rfl (lv_at hl 0 rfl) ?_
      refine lv_aload_n hx hb dX4_likePath_3 rfl (lv_at hl 1 rfl) ?_
      refine va_get (D := D) (ci := 4) (v := .int (nI zz)) (C := RX4) (T := TX4) (N := 21) hx hb hts iX4 hown hK.1 hP 0 rfl rfl 1 (by decide) (hts (.fieldLink RX4 72 "NamedStreamsModel" "paths" "I") (by decide +kernel)) (fun _ h9 => h9) rfl dX4_likePath_4 ?_
      refine lv_icmp_ge (tgt := 87) hx hb dX4_likePath_7 (by decide) (fun c7 => ?_) (fun c7 => ?_)
      · skip
        refine lv_aload_n hx hb dX4_likePath_87 rfl (lv_at hl 1 rfl) ?_
        refine va_get (D := D) (ci := 4) (v := .int (nI zz)) (C := RX4) (T := TX4) (N := 21) hx hb hts iX4 hown hK.1 hP 0 rfl rfl 1 (by decide) (hts (.fieldLink RX4 72 "NamedStreamsModel" "paths" "I") (by decide +kernel)) (fun _ h9 => h9) rfl dX4_likePath_88 ?_
        exact nk_endI hx hb hr hlocks dX4_likePath_91 (by rw [← ht]; rfl)
      · skip
        exact absurd (by rw [hi]; exact nI_le (by omega) (by omega)) c7
    | succ k ih2 =>
      intro i ls hk hi ht hl
      refine lv_iload_n hx hb dX4_likePath_2 rfl (lv_at hl 0 rfl) ?_
      refine lv_aload_n hx hb dX4_likePath_3 rfl (lv_at hl 1 rfl) ?_
      refine va_get (D := D) (ci := 4) (v := .int (nI zz)) (C := RX4) (T := TX4) (N := 21) hx hb hts iX4 hown hK.1 hP 0 rfl rfl 1 (by decide) (hts (.fieldLink RX4 72 "NamedStreamsModel" "paths" "I") (by decide +kernel)) (fun _ h9 => h9) rfl dX4_likePath_4 ?_
      refine lv_icmp_ge (tgt := 87) hx hb dX4_likePath_7 (by decide) (fun c7 => ?_) (fun c7 => ?_)
      · skip
        exact absurd c7 (Int32.not_le.mpr (by rw [hi]; exact nI_lt (by omega) (by omega)))
      · skip
        subst hi
        refine lv_aload_n hx hb dX4_likePath_10 rfl (lv_at hl 1 rfl) ?_
        refine va_get (D := D) (ci := 4) (v := .ref (bd 2)) (C := RX4) (T := TX4) (N := 21) hx hb hts iX4 hown hK.1 hP 0 rfl rfl 3 (by decide) (hts (.fieldLink RX4 13 "NamedStreamsModel" "many" "[I") (by decide +kernel)) (fun _ h9 => h9) rfl dX4_likePath_11 ?_
        refine lv_iload_n hx hb dX4_likePath_14 rfl (lv_at hl 0 rfl) ?_
        refine va_iald hx hb hK.1 hP 2 1 rfl rfl (vp_in_nI (show zz - (k + 1) < 24 by omega) (by decide)) dX4_likePath_15 ?_
        refine lv_aload_n hx hb dX4_likePath_16 rfl (lv_at hl 1 rfl) ?_
        refine va_get (D := D) (ci := 4) (v := .int (nI tt)) (C := RX4) (T := TX4) (N := 21) hx hb hts iX4 hown hK.1 hP 0 rfl rfl 5 (by decide) (hts (.fieldLink RX4 68 "NamedStreamsModel" "toldMany" "I") (by decide +kernel)) (fun _ h9 => h9) rfl dX4_likePath_17 ?_
        refine lv_icmp_ne (tgt := 27) hx hb dX4_likePath_20 (by decide) (fun c20 => ?_) (fun c20 => ?_)
        · skip
          refine lv_iconst (v := 0) hx hb dX4_likePath_27 (by decide) ?_
          refine lv_istore_n (lv' := [(2, .int (0 : Int32)), (1, .int (nI (zz - (k + 1)))), (0, .ref (bd 0))]) hx hb dX4_likePath_28 rfl hl (by decide) rfl (fun ls hl => ?_)
          refine lv_iconst (v := 0) hx hb dX4_likePath_29 (by decide) ?_
          refine lv_istore_n (lv' := [(3, .int (0 : Int32)), (2, .int (0 : Int32)), (1, .int (nI (zz - (k + 1)))), (0, .ref (bd 0))]) hx hb dX4_likePath_30 rfl hl (by decide) rfl (fun ls hl => ?_)
          have lp31 : ∀ (j : Nat) (x3 : Int32) (b3 : Int32) (ls : Array Slot), j ≤ tt → x3 = nI (tt - j) → mLkI P T (nI (zz - (k + 1))) tt j b3 = mLkI P T (nI (zz - (k + 1))) tt tt (0 : Int32) → lv_has ls 4 [(3, .int x3), (2, .int b3), (1, .int (nI (zz - (k + 1)))), (0, .ref (bd 0))] → W p l e ({ frames := 0, cells := 0, slots := 0, locals := 0 } : Room) s m ([.ref (bd 0)] : List Value).toArray below meth c s.heap [] 0 0 (MQ below (vp_Si (fun r => r = mLk P T Mn zz tt)) ([.ref (bd 0)] : List Value).toArray s 0 0 (fun _ => False)) (F0 m 31 ls []) := by
            intro j
            induction j with
            | zero =>
              intro x3 b3 ls hj hji hjt hl
              refine lv_iload_n hx hb dX4_likePath_31 rfl (lv_at hl 0 rfl) ?_
              refine lv_aload_n hx hb dX4_likePath_32 rfl (lv_at hl 3 rfl) ?_
              refine va_get (D := D) (ci := 4) (v := .int (nI tt)) (C := RX4) (T := TX4) (N := 21) hx hb hts iX4 hown hK.1 hP 0 rfl rfl 5 (by decide) (hts (.fieldLink RX4 68 "NamedStreamsModel" "toldMany" "I") (by decide +kernel)) (fun _ h9 => h9) rfl dX4_likePath_33 ?_
              refine lv_icmp_ge (tgt := 75) hx hb dX4_likePath_36 (by decide) (fun c36 => ?_) (fun c36 => ?_)
              · skip
                refine lv_iload_n hx hb dX4_likePath_75 rfl (lv_at hl 1 rfl) ?_
                refine lv_if_eq (tgt := 81) hx hb dX4_likePath_76 (by decide) (fun c76 => ?_) (fun c76 => ?_)
                · skip
                  obtain ⟨i1, ei1⟩ : ∃ y : Int32, y = (nI (zz - (k + 1))) + 1 := ⟨_, rfl⟩
                  refine lv_iinc (v := i1) (lv' := [(1, .int i1), (3, .int x3), (2, .int b3), (0, .ref (bd 0))]) hx hb dX4_likePath_81 hl (k := 2) rfl (by rw [ei1]; rfl) (by decide) rfl (fun ls hl => ?_)
                  refine lv_goto (tgt := 2) hx hb dX4_likePath_84 (by decide) ?_
                  exact ih2 i1 _ (Nat.le_of_succ_le hk) (ns_step rfl hk ei1) (by rw [← ht, mLkO, if_pos]; first | (rw [if_pos c20, ← hjt]; exact c76) | (rw [if_neg c20, ← hjt]; exact c76)) (lv_sub hl [0, 3] rfl)
                · skip
                  refine lv_iload_n hx hb dX4_likePath_79 rfl (lv_at hl 2 rfl) ?_
                  exact nk_endI hx hb hr hlocks dX4_likePath_80 (by rw [← ht, mLkO, if_neg]; first | (rw [if_pos c20, ← hjt]; exact c76) | (rw [if_neg c20, ← hjt]; exact c76))
              · skip
                exact absurd (by rw [hji]; exact nI_le (by omega) (by omega)) c36
            | succ j ih31 =>
              intro x3 b3 ls hj hji hjt hl
              refine lv_iload_n hx hb dX4_likePath_31 rfl (lv_at hl 0 rfl) ?_
              refine lv_aload_n hx hb dX4_likePath_32 rfl (lv_at hl 3 rfl) ?_
              refine va_get (D := D) (ci := 4) (v := .int (nI tt)) (C := RX4) (T := TX4) (N := 21) hx hb hts iX4 hown hK.1 hP 0 rfl rfl 5 (by decide) (hts (.fieldLink RX4 68 "NamedStreamsModel" "toldMany" "I") (by decide +kernel)) (fun _ h9 => h9) rfl dX4_likePath_33 ?_
              refine lv_icmp_ge (tgt := 75) hx hb dX4_likePath_36 (by decide) (fun c36 => ?_) (fun c36 => ?_)
              · skip
                exact absurd c36 (Int32.not_le.mpr (by rw [hji]; exact nI_lt (by omega) (by omega)))
              · skip
                refine lv_iload_n hx hb dX4_likePath_39 rfl (lv_at hl 1 rfl) ?_
                refine lv_if_eq (tgt := 67) hx hb dX4_likePath_40 (by decide) (fun c40 => ?_) (fun c40 => ?_)
                · skip
                  refine lv_iconst (v := 0) hx hb dX4_likePath_67 (by decide) ?_
                  refine lv_istore_n (lv' := [(2, .int (0 : Int32)), (3, .int x3), (1, .int (nI (zz - (k + 1)))), (0, .ref (bd 0))]) hx hb dX4_likePath_68 rfl hl (by decide) rfl (fun ls hl => ?_)
                  obtain ⟨i2, ei2⟩ : ∃ y : Int32, y = x3 + 1 := ⟨_, rfl⟩
                  refine lv_iinc (v := i2) (lv' := [(3, .int i2), (2, .int (0 : Int32)), (1, .int (nI (zz - (k + 1)))), (0, .ref (bd 0))]) hx hb dX4_likePath_69 hl (k := 1) rfl (by rw [ei2]; rfl) (by decide) rfl (fun ls hl => ?_)
                  refine lv_goto (tgt := 31) hx hb dX4_likePath_72 (by decide) ?_
                  exact ih31 i2 (0 : Int32) _ (Nat.le_of_succ_le hj) (ns_step hji hj ei2) (by subst hji; rw [← hjt, mLkI, if_pos c40]) (lv_sub hl [0, 1, 2, 3] rfl)
                · skip
                  refine lv_aload_n hx hb dX4_likePath_43 rfl (lv_at hl 3 rfl) ?_
                  refine va_get (D := D) (ci := 4) (v := .ref (bd 1)) (C := RX4) (T := TX4) (N := 21) hx hb hts iX4 hown hK.1 hP 0 rfl rfl 2 (by decide) (hts (.fieldLink RX4 7 "NamedStreamsModel" "part" "[J") (by decide +kernel)) (fun _ h9 => h9) rfl dX4_likePath_44 ?_
                  refine lv_iconst (v := 4) hx hb dX4_likePath_47 (by decide) ?_
                  refine lv_iload_n hx hb dX4_likePath_48 rfl (lv_at hl 2 rfl) ?_
                  refine lv_imul hx hb dX4_likePath_49 ?_
                  refine lv_iload_n hx hb dX4_likePath_50 rfl (lv_at hl 0 rfl) ?_
                  refine lv_iadd hx hb dX4_likePath_51 ?_
                  refine va_lald hx hb hK.1 hP 1 0 rfl rfl (by rw [hji]; exact ns_in96b (show zz - (k + 1) < 24 by omega) (by omega)) dX4_likePath_52 ?_
                  refine lv_aload_n hx hb dX4_likePath_53 rfl (lv_at hl 3 rfl) ?_
                  refine va_get (D := D) (ci := 4) (v := .ref (bd 3)) (C := RX4) (T := TX4) (N := 21) hx hb hts iX4 hown hK.1 hP 0 rfl rfl 4 (by decide) (hts (.fieldLink RX4 17 "NamedStreamsModel" "told" "[J") (by decide +kernel)) (fun _ h9 => h9) rfl dX4_likePath_54 ?_
                  refine lv_iload_n hx hb dX4_likePath_57 rfl (lv_at hl 0 rfl) ?_
                  refine va_lald hx hb hK.1 hP 3 2 rfl rfl (by rw [hji]; exact vp_in_nI (by omega) (by decide)) dX4_likePath_58 ?_
                  refine W.lcmp hx hb dX4_likePath_59 ?_
                  refine lv_if_ne (tgt := 67) hx hb dX4_likePath_60 (by decide) (fun c60 => ?_) (fun c60 => ?_)
                  · skip
                    have c60 : ¬ ((P (Int32.toNatClampNeg (((4 : Int32) * (nI (zz - (k + 1)))) + x3))) = (T (Int32.toNatClampNeg x3))) := fun h => c60 ((lg_cmp_eq _ _).mpr h)
                    refine lv_iconst (v := 0) hx hb dX4_likePath_67 (by decide) ?_
                    refine lv_istore_n (lv' := [(2, .int (0 : Int32)), (3, .int x3), (1, .int (nI (zz - (k + 1)))), (0, .ref (bd 0))]) hx hb dX4_likePath_68 rfl hl (by decide) rfl (fun ls hl => ?_)
                    obtain ⟨i3, ei3⟩ : ∃ y : Int32, y = x3 + 1 := ⟨_, rfl⟩
                    refine lv_iinc (v := i3) (lv' := [(3, .int i3), (2, .int (0 : Int32)), (1, .int (nI (zz - (k + 1)))), (0, .ref (bd 0))]) hx hb dX4_likePath_69 hl (k := 1) rfl (by rw [ei3]; rfl) (by decide) rfl (fun ls hl => ?_)
                    refine lv_goto (tgt := 31) hx hb dX4_likePath_72 (by decide) ?_
                    exact ih31 i3 (0 : Int32) _ (Nat.le_of_succ_le hj) (ns_step hji hj ei3) (by subst hji; rw [← hjt, mLkI, if_neg c40, if_neg c60]) (lv_sub hl [0, 1, 2, 3] rfl)
                  · skip
                    have c60 : (P (Int32.toNatClampNeg (((4 : Int32) * (nI (zz - (k + 1)))) + x3))) = (T (Int32.toNatClampNeg x3)) := (lg_cmp_eq _ _).mp c60
                    refine lv_iconst (v := 1) hx hb dX4_likePath_63 (by decide) ?_
                    refine lv_goto (tgt := 68) hx hb dX4_likePath_64 (by decide) ?_
                    refine lv_istore_n (lv' := [(2, .int (1 : Int32)), (3, .int x3), (1, .int (nI (zz - (k + 1)))), (0, .ref (bd 0))]) hx hb dX4_likePath_68 rfl hl (by decide) rfl (fun ls hl => ?_)
                    obtain ⟨i4, ei4⟩ : ∃ y : Int32, y = x3 + 1 := ⟨_, rfl⟩
                    refine lv_iinc (v := i4) (lv' := [(3, .int i4), (2, .int (1 : Int32)), (1, .int (nI (zz - (k + 1)))), (0, .ref (bd 0))]) hx hb dX4_likePath_69 hl (k := 1) rfl (by rw [ei4]; rfl) (by decide) rfl (fun ls hl => ?_)
                    refine lv_goto (tgt := 31) hx hb dX4_likePath_72 (by decide) ?_
                    exact ih31 i4 (1 : Int32) _ (Nat.le_of_succ_le hj) (ns_step hji hj ei4) (by subst hji; rw [← hjt, mLkI, if_neg c40, if_pos c60]) (lv_sub hl [0, 1, 2, 3] rfl)
          exact lp31 tt (0 : Int32) (0 : Int32) _ (Nat.le_refl tt) (by rw [Nat.sub_self]; rfl) rfl (lv_sub hl [0, 1, 2, 3] rfl)
        · skip
          refine lv_iconst (v := 1) hx hb dX4_likePath_23 (by decide) ?_
          refine lv_goto (tgt := 28) hx hb dX4_likePath_24 (by decide) ?_
          refine lv_istore_n (lv' := [(2, .int (1 : Int32)), (1, .int (nI (zz - (k + 1)))), (0, .ref (bd 0))]) hx hb dX4_likePath_28 rfl hl (by decide) rfl (fun ls hl => ?_)
          refine lv_iconst (v := 0) hx hb dX4_likePath_29 (by decide) ?_
          refine lv_istore_n (lv' := [(3, .int (0 : Int32)), (2, .int (1 : Int32)), (1, .int (nI (zz - (k + 1)))), (0, .ref (bd 0))]) hx hb dX4_likePath_30 rfl hl (by decide) rfl (fun ls hl => ?_)
          have lp31_1 : ∀ (j : Nat) (x3 : Int32) (b3 : Int32) (ls : Array Slot), j ≤ tt → x3 = nI (tt - j) → mLkI P T (nI (zz - (k + 1))) tt j b3 = mLkI P T (nI (zz - (k + 1))) tt tt (1 : Int32) → lv_has ls 4 [(3, .int x3), (2, .int b3), (1, .int (nI (zz - (k + 1)))), (0, .ref (bd 0))] → W p l e ({ frames := 0, cells := 0, slots := 0, locals := 0 } : Room) s m ([.ref (bd 0)] : List Value).toArray below meth c s.heap [] 0 0 (MQ below (vp_Si (fun r => r = mLk P T Mn zz tt)) ([.ref (bd 0)] : List Value).toArray s 0 0 (fun _ => False)) (F0 m 31 ls []) := by
            intro j
            induction j with
            | zero =>
              intro x3 b3 ls hj hji hjt hl
              refine lv_iload_n hx hb dX4_likePath_31 rfl (lv_at hl 0 rfl) ?_
              refine lv_aload_n hx hb dX4_likePath_32 rfl (lv_at hl 3 rfl) ?_
              refine va_get (D := D) (ci := 4) (v := .int (nI tt)) (C := RX4) (T := TX4) (N := 21) hx hb hts iX4 hown hK.1 hP 0 rfl rfl 5 (by decide) (hts (.fieldLink RX4 68 "NamedStreamsModel" "toldMany" "I") (by decide +kernel)) (fun _ h9 => h9) rfl dX4_likePath_33 ?_
              refine lv_icmp_ge (tgt := 75) hx hb dX4_likePath_36 (by decide) (fun c36 => ?_) (fun c36 => ?_)
              · skip
                refine lv_iload_n hx hb dX4_likePath_75 rfl (lv_at hl 1 rfl) ?_
                refine lv_if_eq (tgt := 81) hx hb dX4_likePath_76 (by decide) (fun c76 => ?_) (fun c76 => ?_)
                · skip
                  obtain ⟨i5, ei5⟩ : ∃ y : Int32, y = (nI (zz - (k + 1))) + 1 := ⟨_, rfl⟩
                  refine lv_iinc (v := i5) (lv' := [(1, .int i5), (3, .int x3), (2, .int b3), (0, .ref (bd 0))]) hx hb dX4_likePath_81 hl (k := 2) rfl (by rw [ei5]; rfl) (by decide) rfl (fun ls hl => ?_)
                  refine lv_goto (tgt := 2) hx hb dX4_likePath_84 (by decide) ?_
                  exact ih2 i5 _ (Nat.le_of_succ_le hk) (ns_step rfl hk ei5) (by rw [← ht, mLkO, if_pos]; first | (rw [if_pos c20, ← hjt]; exact c76) | (rw [if_neg c20, ← hjt]; exact c76)) (lv_sub hl [0, 3] rfl)
                · skip
                  refine lv_iload_n hx hb dX4_likePath_79 rfl (lv_at hl 2 rfl) ?_
                  exact nk_endI hx hb hr hlocks dX4_likePath_80 (by rw [← ht, mLkO, if_neg]; first | (rw [if_pos c20, ← hjt]; exact c76) | (rw [if_neg c20, ← hjt]; exact c76))
              · skip
                exact absurd (by rw [hji]; exact nI_le (by omega) (by omega)) c36
            | succ j ih31 =>
              intro x3 b3 ls hj hji hjt hl
              refine lv_iload_n hx hb dX4_likePath_31 rfl (lv_at hl 0 rfl) ?_
              refine lv_aload_n hx hb dX4_likePath_32 rfl (lv_at hl 3 rfl) ?_
              refine va_get (D := D) (ci := 4) (v := .int (nI tt)) (C := RX4) (T := TX4) (N := 21) hx hb hts iX4 hown hK.1 hP 0 rfl rfl 5 (by decide) (hts (.fieldLink RX4 68 "NamedStreamsModel" "toldMany" "I") (by decide +kernel)) (fun _ h9 => h9) rfl dX4_likePath_33 ?_
              refine lv_icmp_ge (tgt := 75) hx hb dX4_likePath_36 (by decide) (fun c36 => ?_) (fun c36 => ?_)
              · skip
                exact absurd c36 (Int32.not_le.mpr (by rw [hji]; exact nI_lt (by omega) (by omega)))
              · skip
                refine lv_iload_n hx hb dX4_likePath_39 rfl (lv_at hl 1 rfl) ?_
                refine lv_if_eq (tgt := 67) hx hb dX4_likePath_40 (by decide) (fun c40 => ?_) (fun c40 => ?_)
                · skip
                  refine lv_iconst (v := 0) hx hb dX4_likePath_67 (by decide) ?_
                  refine lv_istore_n (lv' := [(2, .int (0 : Int32)), (3, .int x3), (1, .int (nI (zz - (k + 1)))), (0, .ref (bd 0))]) hx hb dX4_likePath_68 rfl hl (by decide) rfl (fun ls hl => ?_)
                  obtain ⟨i6, ei6⟩ : ∃ y : Int32, y = x3 + 1 := ⟨_, rfl⟩
                  refine lv_iinc (v := i6) (lv' := [(3, .int i6), (2, .int (0 : Int32)), (1, .int (nI (zz - (k + 1)))), (0, .ref (bd 0))]) hx hb dX4_likePath_69 hl (k := 1) rfl (by rw [ei6]; rfl) (by decide) rfl (fun ls hl => ?_)
                  refine lv_goto (tgt := 31) hx hb dX4_likePath_72 (by decide) ?_
                  exact ih31 i6 (0 : Int32) _ (Nat.le_of_succ_le hj) (ns_step hji hj ei6) (by subst hji; rw [← hjt, mLkI, if_pos c40]) (lv_sub hl [0, 1, 2, 3] rfl)
                · skip
                  refine lv_aload_n hx hb dX4_likePath_43 rfl (lv_at hl 3 rfl) ?_
                  refine va_get (D := D) (ci := 4) (v := .ref (bd 1)) (C := RX4) (T := TX4) (N := 21) hx hb hts iX4 hown hK.1 hP 0 rfl rfl 2 (by decide) (hts (.fieldLink RX4 7 "NamedStreamsModel" "part" "[J") (by decide +kernel)) (fun _ h9 => h9) rfl dX4_likePath_44 ?_
                  refine lv_iconst (v := 4) hx hb dX4_likePath_47 (by decide) ?_
                  refine lv_iload_n hx hb dX4_likePath_48 rfl (lv_at hl 2 rfl) ?_
                  refine lv_imul hx hb dX4_likePath_49 ?_
                  refine lv_iload_n hx hb dX4_likePath_50 rfl (lv_at hl 0 rfl) ?_
                  refine lv_iadd hx hb dX4_likePath_51 ?_
                  refine va_lald hx hb hK.1 hP 1 0 rfl rfl (by rw [hji]; exact ns_in96b (show zz - (k + 1) < 24 by omega) (by omega)) dX4_likePath_52 ?_
                  refine lv_aload_n hx hb dX4_likePath_53 rfl (lv_at hl 3 rfl) ?_
                  refine va_get (D := D) (ci := 4) (v := .ref (bd 3)) (C := RX4) (T := TX4) (N := 21) hx hb hts iX4 hown hK.1 hP 0 rfl rfl 4 (by decide) (hts (.fieldLink RX4 17 "NamedStreamsModel" "told" "[J") (by decide +kernel)) (fun _ h9 => h9) rfl dX4_likePath_54 ?_
                  refine lv_iload_n hx hb dX4_likePath_57 rfl (lv_at hl 0 rfl) ?_
                  refine va_lald hx hb hK.1 hP 3 2 rfl rfl (by rw [hji]; exact vp_in_nI (by omega) (by decide)) dX4_likePath_58 ?_
                  refine W.lcmp hx hb dX4_likePath_59 ?_
                  refine lv_if_ne (tgt := 67) hx hb dX4_likePath_60 (by decide) (fun c60 => ?_) (fun c60 => ?_)
                  · skip
                    have c60 : ¬ ((P (Int32.toNatClampNeg (((4 : Int32) * (nI (zz - (k + 1)))) + x3))) = (T (Int32.toNatClampNeg x3))) := fun h => c60 ((lg_cmp_eq _ _).mpr h)
                    refine lv_iconst (v := 0) hx hb dX4_likePath_67 (by decide) ?_
                    refine lv_istore_n (lv' := [(2, .int (0 : Int32)), (3, .int x3), (1, .int (nI (zz - (k + 1)))), (0, .ref (bd 0))]) hx hb dX4_likePath_68 rfl hl (by decide) rfl (fun ls hl => ?_)
                    obtain ⟨i7, ei7⟩ : ∃ y : Int32, y = x3 + 1 := ⟨_, rfl⟩
                    refine lv_iinc (v := i7) (lv' := [(3, .int i7), (2, .int (0 : Int32)), (1, .int (nI (zz - (k + 1)))), (0, .ref (bd 0))]) hx hb dX4_likePath_69 hl (k := 1) rfl (by rw [ei7]; rfl) (by decide) rfl (fun ls hl => ?_)
                    refine lv_goto (tgt := 31) hx hb dX4_likePath_72 (by decide) ?_
                    exact ih31 i7 (0 : Int32) _ (Nat.le_of_succ_le hj) (ns_step hji hj ei7) (by subst hji; rw [← hjt, mLkI, if_neg c40, if_neg c60]) (lv_sub hl [0, 1, 2, 3] rfl)
                  · skip
                    have c60 : (P (Int32.toNatClampNeg (((4 : Int32) * (nI (zz - (k + 1)))) + x3))) = (T (Int32.toNatClampNeg x3)) := (lg_cmp_eq _ _).mp c60
                    refine lv_iconst (v := 1) hx hb dX4_likePath_63 (by decide) ?_
                    refine lv_goto (tgt := 68) hx hb dX4_likePath_64 (by decide) ?_
                    refine lv_istore_n (lv' := [(2, .int (1 : Int32)), (3, .int x3), (1, .int (nI (zz - (k + 1)))), (0, .ref (bd 0))]) hx hb dX4_likePath_68 rfl hl (by decide) rfl (fun ls hl => ?_)
                    obtain ⟨i8, ei8⟩ : ∃ y : Int32, y = x3 + 1 := ⟨_, rfl⟩
                    refine lv_iinc (v := i8) (lv' := [(3, .int i8), (2, .int (1 : Int32)), (1, .int (nI (zz - (k + 1)))), (0, .ref (bd 0))]) hx hb dX4_likePath_69 hl (k := 1) rfl (by rw [ei8]; rfl) (by decide) rfl (fun ls hl => ?_)
                    refine lv_goto (tgt := 31) hx hb dX4_likePath_72 (by decide) ?_
                    exact ih31 i8 (1 : Int32) _ (Nat.le_of_succ_le hj) (ns_step hji hj ei8) (by subst hji; rw [← hjt, mLkI, if_neg c40, if_pos c60]) (lv_sub hl [0, 1, 2, 3] rfl)
          exact lp31_1 tt (0 : Int32) (1 : Int32) _ (Nat.le_refl tt) (by rw [Nat.sub_self]; rfl) rfl (lv_sub hl [0, 1, 2, 3] rfl)
  exact lp2 zz (0 : Int32) _ (Nat.le_refl zz) (by rw [Nat.sub_self]; rfl) rfl (lv_sub hl [0, 1] rfl)

set_option maxHeartbeats 800000 in
set_option maxRecDepth 100000 in
theorem mX4_takePath (l : Launch) (D : va_G) (bd : Nat → Nat) (cb : Nat → ClassId) (sd : Int64) (st : Int32) (tr : Int32) (sc : Int32) (gr : Int32) (P : Nat → Int64) (Mn : Nat → Int32) (T : Nat → Int64) (Wt : Nat → Int64) (Rn : Nat → Int64) (Po : Nat → Int32) (Pl : Nat → Int32) (Sp : Nat → Int32) (Ks : Nat → Int32) (Kp : Nat → Int32) (Kc : Nat → Int32) (Ik : Nat → Int32) (O : Nat → Int32) (As : Nat → Int64) (X : va_W) (zz tt : Nat) (hz0 : zz ≤ 24) (ht0 : tt ≤ 4) : nkMI l yX4_takePath wsX4_takePath ({ frames := 1, cells := 0, slots := 0, locals := 23 }) D (tM cb) [.ref (bd 0)] (wM bd cb sd (nI zz) (nI tt) st tr sc gr P Mn T Wt Rn Po Pl Sp Ks Kp Kc Ik O As X) (fun u : sMp => wM bd cb sd u.2.2 (nI tt) st tr sc gr u.1 u.2.1 T Wt Rn Po Pl Sp Ks Kp Kc Ik O As X) (fun r u => mTake P T Mn zz tt = (r, u)) 0 0 := by
  refine nk_ofM (Qf := fun A => va_Qi (fun r u => mTake P T Mn zz tt = (r, u)) (nkB D A (fun u : sMp => wM bd cb sd u.2.2 (nI tt) st tr sc gr u.1 u.2.1 T Wt Rn Po Pl Sp Ks Kp Kc Ik O As X)) A) (cc := cX4_takePath) (maxL := 3) (ret := (some .int)) (by decide) rfl (Nat.le_of_ble_eq_true rfl) ?_
  intro p e s m below meth c A hx hb hr hml hts hown hlocks hin hK hP hD hA hS ls hl
  replace hown : s.vm.findClass RX4 = some m.cls := hown
  replace hl : lv_has ls 3 [(0, .ref (bd 0))] := hl
  have hP : va_P D vwCl (wM bd cb sd (nI zz) (nI tt) st tr sc gr P Mn T Wt Rn Po Pl Sp Ks Kp Kc Ik O As X) s.heap := hP
  have iX4 : ∀ w ∈ u_ws RX4 TX4 21, w ∈ wsX4_takePath := by decide +kernel
  refine lv_aload_n hx hb dX4_takePath_0 rfl (lv_at hl 0 rfl) ?_
  refine nk_VRI (As := []) (rest := []) ⟨hx, hb, hml, hown, hts⟩ (mX4_likePath l D bd cb sd st tr sc gr P Mn T Wt Rn Po Pl Sp Ks Kp Kc Ik O As X zz tt hz0 ht0) (cwV 0 hts gX4_takePath_X4_likePath rfl rfl rfl (by decide +kernel) ⟨Nat.le_of_ble_eq_true rfl, Nat.le_of_ble_eq_true rfl⟩) hK hP 0 4 rfl rfl rfl rfl hl.1 rfl (Nat.le_of_ble_eq_true rfl) dX4_takePath_1 ⟨Nat.le_of_ble_eq_true rfl, Nat.le_of_ble_eq_true rfl⟩ (fun r1 hr1 => ?_)
  subst hr1
  refine lv_topi (fun z2 ez2 => ?_)
  refine lv_istore_n (lv' := [(1, .int z2), (0, .ref (bd 0))]) hx hb dX4_takePath_4 rfl hl (by decide) rfl (fun ls hl => ?_)
  refine lv_iload_n hx hb dX4_takePath_5 rfl (lv_at hl 0 rfl) ?_
  refine lv_bipush (v := 24) hx hb dX4_takePath_6 (by decide) ?_
  refine lv_icmp_ne (tgt := 14) hx hb dX4_takePath_8 (by decide) (fun c8 => ?_) (fun c8 => ?_)
  · skip
    refine lv_iload_n hx hb dX4_takePath_14 rfl (lv_at hl 0 rfl) ?_
    refine lv_aload_n hx hb dX4_takePath_15 rfl (lv_at hl 1 rfl) ?_
    refine va_get (D := D) (ci := 4) (v := .int (nI zz)) (C := RX4) (T := TX4) (N := 21) hx hb hts iX4 hown hK.1 hP 0 rfl rfl 1 (by decide) (hts (.fieldLink RX4 72 "NamedStreamsModel" "paths" "I") (by decide +kernel)) (fun _ h9 => h9) rfl dX4_takePath_16 ?_
    refine lv_icmp_ne (tgt := 74) hx hb dX4_takePath_19 (by decide) (fun c19 => ?_) (fun c19 => ?_)
    · skip
      refine lv_iload_n hx hb dX4_takePath_74 rfl (lv_at hl 0 rfl) ?_
      exact nk_retI (g := _) (P, Mn, (nI zz)) hx hb hr hlocks hP hD hS dX4_takePath_75 (by subst ez2; exact (if_neg c8).trans (if_neg c19))
    · skip
      have hzl : zz < 24 := ns_neLt (show ¬ nI zz = 24 by rw [← c19]; exact c8) rfl hz0 (by decide)
      have hLk : mLk P T Mn zz tt = nI zz := ez2.symm.trans c19
      have hL24 : ¬ mLk P T Mn zz tt = 24 := by rw [← ez2]; exact c8
      obtain rfl : z2 = nI zz := c19
      refine lv_aload_n hx hb dX4_takePath_22 rfl (lv_at hl 1 rfl) ?_
      refine va_get (D := D) (ci := 4) (v := .ref (bd 2)) (C := RX4) (T := TX4) (N := 21) hx hb hts iX4 hown hK.1 hP 0 rfl rfl 3 (by decide) (hts (.fieldLink RX4 13 "NamedStreamsModel" "many" "[I") (by decide +kernel)) (fun _ h9 => h9) rfl dX4_takePath_23 ?_
      refine lv_iload_n hx hb dX4_takePath_26 rfl (lv_at hl 0 rfl) ?_
      refine lv_aload_n hx hb dX4_takePath_27 rfl (lv_at hl 1 rfl) ?_
      refine va_get (D := D) (ci := 4) (v := .int (nI tt)) (C := RX4) (T := TX4) (N := 21) hx hb hts iX4 hown hK.1 hP 0 rfl rfl 5 (by decide) (hts (.fieldLink RX4 68 "NamedStreamsModel" "toldMany" "I") (by decide +kernel)) (fun _ h9 => h9) rfl dX4_takePath_28 ?_
      refine va_iast hx hb hK.1 hP hD hS 2 1 rfl rfl (vp_in_nI hzl (by decide)) dX4_takePath_31 (fun H locs hP hD hS => ?_)
      have hP : va_P D vwCl (wM bd cb sd (nI zz) (nI tt) st tr sc gr P (upd Mn (Int32.toNatClampNeg (nI zz)) (nI tt)) T Wt Rn Po Pl Sp Ks Kp Kc Ik O As X) H := hP
      have hD : va_D A (wM bd cb sd (nI zz) (nI tt) st tr sc gr P (upd Mn (Int32.toNatClampNeg (nI zz)) (nI tt)) T Wt Rn Po Pl Sp Ks Kp Kc Ik O As X) := hD
      refine lv_iconst (v := 0) hx hb dX4_takePath_32 (by decide) ?_
      refine lv_istore_n (lv' := [(2, .int (0 : Int32)), (1, .int (nI zz)), (0, .ref (bd 0))]) hx hb dX4_takePath_33 rfl hl (by decide) rfl (fun ls hl => ?_)
      have lp34 : ∀ (k : Nat) (i : Int32) (P1 : Nat → Int64) (H : Heap) (locs : List Loc) (ls : Array Slot), k ≤ tt → i = nI (tt - k) → mCopyT T zz tt k P1 = mCopyT T zz tt tt P → va_P D vwCl (wM bd cb sd (nI zz) (nI tt) st tr sc gr P1 (upd Mn (Int32.toNatClampNeg (nI zz)) (nI tt)) T Wt Rn Po Pl Sp Ks Kp Kc Ik O As X) H → va_D A (wM bd cb sd (nI zz) (nI tt) st tr sc gr P1 (upd Mn (Int32.toNatClampNeg (nI zz)) (nI tt)) T Wt Rn Po Pl Sp Ks Kp Kc Ik O As X) → va_S A s.heap H locs → lv_has ls 3 [(2, .int i), (1, .int (nI zz)), (0, .ref (bd 0))] → W p l e ({ frames := 1, cells := 0, slots := 0, locals := 23 } : Room) s m ([.ref (bd 0)] : List Value).toArray below meth c H locs 0 0 (MQ below (va_Qi (fun r u => mTake P T Mn zz tt = (r, u)) (nkB D A (fun u : sMp => wM bd cb sd u.2.2 (nI tt) st tr sc gr u.1 u.2.1 T Wt Rn Po Pl Sp Ks Kp Kc Ik O As X)) A) ([.ref (bd 0)] : List Value).toArray s 0 0 A) (F0 m 34 ls []) := by
        intro k
        induction k with
        | zero =>
          intro i P1 H locs ls hk hi ht hP hD hS hl
          refine lv_iload_n hx hb dX4_takePath_34 rfl (lv_at hl 0 rfl) ?_
          refine lv_aload_n hx hb dX4_takePath_35 rfl (lv_at hl 2 rfl) ?_
          refine va_get (D := D) (ci := 4) (v := .int (nI tt)) (C := RX4) (T := TX4) (N := 21) hx hb hts iX4 hown hK.1 hP 0 rfl rfl 5 (by decide) (hts (.fieldLink RX4 68 "NamedStreamsModel" "toldMany" "I") (by decide +kernel)) (fun _ h9 => h9) rfl dX4_takePath_36 ?_
          refine lv_icmp_ge (tgt := 64) hx hb dX4_takePath_39 (by decide) (fun c39 => ?_) (fun c39 => ?_)
          · skip
            refine lv_aload_n hx hb dX4_takePath_64 rfl (lv_at hl 2 rfl) ?_
            refine lv_dup hx hb dX4_takePath_65 rfl ?_
            refine va_get (D := D) (ci := 4) (v := .int (nI zz)) (C := RX4) (T := TX4) (N := 21) hx hb hts iX4 hown hK.1 hP 0 rfl rfl 1 (by decide) (hts (.fieldLink RX4 72 "NamedStreamsModel" "paths" "I") (by decide +kernel)) (fun _ h9 => h9) rfl dX4_takePath_66 ?_
            refine lv_iconst (v := 1) hx hb dX4_takePath_69 (by decide) ?_
            refine lv_iadd hx hb dX4_takePath_70 ?_
            refine lv_topi (fun z3 ez3 => ?_)
            refine va_put (D := D) (ci := 4) (v := .int z3) (ty := .int) (C := RX4) (T := TX4) (N := 21) hx hb hts iX4 tyX4 tyX4_ok nmX4 hown hK.1 hP hD hS 0 rfl rfl 1 (by decide) (hts (.fieldLink RX4 72 "NamedStreamsModel" "paths" "I") (by decide +kernel)) (fun _ h9 => h9) rfl (by decide +kernel) rfl rfl (Nat.le_of_ble_eq_true rfl) dX4_takePath_71 (fun H locs hP hD hS => ?_)
            have hP : va_P D vwCl (wM bd cb sd z3 (nI tt) st tr sc gr P1 (upd Mn (Int32.toNatClampNeg (nI zz)) (nI tt)) T Wt Rn Po Pl Sp Ks Kp Kc Ik O As X) H := hP
            have hD : va_D A (wM bd cb sd z3 (nI tt) st tr sc gr P1 (upd Mn (Int32.toNatClampNeg (nI zz)) (nI tt)) T Wt Rn Po Pl Sp Ks Kp Kc Ik O As X) := hD
            refine lv_iload_n hx hb dX4_takePath_74 rfl (lv_at hl 1 rfl) ?_
            exact nk_retI (g := _) (P1, (upd Mn (Int32.toNatClampNeg (nI zz)) (nI tt)), z3) hx hb hr hlocks hP hD hS dX4_takePath_75 (by subst ez3; rw [mTake, if_neg hL24, if_pos hLk, ← show P1 = mCopyT T zz tt tt P from ht])
          · skip
            exact absurd (by rw [hi]; exact nI_le (by omega) (by omega)) c39
        | succ k ih34 =>
          intro i P1 H locs ls hk hi ht hP hD hS hl
          refine lv_iload_n hx hb dX4_takePath_34 rfl (lv_at hl 0 rfl) ?_
          refine lv_aload_n hx hb dX4_takePath_35 rfl (lv_at hl 2 rfl) ?_
          refine va_get (D := D) (ci := 4) (v := .int (nI tt)) (C := RX4) (T := TX4) (N := 21) hx hb hts iX4 hown hK.1 hP 0 rfl rfl 5 (by decide) (hts (.fieldLink RX4 68 "NamedStreamsModel" "toldMany" "I") (by decide +kernel)) (fun _ h9 => h9) rfl dX4_takePath_36 ?_
          refine lv_icmp_ge (tgt := 64) hx hb dX4_takePath_39 (by decide) (fun c39 => ?_) (fun c39 => ?_)
          · skip
            exact absurd c39 (Int32.not_le.mpr (by rw [hi]; exact nI_lt (by omega) (by omega)))
          · skip
            refine lv_aload_n hx hb dX4_takePath_42 rfl (lv_at hl 2 rfl) ?_
            refine va_get (D := D) (ci := 4) (v := .ref (bd 1)) (C := RX4) (T := TX4) (N := 21) hx hb hts iX4 hown hK.1 hP 0 rfl rfl 2 (by decide) (hts (.fieldLink RX4 7 "NamedStreamsModel" "part" "[J") (by decide +kernel)) (fun _ h9 => h9) rfl dX4_takePath_43 ?_
            refine lv_iconst (v := 4) hx hb dX4_takePath_46 (by decide) ?_
            refine lv_iload_n hx hb dX4_takePath_47 rfl (lv_at hl 1 rfl) ?_
            refine lv_imul hx hb dX4_takePath_48 ?_
            refine lv_iload_n hx hb dX4_takePath_49 rfl (lv_at hl 0 rfl) ?_
            refine lv_iadd hx hb dX4_takePath_50 ?_
            refine lv_aload_n hx hb dX4_takePath_51 rfl (lv_at hl 2 rfl) ?_
            refine va_get (D := D) (ci := 4) (v := .ref (bd 3)) (C := RX4) (T := TX4) (N := 21) hx hb hts iX4 hown hK.1 hP 0 rfl rfl 4 (by decide) (hts (.fieldLink RX4 17 "NamedStreamsModel" "told" "[J") (by decide +kernel)) (fun _ h9 => h9) rfl dX4_takePath_52 ?_
            refine lv_iload_n hx hb dX4_takePath_55 rfl (lv_at hl 0 rfl) ?_
            refine va_lald hx hb hK.1 hP 3 2 rfl rfl (by rw [hi]; exact vp_in_nI (by omega) (by decide)) dX4_takePath_56 ?_
            refine lv_topl (fun z4 ez4 => ?_)
            refine va_last hx hb hK.1 hP hD hS 1 0 rfl rfl (by rw [hi]; exact ns_in96b hzl (by omega)) dX4_takePath_57 (fun H locs hP hD hS => ?_)
            have hP : va_P D vwCl (wM bd cb sd (nI zz) (nI tt) st tr sc gr (vp_updL P1 (Int32.toNatClampNeg (((4 : Int32) * (nI zz)) + i)) z4) (upd Mn (Int32.toNatClampNeg (nI zz)) (nI tt)) T Wt Rn Po Pl Sp Ks Kp Kc Ik O As X) H := hP
            have hD : va_D A (wM bd cb sd (nI zz) (nI tt) st tr sc gr (vp_updL P1 (Int32.toNatClampNeg (((4 : Int32) * (nI zz)) + i)) z4) (upd Mn (Int32.toNatClampNeg (nI zz)) (nI tt)) T Wt Rn Po Pl Sp Ks Kp Kc Ik O As X) := hD
            obtain ⟨i5, ei5⟩ : ∃ y : Int32, y = i + 1 := ⟨_, rfl⟩
            refine lv_iinc (v := i5) (lv' := [(2, .int i5), (1, .int (nI zz)), (0, .ref (bd 0))]) hx hb dX4_takePath_58 hl (k := 0) rfl (by rw [ei5]; rfl) (by decide) rfl (fun ls hl => ?_)
            refine lv_goto (tgt := 34) hx hb dX4_takePath_61 (by decide) ?_
            exact ih34 i5 (vp_updL P1 (Int32.toNatClampNeg (((4 : Int32) * (nI zz)) + i)) z4) _ _ _ (Nat.le_of_succ_le hk) (ns_step hi hk ei5) (by subst hi; subst ez4; rw [mCopyT] at ht; exact ht) hP hD hS (lv_sub hl [0, 1, 2] rfl)
      exact lp34 tt (0 : Int32) P _ _ _ (Nat.le_refl tt) (by rw [Nat.sub_self]; rfl) rfl hP hD hS (lv_sub hl [0, 1, 2] rfl)
  · skip
    refine lv_bipush (v := -2) hx hb dX4_takePath_11 (by decide) ?_
    exact nk_retI (g := _) (P, Mn, (nI zz)) hx hb hr hlocks hP hD hS dX4_takePath_13 (by subst ez2; exact if_pos c8)

set_option maxHeartbeats 800000 in
set_option maxRecDepth 100000 in
theorem mX4_path (l : Launch) (D : va_G) (bd : Nat → Nat) (cb : Nat → ClassId) (sd : Int64) (st : Int32) (tr : Int32) (sc : Int32) (gr : Int32) (P : Nat → Int64) (Mn : Nat → Int32) (T : Nat → Int64) (Wt : Nat → Int64) (Rn : Nat → Int64) (Po : Nat → Int32) (Pl : Nat → Int32) (Sp : Nat → Int32) (Ks : Nat → Int32) (Kp : Nat → Int32) (Kc : Nat → Int32) (Ik : Nat → Int32) (O : Nat → Int32) (As : Nat → Int64) (X : va_W) (zz tt : Nat) (hz0 : zz ≤ 24) (ht0 : tt ≤ 4) : nkMI l yX4_path wsX4_path ({ frames := 2, cells := 0, slots := 0, locals := 45 }) D (tM cb) [.ref (bd 0)] (wM bd cb sd (nI zz) (nI tt) st tr sc gr P Mn T Wt Rn Po Pl Sp Ks Kp Kc Ik O As X) (fun u : Int32 × sMp => wM bd cb sd u.2.2.2 u.1 st tr sc gr u.2.1 u.2.2.1 T Wt Rn Po Pl Sp Ks Kp Kc Ik O As X) (fun r u => mPath P T Mn zz tt = (r, u)) 0 0 := by
  refine nk_ofM (Qf := fun A => va_Qi (fun r u => mPath P T Mn zz tt = (r, u)) (nkB D A (fun u : Int32 × sMp => wM bd cb sd u.2.2.2 u.1 st tr sc gr u.2.1 u.2.2.1 T Wt Rn Po Pl Sp Ks Kp Kc Ik O As X)) A) (cc := cX4_path) (maxL := 2) (ret := (some .int)) (by decide) rfl (Nat.le_of_ble_eq_true rfl) ?_
  intro p e s m below meth c A hx hb hr hml hts hown hlocks hin hK hP hD hA hS ls hl
  replace hown : s.vm.findClass RX4 = some m.cls := hown
  replace hl : lv_has ls 2 [(0, .ref (bd 0))] := hl
  have hP : va_P D vwCl (wM bd cb sd (nI zz) (nI tt) st tr sc gr P Mn T Wt Rn Po Pl Sp Ks Kp Kc Ik O As X) s.heap := hP
  have iX4 : ∀ w ∈ u_ws RX4 TX4 21, w ∈ wsX4_path := by decide +kernel
  refine lv_aload_n hx hb dX4_path_0 rfl (lv_at hl 0 rfl) ?_
  refine va_get (D := D) (ci := 4) (v := .int (nI tt)) (C := RX4) (T := TX4) (N := 21) hx hb hts iX4 hown hK.1 hP 0 rfl rfl 5 (by decide) (hts (.fieldLink RX4 68 "NamedStreamsModel" "toldMany" "I") (by decide +kernel)) (fun _ h9 => h9) rfl dX4_path_1 ?_
  refine lv_if_ne (tgt := 9) hx hb dX4_path_4 (by decide) (fun c4 => ?_) (fun c4 => ?_)
  · skip
    refine lv_aload_n hx hb dX4_path_9 rfl (lv_at hl 0 rfl) ?_
    refine nk_VI (As := []) (rest := []) ⟨hx, hb, hml, hown, hts⟩ (mX4_takePath l D bd cb sd st tr sc gr P Mn T Wt Rn Po Pl Sp Ks Kp Kc Ik O As X zz tt hz0 ht0) (cwV 0 hts gX4_path_X4_takePath rfl rfl rfl (by decide +kernel) ⟨Nat.le_of_ble_eq_true rfl, Nat.le_of_ble_eq_true rfl⟩) hK hP hD hS hA 0 4 rfl rfl rfl rfl hl.1 rfl (Nat.le_of_ble_eq_true rfl) dX4_path_10 ⟨Nat.le_of_ble_eq_true rfl, Nat.le_of_ble_eq_true rfl⟩ (fun r1 ur1 H locs hr1 hP hD hS => ?_)
    obtain ⟨rfl, rfl⟩ : r1 = (mTake P T Mn zz tt).1 ∧ ur1 = (mTake P T Mn zz tt).2 := by rw [hr1]; exact ⟨rfl, rfl⟩
    have hP : va_P D vwCl (wM bd cb sd ((mTake P T Mn zz tt).2.2.2) (nI tt) st tr sc gr ((mTake P T Mn zz tt).2.1) ((mTake P T Mn zz tt).2.2.1) T Wt Rn Po Pl Sp Ks Kp Kc Ik O As X) H := hP
    have hD : va_D A (wM bd cb sd ((mTake P T Mn zz tt).2.2.2) (nI tt) st tr sc gr ((mTake P T Mn zz tt).2.1) ((mTake P T Mn zz tt).2.2.1) T Wt Rn Po Pl Sp Ks Kp Kc Ik O As X) := hD
    refine lv_topi (fun z2 ez2 => ?_)
    refine lv_istore_n (lv' := [(1, .int z2), (0, .ref (bd 0))]) hx hb dX4_path_13 rfl hl (by decide) rfl (fun ls hl => ?_)
    refine lv_aload_n hx hb dX4_path_14 rfl (lv_at hl 1 rfl) ?_
    refine lv_iload_n hx hb dX4_path_15 rfl (lv_at hl 0 rfl) ?_
    refine lv_if_ge (tgt := 26) hx hb dX4_path_16 (by decide) (fun c16 => ?_) (fun c16 => ?_)
    · skip
      refine lv_iconst (v := 0) hx hb dX4_path_26 (by decide) ?_
      refine va_put (D := D) (ci := 4) (v := .int (0 : Int32)) (ty := .int) (C := RX4) (T := TX4) (N := 21) hx hb hts iX4 tyX4 tyX4_ok nmX4 hown hK.1 hP hD hS 0 rfl rfl 5 (by decide) (hts (.fieldLink RX4 68 "NamedStreamsModel" "toldMany" "I") (by decide +kernel)) (fun _ h9 => h9) rfl (by decide +kernel) rfl rfl (Nat.le_of_ble_eq_true rfl) dX4_path_27 (fun H locs hP hD hS => ?_)
      have hP : va_P D vwCl (wM bd cb sd ((mTake P T Mn zz tt).2.2.2) (0 : Int32) st tr sc gr ((mTake P T Mn zz tt).2.1) ((mTake P T Mn zz tt).2.2.1) T Wt Rn Po Pl Sp Ks Kp Kc Ik O As X) H := hP
      have hD : va_D A (wM bd cb sd ((mTake P T Mn zz tt).2.2.2) (0 : Int32) st tr sc gr ((mTake P T Mn zz tt).2.1) ((mTake P T Mn zz tt).2.2.1) T Wt Rn Po Pl Sp Ks Kp Kc Ik O As X) := hD
      refine lv_iload_n hx hb dX4_path_30 rfl (lv_at hl 0 rfl) ?_
      exact nk_retI (g := _) ((0 : Int32), (mTake P T Mn zz tt).2.1, (mTake P T Mn zz tt).2.2.1, (mTake P T Mn zz tt).2.2.2) hx hb hr hlocks hP hD hS dX4_path_31 (by subst ez2; exact ((if_neg c4).trans (if_pos c16)))
    · skip
      refine lv_aload_n hx hb dX4_path_19 rfl (lv_at hl 1 rfl) ?_
      refine va_get (D := D) (ci := 4) (v := .int (nI tt)) (C := RX4) (T := TX4) (N := 21) hx hb hts iX4 hown hK.1 hP 0 rfl rfl 5 (by decide) (hts (.fieldLink RX4 68 "NamedStreamsModel" "toldMany" "I") (by decide +kernel)) (fun _ h9 => h9) rfl dX4_path_20 ?_
      refine lv_goto (tgt := 27) hx hb dX4_path_23 (by decide) ?_
      refine va_put (D := D) (ci := 4) (v := .int (nI tt)) (ty := .int) (C := RX4) (T := TX4) (N := 21) hx hb hts iX4 tyX4 tyX4_ok nmX4 hown hK.1 hP hD hS 0 rfl rfl 5 (by decide) (hts (.fieldLink RX4 68 "NamedStreamsModel" "toldMany" "I") (by decide +kernel)) (fun _ h9 => h9) rfl (by decide +kernel) rfl rfl (Nat.le_of_ble_eq_true rfl) dX4_path_27 (fun H locs hP hD hS => ?_)
      have hP : va_P D vwCl (wM bd cb sd ((mTake P T Mn zz tt).2.2.2) (nI tt) st tr sc gr ((mTake P T Mn zz tt).2.1) ((mTake P T Mn zz tt).2.2.1) T Wt Rn Po Pl Sp Ks Kp Kc Ik O As X) H := hP
      have hD : va_D A (wM bd cb sd ((mTake P T Mn zz tt).2.2.2) (nI tt) st tr sc gr ((mTake P T Mn zz tt).2.1) ((mTake P T Mn zz tt).2.2.1) T Wt Rn Po Pl Sp Ks Kp Kc Ik O As X) := hD
      refine lv_iload_n hx hb dX4_path_30 rfl (lv_at hl 0 rfl) ?_
      exact nk_retI (g := _) ((nI tt), (mTake P T Mn zz tt).2.1, (mTake P T Mn zz tt).2.2.1, (mTake P T Mn zz tt).2.2.2) hx hb hr hlocks hP hD hS dX4_path_31 (by subst ez2; exact ((if_neg c4).trans (if_neg c16)))
  · skip
    refine lv_iconst (v := -1) hx hb dX4_path_7 (by decide) ?_
    exact nk_retI (g := _) ((nI tt), P, Mn, (nI zz)) hx hb hr hlocks hP hD hS dX4_path_8 (by exact (if_pos c4))

set_option maxHeartbeats 800000 in
set_option maxRecDepth 100000 in
theorem mX4_isPath (l : Launch) (D : va_G) (bd : Nat → Nat) (cb : Nat → ClassId) (sd : Int64) (pz : Int32) (tc : Int32) (st : Int32) (tr : Int32) (sc : Int32) (gr : Int32) (P : Nat → Int64) (Mn : Nat → Int32) (T : Nat → Int64) (Wt : Nat → Int64) (Rn : Nat → Int64) (Po : Nat → Int32) (Pl : Nat → Int32) (Sp : Nat → Int32) (Ks : Nat → Int32) (Kp : Nat → Int32) (Kc : Nat → Int32) (Ik : Nat → Int32) (O : Nat → Int32) (As : Nat → Int64) (X : va_W) (p0 : Int32) : nkRI l yX4_isPath wsX4_isPath ({ frames := 1, cells := 0, slots := 0, locals := 25 }) D (tM cb) [.ref (bd 0), .int p0] (wM bd cb sd pz tc st tr sc gr P Mn T Wt Rn Po Pl Sp Ks Kp Kc Ik O As X) (fun r => r = mIs pz p0) := by
  refine nk_ofR (cc := cX4_isPath) (maxL := 2) (ret := (some .boolean)) (by decide) rfl (Nat.le_of_ble_eq_true rfl) ?_
  intro p e s m below meth c hx hb hr hml hts hown hlocks hK hP ls hl
  replace hown : s.vm.findClass RX4 = some m.cls := hown
  replace hl : lv_has ls 2 [(0, .ref (bd 0)), (1, .int p0)] := hl
  have hP : va_P D vwCl (wM bd cb sd pz tc st tr sc gr P Mn T Wt Rn Po Pl Sp Ks Kp Kc Ik O As X) s.heap := hP
  have iX4 : ∀ w ∈ u_ws RX4 TX4 21, w ∈ wsX4_isPath := by decide +kernel
  refine lv_iload_n hx hb dX4_isPath_0 rfl (lv_at hl 1 rfl) ?_
  refine lv_i2l hx hb dX4_isPath_1 rfl ?_
  refine lv_lconst (v := 0) hx hb dX4_isPath_2 (by decide) ?_
  refine lv_aload_n hx hb dX4_isPath_3 rfl (lv_at hl 0 rfl) ?_
  refine va_get (D := D) (ci := 4) (v := .int pz) (C := RX4) (T := TX4) (N := 21) hx hb hts iX4 hown hK.1 hP 0 rfl rfl 1 (by decide) (hts (.fieldLink RX4 72 "NamedStreamsModel" "paths" "I") (by decide +kernel)) (fun _ h9 => h9) rfl dX4_isPath_4 ?_
  refine lv_iconst (v := 1) hx hb dX4_isPath_7 (by decide) ?_
  refine lv_isub hx hb dX4_isPath_8 ?_
  refine lv_i2l hx hb dX4_isPath_9 rfl ?_
  refine nk_SSI (As := [.long (Int32.toInt64 p0), .long (0 : Int64), .long (Int32.toInt64 (pz - (1 : Int32)))]) (rest := []) ⟨hx, hb, hml, hown, hts⟩ (mX4_in l (Int32.toInt64 p0) (0 : Int64) (Int32.toInt64 (pz - (1 : Int32)))) (va_cwS 3 hts gX4_isPath_X4_in rfl rfl rfl (by decide +kernel) ⟨Nat.le_of_ble_eq_true rfl, Nat.le_of_ble_eq_true rfl⟩) rfl hl.1 rfl (Nat.le_of_ble_eq_true rfl) dX4_isPath_10 ⟨Nat.le_of_ble_eq_true rfl, Nat.le_of_ble_eq_true rfl⟩ (fun r1 hr1 => ?_)
  subst hr1
  exact nk_endZ hx hb hr hlocks (mIs_nar _ _) dX4_isPath_13 (by rfl)

set_option maxHeartbeats 800000 in
set_option maxRecDepth 100000 in
theorem mX4_keyOf (l : Launch) (D : va_G) (bd : Nat → Nat) (cb : Nat → ClassId) (sd : Int64) (pz : Int32) (tc : Int32) (st : Int32) (tr : Int32) (sc : Int32) (gr : Int32) (P : Nat → Int64) (Mn : Nat → Int32) (T : Nat → Int64) (Wt : Nat → Int64) (Rn : Nat → Int64) (Po : Nat → Int32) (Pl : Nat → Int32) (Sp : Nat → Int32) (Ks : Nat → Int32) (Kp : Nat → Int32) (Kc : Nat → Int32) (Ik : Nat → Int32) (O : Nat → Int32) (As : Nat → Int64) (X : va_W) (p0 : Int32) (hp0 : vp_in p0 24) (hl0 : vp_in (Mn p0.toNatClampNeg) 5) : nkRL l yX4_keyOf wsX4_keyOf ({ frames := 1, cells := 0, slots := 0, locals := 23 }) D (tM cb) [.ref (bd 0), .int p0] (wM bd cb sd pz tc st tr sc gr P Mn T Wt Rn Po Pl Sp Ks Kp Kc Ik O As X) (fun r => r = mKey P Mn p0) := by
  refine nk_ofR (cc := cX4_keyOf) (maxL := 5) (ret := (some .long)) (by decide) rfl (Nat.le_of_ble_eq_true rfl) ?_
  intro p e s m below meth c hx hb hr hml hts hown hlocks hK hP ls hl
  replace hown : s.vm.findClass RX4 = some m.cls := hown
  replace hl : lv_has ls 5 [(0, .ref (bd 0)), (1, .int p0)] := hl
  have hP : va_P D vwCl (wM bd cb sd pz tc st tr sc gr P Mn T Wt Rn Po Pl Sp Ks Kp Kc Ik O As X) s.heap := hP
  have iX4 : ∀ w ∈ u_ws RX4 TX4 21, w ∈ wsX4_keyOf := by decide +kernel
  obtain ⟨pp, hpp, hpE⟩ := vp_in_of hp0 (by decide)
  obtain ⟨ll, hll, hlE⟩ := vp_in_of hl0 (by decide)
  refine lv_lconst (v := 0) hx hb dX4_keyOf_0 (by decide) ?_
  refine lv_lstore_n (lv' := [(2, .long (0 : Int64)), (0, .ref (bd 0)), (1, .int p0)]) hx hb dX4_keyOf_1 rfl hl (by decide) rfl (fun ls hl => ?_)
  refine lv_iconst (v := 0) hx hb dX4_keyOf_2 (by decide) ?_
  refine lv_istore (lv' := [(4, .int (0 : Int32)), (2, .long (0 : Int64)), (0, .ref (bd 0)), (1, .int p0)]) hx hb dX4_keyOf_3 hl (by decide) rfl (fun ls hl => ?_)
  have lp5 : ∀ (k : Nat) (i : Int32) (y1 : Int64) (ls : Array Slot), k ≤ ll → i = nI (ll - k) → mKeyL P p0 ll k y1 = mKeyL P p0 ll ll 0 → lv_has ls 5 [(4, .int i), (2, .long y1), (0, .ref (bd 0)), (1, .int p0)] → W p l e ({ frames := 1, cells := 0, slots := 0, locals := 23 } : Room) s m ([.ref (bd 0), .int p0] : List Value).toArray below meth c s.heap [] 0 0 (MQ below (vp_Sl (fun r => r = mKey P Mn p0)) ([.ref (bd 0), .int p0] : List Value).toArray s 0 0 (fun _ => False)) (F0 m 5 ls []) := by
    intro k
    induction k with
    | zero =>
      intro i y1 ls hk hi ht hl
      refine lv_iload hx hb dX4_keyOf_5 (lv_at hl 0 rfl) ?_
      refine lv_aload_n hx hb dX4_keyOf_7 rfl (lv_at hl 2 rfl) ?_
      refine va_get (D := D) (ci := 4) (v := .ref (bd 2)) (C := RX4) (T := TX4) (N := 21) hx hb hts iX4 hown hK.1 hP 0 rfl rfl 3 (by decide) (hts (.fieldLink RX4 13 "NamedStreamsModel" "many" "[I") (by decide +kernel)) (fun _ h9 => h9) rfl dX4_keyOf_8 ?_
      refine lv_iload_n hx hb dX4_keyOf_11 rfl (lv_at hl 3 rfl) ?_
      refine va_iald hx hb hK.1 hP 2 1 rfl rfl hp0 dX4_keyOf_12 ?_
      refine lv_icmp_ge (tgt := 43) hx hb dX4_keyOf_13 (by decide) (fun c13 => ?_) (fun c13 => ?_)
      · skip
        refine lv_lload_n hx hb dX4_keyOf_43 rfl (lv_at hl 1 rfl) ?_
        exact nk_endL hx hb hr hlocks dX4_keyOf_44 (by rw [mKeyL_0] at ht; unfold mKey; rw [hlE, nI_clamp (by omega)]; exact ht)
      · skip
        exact absurd (by rw [hlE, hi]; exact nI_le (by omega) (by omega)) c13
    | succ k ih5 =>
      intro i y1 ls hk hi ht hl
      refine lv_iload hx hb dX4_keyOf_5 (lv_at hl 0 rfl) ?_
      refine lv_aload_n hx hb dX4_keyOf_7 rfl (lv_at hl 2 rfl) ?_
      refine va_get (D := D) (ci := 4) (v := .ref (bd 2)) (C := RX4) (T := TX4) (N := 21) hx hb hts iX4 hown hK.1 hP 0 rfl rfl 3 (by decide) (hts (.fieldLink RX4 13 "NamedStreamsModel" "many" "[I") (by decide +kernel)) (fun _ h9 => h9) rfl dX4_keyOf_8 ?_
      refine lv_iload_n hx hb dX4_keyOf_11 rfl (lv_at hl 3 rfl) ?_
      refine va_iald hx hb hK.1 hP 2 1 rfl rfl hp0 dX4_keyOf_12 ?_
      refine lv_icmp_ge (tgt := 43) hx hb dX4_keyOf_13 (by decide) (fun c13 => ?_) (fun c13 => ?_)
      · skip
        exact absurd c13 (Int32.not_le.mpr (by rw [hlE, hi]; exact nI_lt (by omega) (by omega)))
      · skip
        refine lv_lload_n hx hb dX4_keyOf_16 rfl (lv_at hl 1 rfl) ?_
        refine lv_ldc2 (v := -7046029254386353131) hx hb hown (hts (.constantLong RX4 86 (-7046029254386353131)) (by decide +kernel)) dX4_keyOf_17 ?_
        refine lv_ladd hx hb dX4_keyOf_20 ?_
        refine lv_aload_n hx hb dX4_keyOf_21 rfl (lv_at hl 2 rfl) ?_
        refine va_get (D := D) (ci := 4) (v := .ref (bd 1)) (C := RX4) (T := TX4) (N := 21) hx hb hts iX4 hown hK.1 hP 0 rfl rfl 2 (by decide) (hts (.fieldLink RX4 7 "NamedStreamsModel" "part" "[J") (by decide +kernel)) (fun _ h9 => h9) rfl dX4_keyOf_22 ?_
        refine lv_iconst (v := 4) hx hb dX4_keyOf_25 (by decide) ?_
        refine lv_iload_n hx hb dX4_keyOf_26 rfl (lv_at hl 3 rfl) ?_
        refine lv_imul hx hb dX4_keyOf_27 ?_
        refine lv_iload hx hb dX4_keyOf_28 (lv_at hl 0 rfl) ?_
        refine lv_iadd hx hb dX4_keyOf_30 ?_
        refine va_lald hx hb hK.1 hP 1 0 rfl rfl (by rw [hpE, hi]; exact ns_in96b hpp (by omega)) dX4_keyOf_31 ?_
        refine lv_lxor hx hb dX4_keyOf_32 ?_
        refine nk_SSL (As := [.long ((y1 + (-7046029254386353131 : Int64)) ^^^ (P (Int32.toNatClampNeg (((4 : Int32) * p0) + i))))]) (rest := []) ⟨hx, hb, hml, hown, hts⟩ (mX4_mix l ((y1 + (-7046029254386353131 : Int64)) ^^^ (P (Int32.toNatClampNeg (((4 : Int32) * p0) + i))))) (va_cwS 1 hts gX4_keyOf_X4_mix rfl rfl rfl (by decide +kernel) ⟨Nat.le_of_ble_eq_true rfl, Nat.le_of_ble_eq_true rfl⟩) rfl hl.1 rfl (Nat.le_of_ble_eq_true rfl) dX4_keyOf_33 ⟨Nat.le_of_ble_eq_true rfl, Nat.le_of_ble_eq_true rfl⟩ (fun r1 hr1 => ?_)
        subst hr1
        refine lv_topl (fun z2 ez2 => ?_)
        refine lv_lstore_n (lv' := [(2, .long z2), (4, .int i), (0, .ref (bd 0)), (1, .int p0)]) hx hb dX4_keyOf_36 rfl hl (by decide) rfl (fun ls hl => ?_)
        obtain ⟨i3, ei3⟩ : ∃ y : Int32, y = i + 1 := ⟨_, rfl⟩
        refine lv_iinc (v := i3) (lv' := [(4, .int i3), (2, .long z2), (0, .ref (bd 0)), (1, .int p0)]) hx hb dX4_keyOf_37 hl (k := 1) rfl (by rw [ei3]; rfl) (by decide) rfl (fun ls hl => ?_)
        refine lv_goto (tgt := 5) hx hb dX4_keyOf_40 (by decide) ?_
        exact ih5 i3 z2 _ (Nat.le_of_succ_le hk) (ns_step hi hk ei3) (by subst hi; subst ez2; rw [mKeyL_s] at ht; exact ht) (lv_sub hl [0, 1, 2, 3] rfl)
  exact lp5 ll (0 : Int32) (0 : Int64) _ (Nat.le_refl ll) (by rw [Nat.sub_self]; rfl) rfl (lv_sub hl [0, 1, 2, 3] rfl)

set_option maxHeartbeats 800000 in
set_option maxRecDepth 100000 in
theorem mX4_key (l : Launch) (D : va_G) (bd : Nat → Nat) (cb : Nat → ClassId) (sd : Int64) (pz : Int32) (tc : Int32) (st : Int32) (tr : Int32) (sc : Int32) (gr : Int32) (P : Nat → Int64) (Mn : Nat → Int32) (T : Nat → Int64) (Wt : Nat → Int64) (Rn : Nat → Int64) (Po : Nat → Int32) (Pl : Nat → Int32) (Sp : Nat → Int32) (Ks : Nat → Int32) (Kp : Nat → Int32) (Kc : Nat → Int32) (Ik : Nat → Int32) (O : Nat → Int32) (As : Nat → Int64) (X : va_W) (p0 : Int32) (hW : ¬ mIs pz p0 = 0 → vp_in p0 24 ∧ vp_in (Mn p0.toNatClampNeg) 5) : nkML l yX4_key wsX4_key ({ frames := 2, cells := 0, slots := 0, locals := 47 }) D (tM cb) [.ref (bd 0), .int p0] (wM bd cb sd pz tc st tr sc gr P Mn T Wt Rn Po Pl Sp Ks Kp Kc Ik O As X) (fun u : Int32 => wM bd cb sd pz tc u tr sc gr P Mn T Wt Rn Po Pl Sp Ks Kp Kc Ik O As X) (fun r u => mKeyM P Mn pz p0 = (r, u)) 0 0 := by
  refine nk_ofM (Qf := fun A => va_Ql (fun r u => mKeyM P Mn pz p0 = (r, u)) (nkB D A (fun u : Int32 => wM bd cb sd pz tc u tr sc gr P Mn T Wt Rn Po Pl Sp Ks Kp Kc Ik O As X)) A) (cc := cX4_key) (maxL := 2) (ret := (some .long)) (by decide) rfl (Nat.le_of_ble_eq_true rfl) ?_
  intro p e s m below meth c A hx hb hr hml hts hown hlocks hin hK hP hD hA hS ls hl
  replace hown : s.vm.findClass RX4 = some m.cls := hown
  replace hl : lv_has ls 2 [(0, .ref (bd 0)), (1, .int p0)] := hl
  have hP : va_P D vwCl (wM bd cb sd pz tc st tr sc gr P Mn T Wt Rn Po Pl Sp Ks Kp Kc Ik O As X) s.heap := hP
  have iX4 : ∀ w ∈ u_ws RX4 TX4 21, w ∈ wsX4_key := by decide +kernel
  refine lv_aload_n hx hb dX4_key_0 rfl (lv_at hl 0 rfl) ?_
  refine lv_aload_n hx hb dX4_key_1 rfl (lv_at hl 0 rfl) ?_
  refine lv_iload_n hx hb dX4_key_2 rfl (lv_at hl 1 rfl) ?_
  refine nk_VRI (As := [.int p0]) (rest := [.ref (bd 0)]) ⟨hx, hb, hml, hown, hts⟩ (mX4_isPath l D bd cb sd pz tc st tr sc gr P Mn T Wt Rn Po Pl Sp Ks Kp Kc Ik O As X p0) (cwV 1 hts gX4_key_X4_isPath rfl rfl rfl (by decide +kernel) ⟨Nat.le_of_ble_eq_true rfl, Nat.le_of_ble_eq_true rfl⟩) hK hP 0 4 rfl rfl rfl rfl hl.1 rfl (Nat.le_of_ble_eq_true rfl) dX4_key_3 ⟨Nat.le_of_ble_eq_true rfl, Nat.le_of_ble_eq_true rfl⟩ (fun r1 hr1 => ?_)
  subst hr1
  refine lv_if_eq (tgt := 13) hx hb dX4_key_6 (by decide) (fun c6 => ?_) (fun c6 => ?_)
  · skip
    refine lv_iconst (v := -1) hx hb dX4_key_13 (by decide) ?_
    refine va_put (D := D) (ci := 4) (v := .int (-1 : Int32)) (ty := .int) (C := RX4) (T := TX4) (N := 21) hx hb hts iX4 tyX4 tyX4_ok nmX4 hown hK.1 hP hD hS 0 rfl rfl 6 (by decide) (hts (.fieldLink RX4 96 "NamedStreamsModel" "status" "I") (by decide +kernel)) (fun _ h9 => h9) rfl (by decide +kernel) rfl rfl (Nat.le_of_ble_eq_true rfl) dX4_key_14 (fun H locs hP hD hS => ?_)
    have hP : va_P D vwCl (wM bd cb sd pz tc (-1 : Int32) tr sc gr P Mn T Wt Rn Po Pl Sp Ks Kp Kc Ik O As X) H := hP
    have hD : va_D A (wM bd cb sd pz tc (-1 : Int32) tr sc gr P Mn T Wt Rn Po Pl Sp Ks Kp Kc Ik O As X) := hD
    refine lv_aload_n hx hb dX4_key_17 rfl (lv_at hl 0 rfl) ?_
    refine va_get (D := D) (ci := 4) (v := .int (-1 : Int32)) (C := RX4) (T := TX4) (N := 21) hx hb hts iX4 hown hK.1 hP 0 rfl rfl 6 (by decide) (hts (.fieldLink RX4 96 "NamedStreamsModel" "status" "I") (by decide +kernel)) (fun _ h9 => h9) rfl dX4_key_18 ?_
    refine lv_if_ge (tgt := 28) hx hb dX4_key_21 (by decide) (fun c21 => ?_) (fun c21 => ?_)
    · skip
      exact absurd c21 (by decide)
    · skip
      refine lv_lconst (v := 0) hx hb dX4_key_24 (by decide) ?_
      refine lv_goto (tgt := 33) hx hb dX4_key_25 (by decide) ?_
      exact nk_retL (g := _) (-1 : Int32) hx hb hr hlocks hP hD hS dX4_key_33 (by exact (if_pos c6))
  · skip
    refine lv_iconst (v := 0) hx hb dX4_key_9 (by decide) ?_
    refine lv_goto (tgt := 14) hx hb dX4_key_10 (by decide) ?_
    refine va_put (D := D) (ci := 4) (v := .int (0 : Int32)) (ty := .int) (C := RX4) (T := TX4) (N := 21) hx hb hts iX4 tyX4 tyX4_ok nmX4 hown hK.1 hP hD hS 0 rfl rfl 6 (by decide) (hts (.fieldLink RX4 96 "NamedStreamsModel" "status" "I") (by decide +kernel)) (fun _ h9 => h9) rfl (by decide +kernel) rfl rfl (Nat.le_of_ble_eq_true rfl) dX4_key_14 (fun H locs hP hD hS => ?_)
    have hP : va_P D vwCl (wM bd cb sd pz tc (0 : Int32) tr sc gr P Mn T Wt Rn Po Pl Sp Ks Kp Kc Ik O As X) H := hP
    have hD : va_D A (wM bd cb sd pz tc (0 : Int32) tr sc gr P Mn T Wt Rn Po Pl Sp Ks Kp Kc Ik O As X) := hD
    refine lv_aload_n hx hb dX4_key_17 rfl (lv_at hl 0 rfl) ?_
    refine va_get (D := D) (ci := 4) (v := .int (0 : Int32)) (C := RX4) (T := TX4) (N := 21) hx hb hts iX4 hown hK.1 hP 0 rfl rfl 6 (by decide) (hts (.fieldLink RX4 96 "NamedStreamsModel" "status" "I") (by decide +kernel)) (fun _ h9 => h9) rfl dX4_key_18 ?_
    refine lv_if_ge (tgt := 28) hx hb dX4_key_21 (by decide) (fun c21 => ?_) (fun c21 => ?_)
    · skip
      refine lv_aload_n hx hb dX4_key_28 rfl (lv_at hl 0 rfl) ?_
      refine lv_iload_n hx hb dX4_key_29 rfl (lv_at hl 1 rfl) ?_
      refine nk_VRL (As := [.int p0]) (rest := []) ⟨hx, hb, hml, hown, hts⟩ (mX4_keyOf l D bd cb sd pz tc (0 : Int32) tr sc gr P Mn T Wt Rn Po Pl Sp Ks Kp Kc Ik O As X p0 (hW c6).1 (hW c6).2) (cwV 1 hts gX4_key_X4_keyOf rfl rfl rfl (by decide +kernel) ⟨Nat.le_of_ble_eq_true rfl, Nat.le_of_ble_eq_true rfl⟩) hK hP 0 4 rfl rfl rfl rfl hl.1 rfl (Nat.le_of_ble_eq_true rfl) dX4_key_30 ⟨Nat.le_of_ble_eq_true rfl, Nat.le_of_ble_eq_true rfl⟩ (fun r2 hr2 => ?_)
      subst hr2
      exact nk_retL (g := _) (0 : Int32) hx hb hr hlocks hP hD hS dX4_key_33 (by exact (if_neg c6))
    · skip
      exact absurd c21 (by decide)

set_option maxHeartbeats 800000 in
set_option maxRecDepth 100000 in
theorem mX4_wordOf (l : Launch) (D : va_G) (bd : Nat → Nat) (cb : Nat → ClassId) (sd : Int64) (pz : Int32) (tc : Int32) (st : Int32) (tr : Int32) (sc : Int32) (gr : Int32) (P : Nat → Int64) (Mn : Nat → Int32) (T : Nat → Int64) (Wt : Nat → Int64) (Rn : Nat → Int64) (Po : Nat → Int32) (Pl : Nat → Int32) (Sp : Nat → Int32) (Ks : Nat → Int32) (Kp : Nat → Int32) (Kc : Nat → Int32) (Ik : Nat → Int32) (O : Nat → Int32) (As : Nat → Int64) (X : va_W) (run0 : Int64) (p0 : Int32) (k0 : Int64) (hp0 : vp_in p0 24) (hl0 : vp_in (Mn p0.toNatClampNeg) 5) : nkRL l yX4_wordOf wsX4_wordOf ({ frames := 2, cells := 0, slots := 0, locals := 47 }) D (tM cb) [.ref (bd 0), .long run0, .int p0, .long k0] (wM bd cb sd pz tc st tr sc gr P Mn T Wt Rn Po Pl Sp Ks Kp Kc Ik O As X) (fun r => r = fWord (fBase sd run0 (mKey P Mn p0)) k0) := by
  refine nk_ofR (cc := cX4_wordOf) (maxL := 8) (ret := (some .long)) (by decide) rfl (Nat.le_of_ble_eq_true rfl) ?_
  intro p e s m below meth c hx hb hr hml hts hown hlocks hK hP ls hl
  replace hown : s.vm.findClass RX4 = some m.cls := hown
  replace hl : lv_has ls 8 [(0, .ref (bd 0)), (1, .long run0), (3, .int p0), (4, .long k0)] := hl
  have hP : va_P D vwCl (wM bd cb sd pz tc st tr sc gr P Mn T Wt Rn Po Pl Sp Ks Kp Kc Ik O As X) s.heap := hP
  have iX4 : ∀ w ∈ u_ws RX4 TX4 21, w ∈ wsX4_wordOf := by decide +kernel
  refine lv_aload_n hx hb dX4_wordOf_0 rfl (lv_at hl 0 rfl) ?_
  refine va_get (D := D) (ci := 4) (v := .long sd) (C := RX4) (T := TX4) (N := 21) hx hb hts iX4 hown hK.1 hP 0 rfl rfl 0 (by decide) (hts (.fieldLink RX4 54 "NamedStreamsModel" "seed" "J") (by decide +kernel)) (fun _ h9 => h9) rfl dX4_wordOf_1 ?_
  refine lv_ldc2 (v := -7046029254386353131) hx hb hown (hts (.constantLong RX4 86 (-7046029254386353131)) (by decide +kernel)) dX4_wordOf_4 ?_
  refine lv_lload_n hx hb dX4_wordOf_7 rfl (lv_at hl 1 rfl) ?_
  refine lv_lconst (v := 1) hx hb dX4_wordOf_8 (by decide) ?_
  refine lv_ladd hx hb dX4_wordOf_9 ?_
  refine lv_lmul hx hb dX4_wordOf_10 ?_
  refine lv_ladd hx hb dX4_wordOf_11 ?_
  refine lv_aload_n hx hb dX4_wordOf_12 rfl (lv_at hl 0 rfl) ?_
  refine lv_iload_n hx hb dX4_wordOf_13 rfl (lv_at hl 2 rfl) ?_
  refine nk_VRL (As := [.int p0]) (rest := [.long (sd + ((-7046029254386353131 : Int64) * (run0 + (1 : Int64))))]) ⟨hx, hb, hml, hown, hts⟩ (mX4_keyOf l D bd cb sd pz tc st tr sc gr P Mn T Wt Rn Po Pl Sp Ks Kp Kc Ik O As X p0 hp0 hl0) (cwV 1 hts gX4_wordOf_X4_keyOf rfl rfl rfl (by decide +kernel) ⟨Nat.le_of_ble_eq_true rfl, Nat.le_of_ble_eq_true rfl⟩) hK hP 0 4 rfl rfl rfl rfl hl.1 rfl (Nat.le_of_ble_eq_true rfl) dX4_wordOf_14 ⟨Nat.le_of_ble_eq_true rfl, Nat.le_of_ble_eq_true rfl⟩ (fun r1 hr1 => ?_)
  subst hr1
  refine lv_lxor hx hb dX4_wordOf_17 ?_
  refine nk_SSL (As := [.long ((sd + ((-7046029254386353131 : Int64) * (run0 + (1 : Int64)))) ^^^ (mKey P Mn p0))]) (rest := []) ⟨hx, hb, hml, hown, hts⟩ (mX4_mix l ((sd + ((-7046029254386353131 : Int64) * (run0 + (1 : Int64)))) ^^^ (mKey P Mn p0))) (va_cwS 1 hts gX4_wordOf_X4_mix rfl rfl rfl (by decide +kernel) ⟨Nat.le_of_ble_eq_true rfl, Nat.le_of_ble_eq_true rfl⟩) rfl hl.1 rfl (Nat.le_of_ble_eq_true rfl) dX4_wordOf_18 ⟨Nat.le_of_ble_eq_true rfl, Nat.le_of_ble_eq_true rfl⟩ (fun r2 hr2 => ?_)
  subst hr2
  refine lv_topl (fun z3 ez3 => ?_)
  refine lv_lstore (lv' := [(6, .long z3), (0, .ref (bd 0)), (1, .long run0), (3, .int p0), (4, .long k0)]) hx hb dX4_wordOf_21 hl (by decide) rfl (fun ls hl => ?_)
  refine lv_lload hx hb dX4_wordOf_23 (lv_at hl 0 rfl) ?_
  refine lv_ldc2 (v := -7046029254386353131) hx hb hown (hts (.constantLong RX4 86 (-7046029254386353131)) (by decide +kernel)) dX4_wordOf_25 ?_
  refine lv_lload hx hb dX4_wordOf_28 (lv_at hl 4 rfl) ?_
  refine lv_lconst (v := 1) hx hb dX4_wordOf_30 (by decide) ?_
  refine lv_ladd hx hb dX4_wordOf_31 ?_
  refine lv_lmul hx hb dX4_wordOf_32 ?_
  refine lv_ladd hx hb dX4_wordOf_33 ?_
  refine nk_SSL (As := [.long (z3 + ((-7046029254386353131 : Int64) * (k0 + (1 : Int64))))]) (rest := []) ⟨hx, hb, hml, hown, hts⟩ (mX4_mix l (z3 + ((-7046029254386353131 : Int64) * (k0 + (1 : Int64))))) (va_cwS 1 hts gX4_wordOf_X4_mix rfl rfl rfl (by decide +kernel) ⟨Nat.le_of_ble_eq_true rfl, Nat.le_of_ble_eq_true rfl⟩) rfl hl.1 rfl (Nat.le_of_ble_eq_true rfl) dX4_wordOf_34 ⟨Nat.le_of_ble_eq_true rfl, Nat.le_of_ble_eq_true rfl⟩ (fun r4 hr4 => ?_)
  subst hr4
  exact nk_endL hx hb hr hlocks dX4_wordOf_37 (by subst ez3; rfl)

set_option maxHeartbeats 800000 in
set_option maxRecDepth 100000 in
theorem mX4_word (l : Launch) (D : va_G) (bd : Nat → Nat) (cb : Nat → ClassId) (sd : Int64) (pz : Int32) (tc : Int32) (st : Int32) (tr : Int32) (sc : Int32) (gr : Int32) (P : Nat → Int64) (Mn : Nat → Int32) (T : Nat → Int64) (Wt : Nat → Int64) (Rn : Nat → Int64) (Po : Nat → Int32) (Pl : Nat → Int32) (Sp : Nat → Int32) (Ks : Nat → Int32) (Kp : Nat → Int32) (Kc : Nat → Int32) (Ik : Nat → Int32) (O : Nat → Int32) (As : Nat → Int64) (X : va_W) (run0 : Int64) (p0 : Int32) (k0 : Int64) (hW : ¬ mIs pz p0 = 0 → vp_in p0 24 ∧ vp_in (Mn p0.toNatClampNeg) 5) : nkML l yX4_word wsX4_word ({ frames := 3, cells := 0, slots := 0, locals := 74 }) D (tM cb) [.ref (bd 0), .long run0, .int p0, .long k0] (wM bd cb sd pz tc st tr sc gr P Mn T Wt Rn Po Pl Sp Ks Kp Kc Ik O As X) (fun u : Int32 => wM bd cb sd pz tc u tr sc gr P Mn T Wt Rn Po Pl Sp Ks Kp Kc Ik O As X) (fun r u => mWd sd P Mn pz run0 p0 k0 = (r, u)) 0 0 := by
  refine nk_ofM (Qf := fun A => va_Ql (fun r u => mWd sd P Mn pz run0 p0 k0 = (r, u)) (nkB D A (fun u : Int32 => wM bd cb sd pz tc u tr sc gr P Mn T Wt Rn Po Pl Sp Ks Kp Kc Ik O As X)) A) (cc := cX4_word) (maxL := 6) (ret := (some .long)) (by decide) rfl (Nat.le_of_ble_eq_true rfl) ?_
  intro p e s m below meth c A hx hb hr hml hts hown hlocks hin hK hP hD hA hS ls hl
  replace hown : s.vm.findClass RX4 = some m.cls := hown
  replace hl : lv_has ls 6 [(0, .ref (bd 0)), (1, .long run0), (3, .int p0), (4, .long k0)] := hl
  have hP : va_P D vwCl (wM bd cb sd pz tc st tr sc gr P Mn T Wt Rn Po Pl Sp Ks Kp Kc Ik O As X) s.heap := hP
  have iX4 : ∀ w ∈ u_ws RX4 TX4 21, w ∈ wsX4_word := by decide +kernel
  refine lv_aload_n hx hb dX4_word_0 rfl (lv_at hl 0 rfl) ?_
  refine lv_aload_n hx hb dX4_word_1 rfl (lv_at hl 0 rfl) ?_
  refine lv_iload_n hx hb dX4_word_2 rfl (lv_at hl 2 rfl) ?_
  refine nk_VRI (As := [.int p0]) (rest := [.ref (bd 0)]) ⟨hx, hb, hml, hown, hts⟩ (mX4_isPath l D bd cb sd pz tc st tr sc gr P Mn T Wt Rn Po Pl Sp Ks Kp Kc Ik O As X p0) (cwV 1 hts gX4_word_X4_isPath rfl rfl rfl (by decide +kernel) ⟨Nat.le_of_ble_eq_true rfl, Nat.le_of_ble_eq_true rfl⟩) hK hP 0 4 rfl rfl rfl rfl hl.1 rfl (Nat.le_of_ble_eq_true rfl) dX4_word_3 ⟨Nat.le_of_ble_eq_true rfl, Nat.le_of_ble_eq_true rfl⟩ (fun r1 hr1 => ?_)
  subst hr1
  refine lv_if_eq (tgt := 13) hx hb dX4_word_6 (by decide) (fun c6 => ?_) (fun c6 => ?_)
  · skip
    refine lv_iconst (v := -1) hx hb dX4_word_13 (by decide) ?_
    refine va_put (D := D) (ci := 4) (v := .int (-1 : Int32)) (ty := .int) (C := RX4) (T := TX4) (N := 21) hx hb hts iX4 tyX4 tyX4_ok nmX4 hown hK.1 hP hD hS 0 rfl rfl 6 (by decide) (hts (.fieldLink RX4 96 "NamedStreamsModel" "status" "I") (by decide +kernel)) (fun _ h9 => h9) rfl (by decide +kernel) rfl rfl (Nat.le_of_ble_eq_true rfl) dX4_word_14 (fun H locs hP hD hS => ?_)
    have hP : va_P D vwCl (wM bd cb sd pz tc (-1 : Int32) tr sc gr P Mn T Wt Rn Po Pl Sp Ks Kp Kc Ik O As X) H := hP
    have hD : va_D A (wM bd cb sd pz tc (-1 : Int32) tr sc gr P Mn T Wt Rn Po Pl Sp Ks Kp Kc Ik O As X) := hD
    refine lv_aload_n hx hb dX4_word_17 rfl (lv_at hl 0 rfl) ?_
    refine va_get (D := D) (ci := 4) (v := .int (-1 : Int32)) (C := RX4) (T := TX4) (N := 21) hx hb hts iX4 hown hK.1 hP 0 rfl rfl 6 (by decide) (hts (.fieldLink RX4 96 "NamedStreamsModel" "status" "I") (by decide +kernel)) (fun _ h9 => h9) rfl dX4_word_18 ?_
    refine lv_if_ge (tgt := 28) hx hb dX4_word_21 (by decide) (fun c21 => ?_) (fun c21 => ?_)
    · skip
      exact absurd c21 (by decide)
    · skip
      refine lv_lconst (v := 0) hx hb dX4_word_24 (by decide) ?_
      refine lv_goto (tgt := 36) hx hb dX4_word_25 (by decide) ?_
      exact nk_retL (g := _) (-1 : Int32) hx hb hr hlocks hP hD hS dX4_word_36 (by exact (if_pos c6))
  · skip
    refine lv_iconst (v := 0) hx hb dX4_word_9 (by decide) ?_
    refine lv_goto (tgt := 14) hx hb dX4_word_10 (by decide) ?_
    refine va_put (D := D) (ci := 4) (v := .int (0 : Int32)) (ty := .int) (C := RX4) (T := TX4) (N := 21) hx hb hts iX4 tyX4 tyX4_ok nmX4 hown hK.1 hP hD hS 0 rfl rfl 6 (by decide) (hts (.fieldLink RX4 96 "NamedStreamsModel" "status" "I") (by decide +kernel)) (fun _ h9 => h9) rfl (by decide +kernel) rfl rfl (Nat.le_of_ble_eq_true rfl) dX4_word_14 (fun H locs hP hD hS => ?_)
    have hP : va_P D vwCl (wM bd cb sd pz tc (0 : Int32) tr sc gr P Mn T Wt Rn Po Pl Sp Ks Kp Kc Ik O As X) H := hP
    have hD : va_D A (wM bd cb sd pz tc (0 : Int32) tr sc gr P Mn T Wt Rn Po Pl Sp Ks Kp Kc Ik O As X) := hD
    refine lv_aload_n hx hb dX4_word_17 rfl (lv_at hl 0 rfl) ?_
    refine va_get (D := D) (ci := 4) (v := .int (0 : Int32)) (C := RX4) (T := TX4) (N := 21) hx hb hts iX4 hown hK.1 hP 0 rfl rfl 6 (by decide) (hts (.fieldLink RX4 96 "NamedStreamsModel" "status" "I") (by decide +kernel)) (fun _ h9 => h9) rfl dX4_word_18 ?_
    refine lv_if_ge (tgt := 28) hx hb dX4_word_21 (by decide) (fun c21 => ?_) (fun c21 => ?_)
    · skip
      refine lv_aload_n hx hb dX4_word_28 rfl (lv_at hl 0 rfl) ?_
      refine lv_lload_n hx hb dX4_word_29 rfl (lv_at hl 1 rfl) ?_
      refine lv_iload_n hx hb dX4_word_30 rfl (lv_at hl 2 rfl) ?_
      refine lv_lload hx hb dX4_word_31 (lv_at hl 3 rfl) ?_
      refine nk_VRL (As := [.long run0, .int p0, .long k0]) (rest := []) ⟨hx, hb, hml, hown, hts⟩ (mX4_wordOf l D bd cb sd pz tc (0 : Int32) tr sc gr P Mn T Wt Rn Po Pl Sp Ks Kp Kc Ik O As X run0 p0 k0 (hW c6).1 (hW c6).2) (cwV 3 hts gX4_word_X4_wordOf rfl rfl rfl (by decide +kernel) ⟨Nat.le_of_ble_eq_true rfl, Nat.le_of_ble_eq_true rfl⟩) hK hP 0 4 rfl rfl rfl rfl hl.1 rfl (Nat.le_of_ble_eq_true rfl) dX4_word_33 ⟨Nat.le_of_ble_eq_true rfl, Nat.le_of_ble_eq_true rfl⟩ (fun r2 hr2 => ?_)
      subst hr2
      exact nk_retL (g := _) (0 : Int32) hx hb hr hlocks hP hD hS dX4_word_36 (by exact (if_neg c6))
    · skip
      exact absurd c21 (by decide)

set_option maxHeartbeats 800000 in
set_option maxRecDepth 100000 in
theorem mX4_draw (l : Launch) (D : va_G) (bd : Nat → Nat) (cb : Nat → ClassId) (sd : Int64) (pz : Int32) (tc : Int32) (st : Int32) (tr : Int32) (sc : Int32) (gr : Int32) (P : Nat → Int64) (Mn : Nat → Int32) (T : Nat → Int64) (Wt : Nat → Int64) (Rn : Nat → Int64) (Po : Nat → Int32) (Pl : Nat → Int32) (Sp : Nat → Int32) (Ks : Nat → Int32) (Kp : Nat → Int32) (Kc : Nat → Int32) (Ik : Nat → Int32) (O : Nat → Int32) (As : Nat → Int64) (X : va_W) (run0 : Int64) (p0 c0 : Int32) (n0 : Int64) (hp0 : vp_in p0 24) (hl0 : vp_in (Mn p0.toNatClampNeg) 5) (hn0 : ¬ n0 = 0) : nkML l yX4_draw wsX4_draw ({ frames := 3, cells := 0, slots := 0, locals := 74 }) D (tM cb) [.ref (bd 0), .long run0, .int p0, .int c0, .long n0] (wM bd cb sd pz tc st tr sc gr P Mn T Wt Rn Po Pl Sp Ks Kp Kc Ik O As X) (fun u : Int32 => wM bd cb sd pz tc st u sc gr P Mn T Wt Rn Po Pl Sp Ks Kp Kc Ik O As X) (fun r u => mSpan (fBase sd run0 (mKey P Mn p0)) (32 * Int32.toInt64 c0) n0 tr = (r, u)) 0 0 := by
  refine nk_ofM (Qf := fun A => va_Ql (fun r u => mSpan (fBase sd run0 (mKey P Mn p0)) (32 * Int32.toInt64 c0) n0 tr = (r, u)) (nkB D A (fun u : Int32 => wM bd cb sd pz tc st u sc gr P Mn T Wt Rn Po Pl Sp Ks Kp Kc Ik O As X)) A) (cc := cX4_draw) (maxL := 12) (ret := (some .long)) (by decide) rfl (Nat.le_of_ble_eq_true rfl) ?_
  intro p e s m below meth c A hx hb hr hml hts hown hlocks hin hK hP hD hA hS ls hl
  replace hown : s.vm.findClass RX4 = some m.cls := hown
  replace hl : lv_has ls 12 [(0, .ref (bd 0)), (1, .long run0), (3, .int p0), (4, .int c0), (5, .long n0)] := hl
  have hP : va_P D vwCl (wM bd cb sd pz tc st tr sc gr P Mn T Wt Rn Po Pl Sp Ks Kp Kc Ik O As X) s.heap := hP
  have iX4 : ∀ w ∈ u_ws RX4 TX4 21, w ∈ wsX4_draw := by decide +kernel
  refine lv_lload hx hb dX4_draw_0 (lv_at hl 4 rfl) ?_
  refine lv_lneg hx hb dX4_draw_2 ?_
  refine lv_lload hx hb dX4_draw_3 (lv_at hl 4 rfl) ?_
  refine nk_SSL (As := [.long (-n0), .long n0]) (rest := []) ⟨hx, hb, hml, hown, hts⟩ (mX4_rest l (-n0) n0 hn0) (va_cwS 2 hts gX4_draw_X4_rest rfl rfl rfl (by decide +kernel) ⟨Nat.le_of_ble_eq_true rfl, Nat.le_of_ble_eq_true rfl⟩) rfl hl.1 rfl (Nat.le_of_ble_eq_true rfl) dX4_draw_5 ⟨Nat.le_of_ble_eq_true rfl, Nat.le_of_ble_eq_true rfl⟩ (fun r1 hr1 => ?_)
  subst hr1
  refine lv_topl (fun z2 ez2 => ?_)
  refine lv_lstore (lv' := [(7, .long z2), (0, .ref (bd 0)), (1, .long run0), (3, .int p0), (4, .int c0), (5, .long n0)]) hx hb dX4_draw_8 hl (by decide) rfl (fun ls hl => ?_)
  refine lv_iconst (v := 0) hx hb dX4_draw_10 (by decide) ?_
  refine lv_istore (lv' := [(9, .int (0 : Int32)), (7, .long z2), (0, .ref (bd 0)), (1, .long run0), (3, .int p0), (4, .int c0), (5, .long n0)]) hx hb dX4_draw_11 hl (by decide) rfl (fun ls hl => ?_)
  have lp13 : ∀ (k : Nat) (i : Int32) (tr1 : Int32) (H : Heap) (locs : List Loc) (ls : Array Slot), k ≤ 32 → i = nI (32 - k) → mDraw (fBase sd run0 (mKey P Mn p0)) (32 * Int32.toInt64 c0) n0 z2 k tr1 = mSpan (fBase sd run0 (mKey P Mn p0)) (32 * Int32.toInt64 c0) n0 tr → va_P D vwCl (wM bd cb sd pz tc st tr1 sc gr P Mn T Wt Rn Po Pl Sp Ks Kp Kc Ik O As X) H → va_D A (wM bd cb sd pz tc st tr1 sc gr P Mn T Wt Rn Po Pl Sp Ks Kp Kc Ik O As X) → va_S A s.heap H locs → lv_has ls 12 [(9, .int i), (7, .long z2), (0, .ref (bd 0)), (1, .long run0), (3, .int p0), (4, .int c0), (5, .long n0)] → W p l e ({ frames := 3, cells := 0, slots := 0, locals := 74 } : Room) s m ([.ref (bd 0), .long run0, .int p0, .int c0, .long n0] : List Value).toArray below meth c H locs 0 0 (MQ below (va_Ql (fun r u => mSpan (fBase sd run0 (mKey P Mn p0)) (32 * Int32.toInt64 c0) n0 tr = (r, u)) (nkB D A (fun u : Int32 => wM bd cb sd pz tc st u sc gr P Mn T Wt Rn Po Pl Sp Ks Kp Kc Ik O As X)) A) ([.ref (bd 0), .long run0, .int p0, .int c0, .long n0] : List Value).toArray s 0 0 A) (F0 m 13 ls []) := by
    intro k
    induction k with
    | zero =>
      intro i tr1 H locs ls hk hi ht hP hD hS hl
      refine lv_iload hx hb dX4_draw_13 (lv_at hl 0 rfl) ?_
      refine lv_bipush (v := 32) hx hb dX4_draw_15 (by decide) ?_
      refine lv_icmp_ge (tgt := 79) hx hb dX4_draw_17 (by decide) (fun c17 => ?_) (fun c17 => ?_)
      · skip
        refine lv_ldc2 (v := -3) hx hb hown (hts (.constantLong RX4 116 (-3)) (by decide +kernel)) dX4_draw_79 ?_
        exact nk_retL (g := _) tr1 hx hb hr hlocks hP hD hS dX4_draw_82 (by subst hi; rw [← ht]; rfl)
      · skip
        exact absurd (by rw [hi]; decide) c17
    | succ k ih13 =>
      intro i tr1 H locs ls hk hi ht hP hD hS hl
      refine lv_iload hx hb dX4_draw_13 (lv_at hl 0 rfl) ?_
      refine lv_bipush (v := 32) hx hb dX4_draw_15 (by decide) ?_
      refine lv_icmp_ge (tgt := 79) hx hb dX4_draw_17 (by decide) (fun c17 => ?_) (fun c17 => ?_)
      · skip
        exact absurd c17 (Int32.not_le.mpr (by rw [hi]; exact ns_nI_lt (n := 32) rfl (by omega) (by decide)))
      · skip
        refine lv_aload_n hx hb dX4_draw_20 rfl (lv_at hl 2 rfl) ?_
        refine lv_lload_n hx hb dX4_draw_21 rfl (lv_at hl 3 rfl) ?_
        refine lv_iload_n hx hb dX4_draw_22 rfl (lv_at hl 4 rfl) ?_
        refine lv_ldc2 (v := 32) hx hb hown (hts (.constantLong RX4 111 (32)) (by decide +kernel)) dX4_draw_23 ?_
        refine lv_iload hx hb dX4_draw_26 (lv_at hl 5 rfl) ?_
        refine lv_i2l hx hb dX4_draw_28 rfl ?_
        refine lv_lmul hx hb dX4_draw_29 ?_
        refine lv_iload hx hb dX4_draw_30 (lv_at hl 0 rfl) ?_
        refine lv_i2l hx hb dX4_draw_32 rfl ?_
        refine lv_ladd hx hb dX4_draw_33 ?_
        refine nk_VRL (As := [.long run0, .int p0, .long (((32 : Int64) * (Int32.toInt64 c0)) + (Int32.toInt64 i))]) (rest := []) ⟨hx, hb, hml, hown, hts⟩ (mX4_wordOf l D bd cb sd pz tc st tr1 sc gr P Mn T Wt Rn Po Pl Sp Ks Kp Kc Ik O As X run0 p0 (((32 : Int64) * (Int32.toInt64 c0)) + (Int32.toInt64 i)) hp0 hl0) (cwV 3 hts gX4_draw_X4_wordOf rfl rfl rfl (by decide +kernel) ⟨Nat.le_of_ble_eq_true rfl, Nat.le_of_ble_eq_true rfl⟩) hK hP 0 4 rfl rfl rfl rfl hl.1 rfl (Nat.le_of_ble_eq_true rfl) dX4_draw_34 ⟨Nat.le_of_ble_eq_true rfl, Nat.le_of_ble_eq_true rfl⟩ (fun r3 hr3 => ?_)
        subst hr3
        refine lv_topl (fun z4 ez4 => ?_)
        refine lv_lstore (lv' := [(10, .long z4), (9, .int i), (7, .long z2), (0, .ref (bd 0)), (1, .long run0), (3, .int p0), (4, .int c0), (5, .long n0)]) hx hb dX4_draw_37 hl (by decide) rfl (fun ls hl => ?_)
        refine lv_aload_n hx hb dX4_draw_39 rfl (lv_at hl 3 rfl) ?_
        refine lv_iload hx hb dX4_draw_40 (lv_at hl 1 rfl) ?_
        refine lv_iconst (v := 1) hx hb dX4_draw_42 (by decide) ?_
        refine lv_iadd hx hb dX4_draw_43 ?_
        refine lv_topi (fun z5 ez5 => ?_)
        refine va_put (D := D) (ci := 4) (v := .int z5) (ty := .int) (C := RX4) (T := TX4) (N := 21) hx hb hts iX4 tyX4 tyX4_ok nmX4 hown hK.1 hP hD hS 0 rfl rfl 7 (by decide) (hts (.fieldLink RX4 113 "NamedStreamsModel" "tries" "I") (by decide +kernel)) (fun _ h9 => h9) rfl (by decide +kernel) rfl rfl (Nat.le_of_ble_eq_true rfl) dX4_draw_44 (fun H locs hP hD hS => ?_)
        have hP : va_P D vwCl (wM bd cb sd pz tc st z5 sc gr P Mn T Wt Rn Po Pl Sp Ks Kp Kc Ik O As X) H := hP
        have hD : va_D A (wM bd cb sd pz tc st z5 sc gr P Mn T Wt Rn Po Pl Sp Ks Kp Kc Ik O As X) := hD
        refine lv_lload hx hb dX4_draw_47 (lv_at hl 2 rfl) ?_
        refine lv_lconst (v := 0) hx hb dX4_draw_49 (by decide) ?_
        refine W.lcmp hx hb dX4_draw_50 ?_
        refine lv_if_eq (tgt := 65) hx hb dX4_draw_51 (by decide) (fun c51 => ?_) (fun c51 => ?_)
        · skip
          have c51 : z2 = (0 : Int64) := (lg_cmp_eq _ _).mp c51
          refine lv_lload hx hb dX4_draw_65 (lv_at hl 0 rfl) ?_
          refine lv_lload hx hb dX4_draw_67 (lv_at hl 7 rfl) ?_
          refine nk_SSL (As := [.long z4, .long n0]) (rest := []) ⟨hx, hb, hml, hown, hts⟩ (mX4_rest l z4 n0 hn0) (va_cwS 2 hts gX4_draw_X4_rest rfl rfl rfl (by decide +kernel) ⟨Nat.le_of_ble_eq_true rfl, Nat.le_of_ble_eq_true rfl⟩) rfl hl.1 rfl (Nat.le_of_ble_eq_true rfl) dX4_draw_69 ⟨Nat.le_of_ble_eq_true rfl, Nat.le_of_ble_eq_true rfl⟩ (fun r6 hr6 => ?_)
          subst hr6
          exact nk_retL (g := _) z5 hx hb hr hlocks hP hD hS dX4_draw_72 (by subst hi; subst ez4; subst ez5; rw [← ht, mDraw]; first | rw [if_pos c51] | rw [if_neg c51, if_neg c62])
        · skip
          have c51 : ¬ (z2 = (0 : Int64)) := fun h => c51 ((lg_cmp_eq _ _).mpr h)
          refine lv_lload hx hb dX4_draw_54 (lv_at hl 0 rfl) ?_
          refine lv_lload hx hb dX4_draw_56 (lv_at hl 2 rfl) ?_
          refine lv_lneg hx hb dX4_draw_58 ?_
          refine nk_SSI (As := [.long z4, .long (-z2)]) (rest := []) ⟨hx, hb, hml, hown, hts⟩ (mX4_isBelow l z4 (-z2)) (va_cwS 2 hts gX4_draw_X4_isBelow rfl rfl rfl (by decide +kernel) ⟨Nat.le_of_ble_eq_true rfl, Nat.le_of_ble_eq_true rfl⟩) rfl hl.1 rfl (Nat.le_of_ble_eq_true rfl) dX4_draw_59 ⟨Nat.le_of_ble_eq_true rfl, Nat.le_of_ble_eq_true rfl⟩ (fun r7 hr7 => ?_)
          subst hr7
          refine lv_if_eq (tgt := 73) hx hb dX4_draw_62 (by decide) (fun c62 => ?_) (fun c62 => ?_)
          · skip
            obtain ⟨i8, ei8⟩ : ∃ y : Int32, y = i + 1 := ⟨_, rfl⟩
            refine lv_iinc (v := i8) (lv' := [(9, .int i8), (10, .long z4), (7, .long z2), (0, .ref (bd 0)), (1, .long run0), (3, .int p0), (4, .int c0), (5, .long n0)]) hx hb dX4_draw_73 hl (k := 1) rfl (by rw [ei8]; rfl) (by decide) rfl (fun ls hl => ?_)
            refine lv_goto (tgt := 13) hx hb dX4_draw_76 (by decide) ?_
            exact ih13 i8 z5 _ _ _ (Nat.le_of_succ_le hk) (ns_step hi hk ei8) (by subst hi; subst ez4; subst ez5; rw [← ht, mDraw, if_neg c51, if_pos c62]) hP hD hS (lv_sub hl [0, 2, 3, 4, 5, 6, 7] rfl)
          · skip
            refine lv_lload hx hb dX4_draw_65 (lv_at hl 0 rfl) ?_
            refine lv_lload hx hb dX4_draw_67 (lv_at hl 7 rfl) ?_
            refine nk_SSL (As := [.long z4, .long n0]) (rest := []) ⟨hx, hb, hml, hown, hts⟩ (mX4_rest l z4 n0 hn0) (va_cwS 2 hts gX4_draw_X4_rest rfl rfl rfl (by decide +kernel) ⟨Nat.le_of_ble_eq_true rfl, Nat.le_of_ble_eq_true rfl⟩) rfl hl.1 rfl (Nat.le_of_ble_eq_true rfl) dX4_draw_69 ⟨Nat.le_of_ble_eq_true rfl, Nat.le_of_ble_eq_true rfl⟩ (fun r9 hr9 => ?_)
            subst hr9
            exact nk_retL (g := _) z5 hx hb hr hlocks hP hD hS dX4_draw_72 (by subst hi; subst ez4; subst ez5; rw [← ht, mDraw]; first | rw [if_pos c51] | rw [if_neg c51, if_neg c62])
  exact lp13 32 (0 : Int32) tr _ _ _ (Nat.le_refl 32) (by decide) (by subst ez2; rfl) hP hD hS (lv_sub hl [0, 1, 2, 3, 4, 5, 6] rfl)

set_option maxHeartbeats 800000 in
set_option maxRecDepth 100000 in
theorem mX4_span (l : Launch) (D : va_G) (bd : Nat → Nat) (cb : Nat → ClassId) (sd : Int64) (pz : Int32) (tc : Int32) (st : Int32) (tr : Int32) (sc : Int32) (gr : Int32) (P : Nat → Int64) (Mn : Nat → Int32) (T : Nat → Int64) (Wt : Nat → Int64) (Rn : Nat → Int64) (Po : Nat → Int32) (Pl : Nat → Int32) (Sp : Nat → Int32) (Ks : Nat → Int32) (Kp : Nat → Int32) (Kc : Nat → Int32) (Ik : Nat → Int32) (O : Nat → Int32) (As : Nat → Int64) (X : va_W) (run0 : Int64) (p0 c0 : Int32) (n0 : Int64) (hW : ¬ mIs pz p0 = 0 → vp_in p0 24 ∧ vp_in (Mn p0.toNatClampNeg) 5) : nkML l yX4_span wsX4_span ({ frames := 4, cells := 0, slots := 0, locals := 105 }) D (tM cb) [.ref (bd 0), .long run0, .int p0, .int c0, .long n0] (wM bd cb sd pz tc st tr sc gr P Mn T Wt Rn Po Pl Sp Ks Kp Kc Ik O As X) (fun u : Int32 => wM bd cb sd pz tc st u sc gr P Mn T Wt Rn Po Pl Sp Ks Kp Kc Ik O As X) (fun r u => mSpanM sd P Mn pz run0 p0 c0 n0 tr = (r, u)) 0 0 := by
  refine nk_ofM (Qf := fun A => va_Ql (fun r u => mSpanM sd P Mn pz run0 p0 c0 n0 tr = (r, u)) (nkB D A (fun u : Int32 => wM bd cb sd pz tc st u sc gr P Mn T Wt Rn Po Pl Sp Ks Kp Kc Ik O As X)) A) (cc := cX4_span) (maxL := 7) (ret := (some .long)) (by decide) rfl (Nat.le_of_ble_eq_true rfl) ?_
  intro p e s m below meth c A hx hb hr hml hts hown hlocks hin hK hP hD hA hS ls hl
  replace hown : s.vm.findClass RX4 = some m.cls := hown
  replace hl : lv_has ls 7 [(0, .ref (bd 0)), (1, .long run0), (3, .int p0), (4, .int c0), (5, .long n0)] := hl
  have hP : va_P D vwCl (wM bd cb sd pz tc st tr sc gr P Mn T Wt Rn Po Pl Sp Ks Kp Kc Ik O As X) s.heap := hP
  have iX4 : ∀ w ∈ u_ws RX4 TX4 21, w ∈ wsX4_span := by decide +kernel
  refine lv_aload_n hx hb dX4_span_0 rfl (lv_at hl 0 rfl) ?_
  refine lv_iload_n hx hb dX4_span_1 rfl (lv_at hl 2 rfl) ?_
  refine nk_VRI (As := [.int p0]) (rest := []) ⟨hx, hb, hml, hown, hts⟩ (mX4_isPath l D bd cb sd pz tc st tr sc gr P Mn T Wt Rn Po Pl Sp Ks Kp Kc Ik O As X p0) (cwV 1 hts gX4_span_X4_isPath rfl rfl rfl (by decide +kernel) ⟨Nat.le_of_ble_eq_true rfl, Nat.le_of_ble_eq_true rfl⟩) hK hP 0 4 rfl rfl rfl rfl hl.1 rfl (Nat.le_of_ble_eq_true rfl) dX4_span_2 ⟨Nat.le_of_ble_eq_true rfl, Nat.le_of_ble_eq_true rfl⟩ (fun r1 hr1 => ?_)
  subst hr1
  refine lv_if_eq (tgt := 20) hx hb dX4_span_5 (by decide) (fun c5 => ?_) (fun c5 => ?_)
  · skip
    refine lv_ldc2 (v := -1) hx hb hown (hts (.constantLong RX4 118 (-1)) (by decide +kernel)) dX4_span_20 ?_
    exact nk_retL (g := _) tr hx hb hr hlocks hP hD hS dX4_span_23 (by exact (if_pos c5))
  · skip
    refine lv_iload hx hb dX4_span_8 (lv_at hl 3 rfl) ?_
    refine lv_if_lt (tgt := 20) hx hb dX4_span_10 (by decide) (fun c10 => ?_) (fun c10 => ?_)
    · skip
      refine lv_ldc2 (v := -1) hx hb hown (hts (.constantLong RX4 118 (-1)) (by decide +kernel)) dX4_span_20 ?_
      exact nk_retL (g := _) tr hx hb hr hlocks hP hD hS dX4_span_23 (by exact ((if_neg c5).trans (if_pos c10)))
    · skip
      refine lv_lload hx hb dX4_span_13 (lv_at hl 4 rfl) ?_
      refine lv_lconst (v := 0) hx hb dX4_span_15 (by decide) ?_
      refine W.lcmp hx hb dX4_span_16 ?_
      refine lv_if_ge (tgt := 24) hx hb dX4_span_17 (by decide) (fun c17 => ?_) (fun c17 => ?_)
      · skip
        have c17 : (0 : Int64) ≤ n0 := (lg_cmp_ge _ _).mp c17
        refine lv_lload hx hb dX4_span_24 (lv_at hl 4 rfl) ?_
        refine lv_lconst (v := 0) hx hb dX4_span_26 (by decide) ?_
        refine W.lcmp hx hb dX4_span_27 ?_
        refine lv_if_ne (tgt := 37) hx hb dX4_span_28 (by decide) (fun c28 => ?_) (fun c28 => ?_)
        · skip
          have c28 : ¬ (n0 = (0 : Int64)) := fun h => c28 ((lg_cmp_eq _ _).mpr h)
          refine lv_aload_n hx hb dX4_span_37 rfl (lv_at hl 0 rfl) ?_
          refine lv_lload_n hx hb dX4_span_38 rfl (lv_at hl 1 rfl) ?_
          refine lv_iload_n hx hb dX4_span_39 rfl (lv_at hl 2 rfl) ?_
          refine lv_iload hx hb dX4_span_40 (lv_at hl 3 rfl) ?_
          refine lv_lload hx hb dX4_span_42 (lv_at hl 4 rfl) ?_
          refine nk_VL (As := [.long run0, .int p0, .int c0, .long n0]) (rest := []) ⟨hx, hb, hml, hown, hts⟩ (mX4_draw l D bd cb sd pz tc st tr sc gr P Mn T Wt Rn Po Pl Sp Ks Kp Kc Ik O As X run0 p0 c0 n0 (hW c5).1 (hW c5).2 c28) (cwV 4 hts gX4_span_X4_draw rfl rfl rfl (by decide +kernel) ⟨Nat.le_of_ble_eq_true rfl, Nat.le_of_ble_eq_true rfl⟩) hK hP hD hS hA 0 4 rfl rfl rfl rfl hl.1 rfl (Nat.le_of_ble_eq_true rfl) dX4_span_44 ⟨Nat.le_of_ble_eq_true rfl, Nat.le_of_ble_eq_true rfl⟩ (fun r2 ur2 H locs hr2 hP hD hS => ?_)
          obtain ⟨rfl, rfl⟩ : r2 = (mSpan (fBase sd run0 (mKey P Mn p0)) (32 * Int32.toInt64 c0) n0 tr).1 ∧ ur2 = (mSpan (fBase sd run0 (mKey P Mn p0)) (32 * Int32.toInt64 c0) n0 tr).2 := by rw [hr2]; exact ⟨rfl, rfl⟩
          have hP : va_P D vwCl (wM bd cb sd pz tc st ((mSpan (fBase sd run0 (mKey P Mn p0)) (32 * Int32.toInt64 c0) n0 tr).2) sc gr P Mn T Wt Rn Po Pl Sp Ks Kp Kc Ik O As X) H := hP
          have hD : va_D A (wM bd cb sd pz tc st ((mSpan (fBase sd run0 (mKey P Mn p0)) (32 * Int32.toInt64 c0) n0 tr).2) sc gr P Mn T Wt Rn Po Pl Sp Ks Kp Kc Ik O As X) := hD
          exact nk_retL (g := _) ((mSpan (fBase sd run0 (mKey P Mn p0)) (32 * Int32.toInt64 c0) n0 tr).2) hx hb hr hlocks hP hD hS dX4_span_47 (by exact ((if_neg c5).trans ((if_neg c10).trans ((if_pos c17).trans (if_neg c28)))))
        · skip
          have c28 : n0 = (0 : Int64) := (lg_cmp_eq _ _).mp c28
          refine lv_ldc2 (v := -4) hx hb hown (hts (.constantLong RX4 120 (-4)) (by decide +kernel)) dX4_span_31 ?_
          refine lv_goto (tgt := 47) hx hb dX4_span_34 (by decide) ?_
          exact nk_retL (g := _) tr hx hb hr hlocks hP hD hS dX4_span_47 (by exact ((if_neg c5).trans ((if_neg c10).trans ((if_pos c17).trans (if_pos c28)))))
      · skip
        have c17 : ¬ ((0 : Int64) ≤ n0) := fun h => c17 ((lg_cmp_ge _ _).mpr h)
        refine lv_ldc2 (v := -1) hx hb hown (hts (.constantLong RX4 118 (-1)) (by decide +kernel)) dX4_span_20 ?_
        exact nk_retL (g := _) tr hx hb hr hlocks hP hD hS dX4_span_23 (by exact ((if_neg c5).trans ((if_neg c10).trans (if_neg c17))))
