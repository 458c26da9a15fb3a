/-! the reference, on: its span is the class's; its picks end -/
theorem mRest_eq {w n : Int64} (hn : 0 < n) : mRest w n = fRem w n := by
  unfold mRest
  by_cases h : w < 0
  · rw [if_pos h]
  · rw [if_neg h]
    obtain ⟨hN, hN2⟩ := uN_pos hn
    have hX := uN_nn (Int64.not_lt.mp h)
    apply uN_inj
    rw [fRem_nat hn]
    have e : w - w / n * n = lN (uN w % uN n) := by
      conv => lhs; rw [lN_uN w, lN_uN n]
      rw [pk_lRem (by omega) hN hN2]
    rw [e, uN_lN]
    have := Nat.mod_lt (uN w) hN
    omega
theorem mDraw_eq {o f n x : Int64} (hn : 0 < n) : ∀ (k : Nat) (tr : Int32), mDraw o f n x k tr = fDraw o f n x k tr := by
  intro k
  induction k with
  | zero => intro tr; rfl
  | succ k ih =>
    intro tr
    rw [mDraw, fDraw, mRest_eq hn, ih]
theorem mSpan_eq {o f n : Int64} {tr : Int32} (hn : 0 < n) : mSpan o f n tr = fSpan o f n tr := by
  unfold mSpan fSpan
  rw [mRest_eq hn, mDraw_eq hn]
theorem mSumL_1 (Wt : Nat → Int64) : ∀ (k : Nat) (s : Int64), (mSumL Wt k 1 s).2 = 1 := by
  intro k
  induction k with
  | zero => intro s; rfl
  | succ k ih => intro s; rw [mSumL, if_neg (by decide)]; exact ih 0
theorem mSumL_ok (Wt : Nat → Int64) : ∀ (k : Nat) (s : Int64), k ≤ 9 → s = mPref Wt (9 - k) → 0 ≤ s → (mSumL Wt k 0 s).2 = 0 → (mSumL Wt k 0 s).1 = mPref Wt 9 ∧ 0 ≤ (mSumL Wt k 0 s).1 := by
  intro k
  induction k with
  | zero => intro s _ hs h0 _; exact ⟨hs, h0⟩
  | succ k ih =>
    intro s hk hs h0 hg
    rw [mSumL, if_pos rfl] at hg ⊢
    have e : (nI (10 - (k + 1))).toNatClampNeg = 9 - (k + 1) + 1 := by rw [nI_clamp (by omega)]; omega
    by_cases h : 0 ≤ s + Wt (nI (10 - (k + 1))).toNatClampNeg
    · rw [if_pos h] at hg ⊢
      refine ih _ (by omega) ?_ h hg
      rw [hs, e, show 9 - k = 9 - (k + 1) + 1 by omega, mPref]
    · rw [if_neg h, mSumL_1] at hg
      exact absurd hg (by decide)
theorem mSum_ok {Wt : Nat → Int64} (hg : (mSum Wt).2 = 0) : (mSum Wt).1 = mPref Wt 9 ∧ 0 ≤ (mSum Wt).1 := by
  unfold mSum at hg ⊢
  rw [mSumL, if_pos rfl] at hg ⊢
  by_cases h : 0 ≤ 0 + Wt (nI (10 - (9 + 1))).toNatClampNeg
  · rw [if_pos h] at hg ⊢
    refine mSumL_ok Wt 9 _ (by omega) ?_ h hg
    rw [Int64.zero_add]; rfl
  · rw [if_neg h, mSumL_1] at hg
    exact absurd hg (by decide)
theorem mEx {o f : Int64} {Wt : Nat → Int64} {tr : Int32} (hg : (mSum Wt).2 = 0) (hz : ¬ (mSum Wt).1 = 0) (h : 0 ≤ (mSpan o f (mSum Wt).1 tr).1) : ∃ j, j ≤ 9 ∧ (mSpan o f (mSum Wt).1 tr).1 < mPref Wt j := by
  obtain ⟨h1, h2⟩ := mSum_ok hg
  have hp := ns_pos hz h2
  rw [mSpan_eq hp] at h ⊢
  exact ⟨9, Nat.le_refl 9, by rw [← h1]; exact fSpan_in hp h⟩
abbrev sP4 : Type := Int32 × Int32
def mPermL (o : Int64) (c : Int32) : Nat → (Nat → Int32) → Int32 → Int32 × (Nat → Int32) × Int32
  | 0, O, tr => (1, O, tr)
  | i + 1, O, tr => if 0 ≤ (mSpan o (32 * (c + nI (i + 1)).toInt64) ((nI (i + 1)).toInt64 + 1) tr).1 then mPermL o c i (fSwap O (nI (i + 1)) (mSpan o (32 * (c + nI (i + 1)).toInt64) ((nI (i + 1)).toInt64 + 1) tr).1.toInt32) (mSpan o (32 * (c + nI (i + 1)).toInt64) ((nI (i + 1)).toInt64 + 1) tr).2 else (0, O, (mSpan o (32 * (c + nI (i + 1)).toInt64) ((nI (i + 1)).toInt64 + 1) tr).2)
def mPermA (o : Int64) (c : Int32) (n : Nat) (O : Nat → Int32) (k tr : Int32) : Int32 × (Nat → Int32) × Int32 := if (mPermL o c (n - 1) (fFill n n O) tr).1 = 0 then (-3, (mPermL o c (n - 1) (fFill n n O) tr).2) else ((mPermL o c (n - 1) (fFill n n O) tr).2.1 k.toNatClampNeg, (mPermL o c (n - 1) (fFill n n O) tr).2)
def mPermM (sd : Int64) (P : Nat → Int64) (Mn : Nat → Int32) (pz : Int32) (O : Nat → Int32) (run : Int64) (p c n k : Int32) (tr : Int32) : Int32 × (Nat → Int32) × Int32 := if mIs pz p = 0 then (-1, O, tr) else if c < 0 then (-1, O, tr) else if mIn n.toInt64 0 40 = 0 then (-1, O, tr) else if 2147483647 < c.toInt64 + n.toInt64 then (-1, O, tr) else if mIn k.toInt64 0 (n - 1).toInt64 = 0 then (-1, O, tr) else mPermA (fBase sd run (mKey P Mn p)) c n.toNatClampNeg O k tr
theorem mP_i {q : Nat} (h : q ≤ 38) : (nI (q + 1)).toInt64 + 1 = lN (q + 2) := by rw [nI_l (by omega), lN_1]
theorem mP_pos {q nn : Nat} {j : Int32} (hn : nn ≤ 40) (hq : q + 1 ≤ nn - 1) (hj : j = nI (q + 1)) : 0 < j.toInt64 + 1 := by
  rw [hj, mP_i (by omega), show (0 : Int64) = lN 0 from rfl, lN_lt (by omega) (by omega)]; omega
theorem mP_ne {q nn : Nat} {j : Int32} (hn : nn ≤ 40) (hq : q + 1 ≤ nn - 1) (hj : j = nI (q + 1)) : ¬ j.toInt64 + 1 = 0 := by
  intro h
  have := mP_pos hn hq hj
  rw [h] at this
  exact absurd this (by decide)
theorem mP_in {q nn : Nat} {j x : Int32} {o f : Int64} {tr : Int32} (hn : nn ≤ 40) (hq : q + 1 ≤ nn - 1) (hj : j = nI (q + 1)) (hx : x = (mSpan o f (j.toInt64 + 1) tr).1.toInt32) (h : 0 ≤ (mSpan o f (j.toInt64 + 1) tr).1) : vp_in x 40 := by
  have hp := mP_pos hn hq hj
  rw [mSpan_eq hp] at hx h
  have h2 := fSpan_in hp h
  obtain ⟨m, hm, e2⟩ := pk_lOf (Int64.not_lt.mpr h)
  rw [e2, hj, mP_i (by omega), pk_lLT hm (by omega)] at h2
  rw [hx, e2, lN_i]
  exact vp_in_nI (by omega) (by decide)
theorem mP_n {n : Int32} (h : ¬ mIn n.toInt64 0 40 = 0) : n = nI n.toNatClampNeg ∧ n.toNatClampNeg ≤ 40 := by
  have h1 := mIn_in h (n := 41) (by decide)
  obtain ⟨j, hj, rfl⟩ := vp_in_of h1 (by decide)
  rw [nI_clamp (by omega)]
  exact ⟨rfl, by omega⟩
theorem mP_k {n k : Int32} (h : ¬ mIn n.toInt64 0 40 = 0) (hk : ¬ mIn k.toInt64 0 (n - 1).toInt64 = 0) : vp_in k 40 := by
  obtain ⟨e, hn⟩ := mP_n h
  refine mIn_in hk ?_
  rw [i2l_toInt, e]
  generalize n.toNatClampNeg = j at hn
  rcases Nat.eq_zero_or_pos j with rfl | hp
  · decide
  · rw [show nI j - 1 = nI (j - 1) from by rw [← nI_pred (j - 1), Nat.sub_add_cancel hp], nI_toInt (by omega)]
    omega
def mCounted (b n i : Int32) : Int32 := if mIn b.toInt64 1 16 = 0 then -1 else if mIn n.toInt64 1 65536 = 0 then -1 else if mIn i.toInt64 0 (n - 1).toInt64 = 0 then -1 else ((1 : Int32) <<< (b &&& 31)) / n
def mCount (pz sc tc x : Int32) : Int32 := if x = 0 then pz else if x = 1 then sc else if x = 2 then tc else -1
def mTold (sc : Int32) (Po Pl Sp : Nat → Int32) (i x : Int32) : Int32 := if mIs sc i = 0 then -1 else if mIn x.toInt64 0 2 = 0 then -1 else if x = 0 then Po i.toNatClampNeg else if x = 1 then Pl i.toNatClampNeg else Sp i.toNatClampNeg
abbrev sBg : Type := Int32 × (Nat → Int64) × (Nat → Int32) × (Nat → Int32) × (Nat → Int32)
def mBegin (sc : Int32) (Rn : Nat → Int64) (Po Pl Sp : Nat → Int32) (r : Int64) (p : Int32) : Int32 × sBg := (sc + 1 - 1, sc + 1, vp_updL Rn sc.toNatClampNeg r, upd Po sc.toNatClampNeg p, upd Pl sc.toNatClampNeg 0, upd Sp sc.toNatClampNeg 0)
def mOpen (pz sc : Int32) (Rn : Nat → Int64) (Po Pl Sp : Nat → Int32) (r : Int64) (p : Int32) : Int32 × sBg := if mIs pz p = 0 then (-1, sc, Rn, Po, Pl, Sp) else if sc = 8 then (-2, sc, Rn, Po, Pl, Sp) else mBegin sc Rn Po Pl Sp r p
def mNext (sd : Int64) (P : Nat → Int64) (Mn : Nat → Int32) (sc : Int32) (Rn : Nat → Int64) (Po Pl : Nat → Int32) (i : Int32) (n : Int64) (tr : Int32) : Int64 × Int32 × (Nat → Int32) := if n < 0 then (-1, tr, Pl) else if mIs sc i = 0 then (-1, tr, Pl) else if Pl i.toNatClampNeg = 2147483647 then (-1, tr, Pl) else if n = 0 then (-4, tr, Pl) else ((mSpan (fBase sd (Rn i.toNatClampNeg) (mKey P Mn (Po i.toNatClampNeg))) (32 * (Pl i.toNatClampNeg).toInt64) n tr).1, (mSpan (fBase sd (Rn i.toNatClampNeg) (mKey P Mn (Po i.toNatClampNeg))) (32 * (Pl i.toNatClampNeg).toInt64) n tr).2, upd Pl i.toNatClampNeg (Pl i.toNatClampNeg + 1))
def mNPick (sd : Int64) (P : Nat → Int64) (Mn : Nat → Int32) (sc : Int32) (Wt Rn : Nat → Int64) (Po Pl : Nat → Int32) (i tr gr : Int32) : Int32 × Int32 × Int32 × (Nat → Int32) := if mIs sc i = 0 then (-1, tr, gr, Pl) else if Pl i.toNatClampNeg = 2147483647 then (-1, tr, gr, Pl) else if (mSum Wt).2 = 0 then (if (mSum Wt).1 = 0 then (if (mSum Wt).2 = 0 then (-4, tr, (mSum Wt).2, Pl) else (-5, tr, (mSum Wt).2, Pl)) else ((mPicked (fBase sd (Rn i.toNatClampNeg) (mKey P Mn (Po i.toNatClampNeg))) (32 * (Pl i.toNatClampNeg).toInt64) (mSum Wt).1 Wt tr).1, (mPicked (fBase sd (Rn i.toNatClampNeg) (mKey P Mn (Po i.toNatClampNeg))) (32 * (Pl i.toNatClampNeg).toInt64) (mSum Wt).1 Wt tr).2, (mSum Wt).2, upd Pl i.toNatClampNeg (Pl i.toNatClampNeg + 1))) else (if (mSum Wt).2 = 0 then (-4, tr, (mSum Wt).2, Pl) else (-5, tr, (mSum Wt).2, Pl))
def mSkip (sc : Int32) (Pl : Nat → Int32) (i n : Int32) : Int32 × (Nat → Int32) := if mIs sc i = 0 then (-1, Pl) else if mIn n.toInt64 0 1000000000 = 0 then (-1, Pl) else if (Pl i.toNatClampNeg).toInt64 + n.toInt64 ≤ 2147483647 then (upd Pl i.toNatClampNeg (Pl i.toNatClampNeg + n) i.toNatClampNeg, upd Pl i.toNatClampNeg (Pl i.toNatClampNeg + n)) else (-1, Pl)
abbrev sKp : Type := (Nat → Int32) × (Nat → Int32) × (Nat → Int32) × (Nat → Int32)
def mKeep (sc : Int32) (Pl Sp Ik Ks Kp Kc : Nat → Int32) (k i : Int32) : Int32 × sKp := if mIn k.toInt64 0 3 = 0 then (-1, Ik, Ks, Kp, Kc) else if mIs sc i = 0 then (-1, Ik, Ks, Kp, Kc) else (Pl i.toNatClampNeg, upd Ik k.toNatClampNeg (vp_nar .boolean 1), upd Ks k.toNatClampNeg i, upd Kp k.toNatClampNeg (Pl i.toNatClampNeg), upd Kc k.toNatClampNeg (Sp i.toNatClampNeg))
def mBack (Pl Sp Ik Ks Kp Kc : Nat → Int32) (k : Int32) : Int32 × (Nat → Int32) × (Nat → Int32) := if mIn k.toInt64 0 3 = 0 then (-1, Pl, Sp) else if Ik k.toNatClampNeg = 0 then (-3, Pl, Sp) else (Ks k.toNatClampNeg, upd Pl (Ks k.toNatClampNeg).toNatClampNeg (Kp k.toNatClampNeg), upd Sp (Ks k.toNatClampNeg).toNatClampNeg (Kc k.toNatClampNeg))
theorem mPref_s {Wt : Nat → Int64} {k : Nat} {i : Int32} {up : Int64} (hi : i = nI (9 - (k + 1))) (hk : k + 1 ≤ 9) (hu : up = mPref Wt (9 - (k + 1))) : up + Wt (Int32.toNatClampNeg (i + 1)) = mPref Wt (9 - k) := by
  rw [show 9 - k = 9 - (k + 1) + 1 by omega, mPref, hu, hi, nI_1, nI_clamp (by omega)]
theorem mPref_n {Wt : Nat → Int64} {k : Nat} {d up : Int64} (hk : k + 1 ≤ 9) (hno : ∀ j, j < 9 - (k + 1) → ¬ d < mPref Wt j) (hu : up = mPref Wt (9 - (k + 1))) (c : ¬ d < up) : ∀ j, j < 9 - k → ¬ d < mPref Wt j := by
  intro j hj
  by_cases h : j < 9 - (k + 1)
  · exact hno j h
  · rw [show j = 9 - (k + 1) by omega, ← hu]; exact c
theorem mPref_e {Wt : Nat → Int64} {d up : Int64} (hno : ∀ j, j < 9 - 0 → ¬ d < mPref Wt j) (hu : up = mPref Wt (9 - 0)) (c : ¬ d < up) : ¬ ∃ j, j ≤ 9 ∧ d < mPref Wt j := by
  rintro ⟨j, hj, h⟩
  by_cases h2 : j < 9
  · exact hno j h2 h
  · rw [show j = 9 - 0 by omega, ← hu] at h; exact c h
theorem mReach_t {Wt : Nat → Int64} {k : Nat} {d up : Int64} (hu : up = mPref Wt (9 - (k + 1))) (c : d < up) : mReach Wt d (k + 1) = nI (9 - (k + 1)) := by
  rw [mReach, if_pos (by rw [← hu]; exact c)]
theorem mPk_e {o f s d : Int64} {Wt : Nat → Int64} {tr i t2 : Int32} {k : Nat} (h : 0 ≤ d) (ht : mReach Wt d k = mReach Wt d 9) (hi : i = nI (9 - k)) (hr : mReach Wt d k = nI (9 - k)) (hd : mSpan o f s tr = (d, t2)) : mPicked o f s Wt tr = (i, t2) := by
  unfold mPicked
  rw [hd]
  show (if 0 ≤ d then (mReach Wt d 9, t2) else (-3, t2)) = (i, t2)
  rw [if_pos h, ← ht, hr, hi]
set_option maxHeartbeats 2000000 in
set_option maxRecDepth 100000 in
theorem mX4_fraction (l : Launch) (D : va_G) (bd : Nat → Nat) (cb : Nat → ClassId) (sd : Int64) (pz : Int32) (tc : Int32) (st : Int32) (tr : Int32) (sc : Int32) (gr : Int32) (P : Nat → Int64) (Mn : Nat → Int32) (T : Nat → Int64) (Wt : Nat → Int64) (Rn : Nat → Int64) (Po : Nat → Int32) (Pl : Nat → Int32) (Sp : Nat → Int32) (Ks : Nat → Int32) (Kp : Nat → Int32) (Kc : Nat → Int32) (Ik : Nat → Int32) (O : Nat → Int32) (As : Nat → Int64) (X : va_W) (run0 : Int64) (p0 c0 : Int32) (a0 b0 : Int64) (hW : ¬ mIs pz p0 = 0 → vp_in p0 24 ∧ vp_in (Mn p0.toNatClampNeg) 5) : nkMI l yX4_fraction wsX4_fraction ({ frames := 3, cells := 0, slots := 0, locals := 74 }) D (tM cb) [.ref (bd 0), .long run0, .int p0, .int c0, .long a0, .long b0] (wM bd cb sd pz tc st tr sc gr P Mn T Wt Rn Po Pl Sp Ks Kp Kc Ik O As X) (fun u : Int32 => wM bd cb sd pz tc st u sc gr P Mn T Wt Rn Po Pl Sp Ks Kp Kc Ik O As X) (fun r u => mFracM sd P Mn pz run0 p0 c0 a0 b0 tr = (r, u)) 0 0 := by
  refine nk_ofM (Qf := fun A => va_Qi (fun r u => mFracM sd P Mn pz run0 p0 c0 a0 b0 tr = (r, u)) (nkB D A (fun u : Int32 => wM bd cb sd pz tc st u sc gr P Mn T Wt Rn Po Pl Sp Ks Kp Kc Ik O As X)) A) (cc := cX4_fraction) (maxL := 15) (ret := (some .int)) (by decide) rfl (Nat.le_of_ble_eq_true rfl) ?_
  intro p e s m below meth c A hx hb hr hml hts hown hlocks hin hK hP hD hA hS ls hl
  replace hown : s.vm.findClass RX4 = some m.cls := hown
  replace hl : lv_has ls 15 [(0, .ref (bd 0)), (1, .long run0), (3, .int p0), (4, .int c0), (5, .long a0), (7, .long b0)] := hl
  have hP : va_P D vwCl (wM bd cb sd pz tc st tr sc gr P Mn T Wt Rn Po Pl Sp Ks Kp Kc Ik O As X) s.heap := hP
  have iX4 : ∀ w ∈ u_ws RX4 TX4 21, w ∈ wsX4_fraction := by decide +kernel
  refine lv_aload_n hx hb dX4_fraction_0 rfl (lv_at hl 0 rfl) ?_
  refine lv_iload_n hx hb dX4_fraction_1 rfl (lv_at hl 2 rfl) ?_
  refine nk_VRI (As := [.int p0]) (rest := []) ⟨hx, hb, hml, hown, hts⟩ (mX4_isPath l D bd cb sd pz tc st tr sc gr P Mn T Wt Rn Po Pl Sp Ks Kp Kc Ik O As X p0) (cwV 1 hts gX4_fraction_X4_isPath rfl rfl rfl (by decide +kernel) ⟨Nat.le_of_ble_eq_true rfl, Nat.le_of_ble_eq_true rfl⟩) hK hP 0 4 rfl rfl rfl rfl hl.1 rfl (Nat.le_of_ble_eq_true rfl) dX4_fraction_2 ⟨Nat.le_of_ble_eq_true rfl, Nat.le_of_ble_eq_true rfl⟩ (fun r1 hr1 => ?_)
  subst hr1
  refine lv_if_eq (tgt := 31) hx hb dX4_fraction_5 (by decide) (fun c5 => ?_) (fun c5 => ?_)
  · skip
    refine lv_iconst (v := -1) hx hb dX4_fraction_31 (by decide) ?_
    exact nk_retI (g := _) tr hx hb hr hlocks hP hD hS dX4_fraction_32 (by exact (if_pos c5))
  · skip
    refine lv_iload hx hb dX4_fraction_8 (lv_at hl 3 rfl) ?_
    refine lv_if_lt (tgt := 31) hx hb dX4_fraction_10 (by decide) (fun c10 => ?_) (fun c10 => ?_)
    · skip
      refine lv_iconst (v := -1) hx hb dX4_fraction_31 (by decide) ?_
      exact nk_retI (g := _) tr hx hb hr hlocks hP hD hS dX4_fraction_32 (by exact ((if_neg c5).trans (if_pos c10)))
    · skip
      refine lv_lload hx hb dX4_fraction_13 (lv_at hl 5 rfl) ?_
      refine lv_lconst (v := 0) hx hb dX4_fraction_15 (by decide) ?_
      refine W.lcmp hx hb dX4_fraction_16 ?_
      refine lv_if_lt (tgt := 31) hx hb dX4_fraction_17 (by decide) (fun c17 => ?_) (fun c17 => ?_)
      · skip
        have c17 : b0 < (0 : Int64) := (lg_cmp_lt _ _).mp c17
        refine lv_iconst (v := -1) hx hb dX4_fraction_31 (by decide) ?_
        exact nk_retI (g := _) tr hx hb hr hlocks hP hD hS dX4_fraction_32 (by exact ((if_neg c5).trans ((if_neg c10).trans (if_pos c17))))
      · skip
        have c17 : ¬ (b0 < (0 : Int64)) := fun h => c17 ((lg_cmp_lt _ _).mpr h)
        refine lv_lload hx hb dX4_fraction_20 (lv_at hl 4 rfl) ?_
        refine lv_lconst (v := 0) hx hb dX4_fraction_22 (by decide) ?_
        refine lv_lload hx hb dX4_fraction_23 (lv_at hl 5 rfl) ?_
        refine nk_SSI (As := [.long a0, .long (0 : Int64), .long b0]) (rest := []) ⟨hx, hb, hml, hown, hts⟩ (mX4_in l a0 (0 : Int64) b0) (va_cwS 3 hts gX4_fraction_X4_in rfl rfl rfl (by decide +kernel) ⟨Nat.le_of_ble_eq_true rfl, Nat.le_of_ble_eq_true rfl⟩) rfl hl.1 rfl (Nat.le_of_ble_eq_true rfl) dX4_fraction_25 ⟨Nat.le_of_ble_eq_true rfl, Nat.le_of_ble_eq_true rfl⟩ (fun r2 hr2 => ?_)
        subst hr2
        refine lv_if_ne (tgt := 33) hx hb dX4_fraction_28 (by decide) (fun c28 => ?_) (fun c28 => ?_)
        · skip
          refine lv_lload hx hb dX4_fraction_33 (lv_at hl 5 rfl) ?_
          refine lv_lconst (v := 0) hx hb dX4_fraction_35 (by decide) ?_
          refine W.lcmp hx hb dX4_fraction_36 ?_
          refine lv_if_ne (tgt := 43) hx hb dX4_fraction_37 (by decide) (fun c37 => ?_) (fun c37 => ?_)
          · skip
            have c37 : ¬ (b0 = (0 : Int64)) := fun h => c37 ((lg_cmp_eq _ _).mpr h)
            refine lv_aload_n hx hb dX4_fraction_43 rfl (lv_at hl 0 rfl) ?_
            refine lv_iconst (v := 0) hx hb dX4_fraction_44 (by decide) ?_
            refine va_put (D := D) (ci := 4) (v := .int (0 : Int32)) (ty := .int) (C := RX4) (T := TX4) (N := 21) hx hb hts iX4 tyX4 tyX4_ok nmX4 hown hK.1 hP hD hS 0 rfl rfl 7 (by decide) (hts (.fieldLink RX4 113 "NamedStreamsModel" "tries" "I") (by decide +kernel)) (fun _ h9 => h9) rfl (by decide +kernel) rfl rfl (Nat.le_of_ble_eq_true rfl) dX4_fraction_45 (fun H locs hP hD hS => ?_)
            have hP : va_P D vwCl (wM bd cb sd pz tc st (0 : Int32) sc gr P Mn T Wt Rn Po Pl Sp Ks Kp Kc Ik O As X) H := hP
            have hD : va_D A (wM bd cb sd pz tc st (0 : Int32) sc gr P Mn T Wt Rn Po Pl Sp Ks Kp Kc Ik O As X) := hD
            refine lv_lload hx hb dX4_fraction_48 (lv_at hl 4 rfl) ?_
            refine lv_lconst (v := 0) hx hb dX4_fraction_50 (by decide) ?_
            refine W.lcmp hx hb dX4_fraction_51 ?_
            refine lv_if_eq (tgt := 63) hx hb dX4_fraction_52 (by decide) (fun c52 => ?_) (fun c52 => ?_)
            · skip
              have c52 : a0 = (0 : Int64) := (lg_cmp_eq _ _).mp c52
              refine lv_lload hx hb dX4_fraction_63 (lv_at hl 4 rfl) ?_
              refine lv_lconst (v := 0) hx hb dX4_fraction_65 (by decide) ?_
              refine W.lcmp hx hb dX4_fraction_66 ?_
              refine lv_if_ne (tgt := 74) hx hb dX4_fraction_67 (by decide) (fun c67 => ?_) (fun c67 => ?_)
              · skip
                have c67 : ¬ (a0 = (0 : Int64)) := fun h => c67 ((lg_cmp_eq _ _).mpr h)
                refine lv_iconst (v := 1) hx hb dX4_fraction_74 (by decide) ?_
                exact nk_retI (g := _) (0 : Int32) hx hb hr hlocks hP hD hS dX4_fraction_75 (by first | exact (if_neg c5).trans ((if_neg c10).trans ((if_neg c17).trans ((if_neg c28).trans ((if_neg c37).trans (if_pos c67))))) | exact (if_neg c5).trans ((if_neg c10).trans ((if_neg c17).trans ((if_neg c28).trans ((if_neg c37).trans ((if_neg c67).trans (if_pos c60))))))| exact absurd c52 c67 | exact absurd c67 c52)
              · skip
                have c67 : a0 = (0 : Int64) := (lg_cmp_eq _ _).mp c67
                refine lv_iconst (v := 0) hx hb dX4_fraction_70 (by decide) ?_
                refine lv_goto (tgt := 75) hx hb dX4_fraction_71 (by decide) ?_
                exact nk_retI (g := _) (0 : Int32) hx hb hr hlocks hP hD hS dX4_fraction_75 (by first | exact (if_neg c5).trans ((if_neg c10).trans ((if_neg c17).trans ((if_neg c28).trans ((if_neg c37).trans (if_pos c67))))) | exact (if_neg c5).trans ((if_neg c10).trans ((if_neg c17).trans ((if_neg c28).trans ((if_neg c37).trans ((if_neg c67).trans (if_pos c60))))))| exact absurd c52 c67 | exact absurd c67 c52)
            · skip
              have c52 : ¬ (a0 = (0 : Int64)) := fun h => c52 ((lg_cmp_eq _ _).mpr h)
              refine lv_lload hx hb dX4_fraction_55 (lv_at hl 4 rfl) ?_
              refine lv_lload hx hb dX4_fraction_57 (lv_at hl 5 rfl) ?_
              refine W.lcmp hx hb dX4_fraction_59 ?_
              refine lv_if_ne (tgt := 76) hx hb dX4_fraction_60 (by decide) (fun c60 => ?_) (fun c60 => ?_)
              · skip
                have c60 : ¬ (a0 = b0) := fun h => c60 ((lg_cmp_eq _ _).mpr h)
                refine lv_lload hx hb dX4_fraction_76 (lv_at hl 4 rfl) ?_
                refine lv_lstore (lv' := [(9, .long a0), (0, .ref (bd 0)), (1, .long run0), (3, .int p0), (4, .int c0), (5, .long a0), (7, .long b0)]) hx hb dX4_fraction_78 hl (by decide) rfl (fun ls hl => ?_)
                refine lv_lconst (v := 0) hx hb dX4_fraction_80 (by decide) ?_
                refine lv_lstore (lv' := [(11, .long (0 : Int64)), (9, .long a0), (0, .ref (bd 0)), (1, .long run0), (3, .int p0), (4, .int c0), (5, .long a0), (7, .long b0)]) hx hb dX4_fraction_81 hl (by decide) rfl (fun ls hl => ?_)
                have lp83 : ∀ (k : Nat) (r1 : Int64) (w1 : Int64) (tr1 : Int32) (H : Heap) (locs : List Loc) (ls : Array Slot), (k ≤ 2048) → (tr1 = nI (2048 - k)) → (mFrL (fBase sd run0 (mKey P Mn p0)) (32 * Int32.toInt64 c0) b0 k r1 w1 = mFracM sd P Mn pz run0 p0 c0 a0 b0 tr) → va_P D vwCl (wM bd cb sd pz tc st tr1 sc gr P Mn T Wt Rn Po Pl Sp Ks Kp Kc Ik O As X) H → va_D A (wM bd cb sd pz tc st tr1 sc gr P Mn T Wt Rn Po Pl Sp Ks Kp Kc Ik O As X) → va_S A s.heap H locs → lv_has ls 15 [(11, .long w1), (9, .long r1), (0, .ref (bd 0)), (1, .long run0), (3, .int p0), (4, .int c0), (5, .long a0), (7, .long b0)] → W p l e ({ frames := 3, cells := 0, slots := 0, locals := 74 } : Room) s m ([.ref (bd 0), .long run0, .int p0, .int c0, .long a0, .long b0] : List Value).toArray below meth c H locs 0 0 (MQ below (va_Qi (fun r u => mFracM sd P Mn pz run0 p0 c0 a0 b0 tr = (r, u)) (nkB D A (fun u : Int32 => wM bd cb sd pz tc st u sc gr P Mn T Wt Rn Po Pl Sp Ks Kp Kc Ik O As X)) A) ([.ref (bd 0), .long run0, .int p0, .int c0, .long a0, .long b0] : List Value).toArray s 0 0 A) (F0 m 83 ls []) := by
                  intro k
                  induction k with
                  | zero =>
                    intro r1 w1 tr1 H locs ls hk htr ht hP hD hS hl
                    refine lv_aload_n hx hb dX4_fraction_83 rfl (lv_at hl 2 rfl) ?_
                    refine va_get (D := D) (ci := 4) (v := .int tr1) (C := RX4) (T := TX4) (N := 21) hx hb hts iX4 hown hK.1 hP 0 rfl rfl 7 (by decide) (hts (.fieldLink RX4 113 "NamedStreamsModel" "tries" "I") (by decide +kernel)) (fun _ h9 => h9) rfl dX4_fraction_84 ?_
                    refine lv_sipush (v := 2048) hx hb dX4_fraction_87 (by decide) ?_
                    refine lv_icmp_ge (tgt := 229) hx hb dX4_fraction_90 (by decide) (fun c90 => ?_) (fun c90 => ?_)
                    · skip
                      refine lv_bipush (v := -3) hx hb dX4_fraction_229 (by decide) ?_
                      exact nk_retI (g := _) tr1 hx hb hr hlocks hP hD hS dX4_fraction_231 (by subst htr; rw [← ht]; rfl)
                    · skip
                      exact absurd (by rw [htr]; decide) c90
                  | succ k ih83 =>
                    intro r1 w1 tr1 H locs ls hk htr ht hP hD hS hl
                    refine lv_aload_n hx hb dX4_fraction_83 rfl (lv_at hl 2 rfl) ?_
                    refine va_get (D := D) (ci := 4) (v := .int tr1) (C := RX4) (T := TX4) (N := 21) hx hb hts iX4 hown hK.1 hP 0 rfl rfl 7 (by decide) (hts (.fieldLink RX4 113 "NamedStreamsModel" "tries" "I") (by decide +kernel)) (fun _ h9 => h9) rfl dX4_fraction_84 ?_
                    refine lv_sipush (v := 2048) hx hb dX4_fraction_87 (by decide) ?_
                    refine lv_icmp_ge (tgt := 229) hx hb dX4_fraction_90 (by decide) (fun c90 => ?_) (fun c90 => ?_)
                    · skip
                      exact absurd c90 (Int32.not_le.mpr (by rw [htr]; exact ns_nI_lt (n := 2048) rfl (by omega) (by decide)))
                    · skip
                      refine lv_aload_n hx hb dX4_fraction_93 rfl (lv_at hl 2 rfl) ?_
                      refine va_get (D := D) (ci := 4) (v := .int tr1) (C := RX4) (T := TX4) (N := 21) hx hb hts iX4 hown hK.1 hP 0 rfl rfl 7 (by decide) (hts (.fieldLink RX4 113 "NamedStreamsModel" "tries" "I") (by decide +kernel)) (fun _ h9 => h9) rfl dX4_fraction_94 ?_
                      refine lv_bipush (v := 64) hx hb dX4_fraction_97 (by decide) ?_
                      refine lv_irem hx hb dX4_fraction_99 (by decide) ?_
                      refine lv_if_ne (tgt := 127) hx hb dX4_fraction_100 (by decide) (fun c100 => ?_) (fun c100 => ?_)
                      · skip
                        refine lv_lload hx hb dX4_fraction_127 (lv_at hl 0 rfl) ?_
                        refine lv_lconst (v := 0) hx hb dX4_fraction_129 (by decide) ?_
                        refine W.lcmp hx hb dX4_fraction_130 ?_
                        refine lv_if_ge (tgt := 138) hx hb dX4_fraction_131 (by decide) (fun c131 => ?_) (fun c131 => ?_)
                        · skip
                          have c131 : (0 : Int64) ≤ w1 := (lg_cmp_ge _ _).mp c131
                          refine lv_iconst (v := 0) hx hb dX4_fraction_138 (by decide) ?_
                          refine lv_istore (lv' := [(13, .int (0 : Int32)), (11, .long w1), (9, .long r1), (0, .ref (bd 0)), (1, .long run0), (3, .int p0), (4, .int c0), (5, .long a0), (7, .long b0)]) hx hb dX4_fraction_139 hl (by decide) rfl (fun ls hl => ?_)
                          refine lv_lload hx hb dX4_fraction_141 (lv_at hl 1 rfl) ?_
                          refine lv_iconst (v := 1) hx hb dX4_fraction_143 (by decide) ?_
                          refine lv_lshl (v := (nsL w1 (1 : Int32))) hx hb dX4_fraction_144 rfl ?_
                          refine lv_topl (fun z3 ez3 => ?_)
                          refine lv_lstore (lv' := [(11, .long z3), (13, .int (0 : Int32)), (9, .long r1), (0, .ref (bd 0)), (1, .long run0), (3, .int p0), (4, .int c0), (5, .long a0), (7, .long b0)]) hx hb dX4_fraction_145 hl (by decide) rfl (fun ls hl => ?_)
                          refine lv_aload_n hx hb dX4_fraction_147 rfl (lv_at hl 3 rfl) ?_
                          refine lv_dup hx hb dX4_fraction_148 rfl ?_
                          refine va_get (D := D) (ci := 4) (v := .int tr1) (C := RX4) (T := TX4) (N := 21) hx hb hts iX4 hown hK.1 hP 0 rfl rfl 7 (by decide) (hts (.fieldLink RX4 113 "NamedStreamsModel" "tries" "I") (by decide +kernel)) (fun _ h9 => h9) rfl dX4_fraction_149 ?_
                          refine lv_iconst (v := 1) hx hb dX4_fraction_152 (by decide) ?_
                          refine lv_iadd hx hb dX4_fraction_153 ?_
                          refine lv_topi (fun z4 ez4 => ?_)
                          refine va_put (D := D) (ci := 4) (v := .int z4) (ty := .int) (C := RX4) (T := TX4) (N := 21) hx hb hts iX4 tyX4 tyX4_ok nmX4 hown hK.1 hP hD hS 0 rfl rfl 7 (by decide) (hts (.fieldLink RX4 113 "NamedStreamsModel" "tries" "I") (by decide +kernel)) (fun _ h9 => h9) rfl (by decide +kernel) rfl rfl (Nat.le_of_ble_eq_true rfl) dX4_fraction_154 (fun H locs hP hD hS => ?_)
                          have hP : va_P D vwCl (wM bd cb sd pz tc st z4 sc gr P Mn T Wt Rn Po Pl Sp Ks Kp Kc Ik O As X) H := hP
                          have hD : va_D A (wM bd cb sd pz tc st z4 sc gr P Mn T Wt Rn Po Pl Sp Ks Kp Kc Ik O As X) := hD
                          refine lv_lload hx hb dX4_fraction_157 (lv_at hl 2 rfl) ?_
                          refine lv_lload hx hb dX4_fraction_159 (lv_at hl 8 rfl) ?_
                          refine lv_lload hx hb dX4_fraction_161 (lv_at hl 2 rfl) ?_
                          refine lv_lsub hx hb dX4_fraction_163 ?_
                          refine W.lcmp hx hb dX4_fraction_164 ?_
                          refine lv_if_lt (tgt := 172) hx hb dX4_fraction_165 (by decide) (fun c165 => ?_) (fun c165 => ?_)
                          · skip
                            have c165 : r1 < (b0 - r1) := (lg_cmp_lt _ _).mp c165
                            refine lv_iconst (v := 0) hx hb dX4_fraction_172 (by decide) ?_
                            refine lv_istore (lv' := [(14, .int (0 : Int32)), (11, .long z3), (13, .int (0 : Int32)), (9, .long r1), (0, .ref (bd 0)), (1, .long run0), (3, .int p0), (4, .int c0), (5, .long a0), (7, .long b0)]) hx hb dX4_fraction_173 hl (by decide) rfl (fun ls hl => ?_)
                            refine lv_iload hx hb dX4_fraction_175 (lv_at hl 0 rfl) ?_
                            refine lv_if_eq (tgt := 191) hx hb dX4_fraction_177 (by decide) (fun c177 => ?_) (fun c177 => ?_)
                            · skip
                              refine lv_ldc2 (v := 2) hx hb hown (hts (.constantLong RX4 126 (2)) (by decide +kernel)) dX4_fraction_191 ?_
                              refine lv_lload hx hb dX4_fraction_194 (lv_at hl 3 rfl) ?_
                              refine lv_lmul hx hb dX4_fraction_196 ?_
                              refine lv_topl (fun z5 ez5 => ?_)
                              refine lv_lstore (lv' := [(9, .long z5), (14, .int (0 : Int32)), (11, .long z3), (13, .int (0 : Int32)), (0, .ref (bd 0)), (1, .long run0), (3, .int p0), (4, .int c0), (5, .long a0), (7, .long b0)]) hx hb dX4_fraction_197 hl (by decide) rfl (fun ls hl => ?_)
                              refine lv_iload hx hb dX4_fraction_199 (lv_at hl 3 rfl) ?_
                              refine lv_iload hx hb dX4_fraction_201 (lv_at hl 1 rfl) ?_
                              refine lv_icmp_eq (tgt := 217) hx hb dX4_fraction_203 (by decide) (fun c203 => ?_) (fun c203 => ?_)
                              · skip
                                refine lv_lload hx hb dX4_fraction_217 (lv_at hl 0 rfl) ?_
                                refine lv_lconst (v := 0) hx hb dX4_fraction_219 (by decide) ?_
                                refine W.lcmp hx hb dX4_fraction_220 ?_
                                refine lv_if_ne (tgt := 226) hx hb dX4_fraction_221 (by decide) (fun c221 => ?_) (fun c221 => ?_)
                                · skip
                                  have c221 : ¬ (z5 = (0 : Int64)) := fun h => c221 ((lg_cmp_eq _ _).mpr h)
                                  refine lv_goto (tgt := 83) hx hb dX4_fraction_226 (by decide) ?_
                                  exact ih83 z5 z3 z4 _ _ _ (Nat.le_of_succ_le hk) (ns_step htr hk ez4) (by subst htr; subst ez3; subst ez5; rw [← ht, mFrL, if_neg c100]; exact ((if_pos c131).trans ((if_pos c165).trans (if_neg c221))).symm) hP hD hS (lv_sub hl [2, 0, 4, 5, 6, 7, 8, 9] rfl)
                                · skip
                                  have c221 : z5 = (0 : Int64) := (lg_cmp_eq _ _).mp c221
                                  refine lv_iconst (v := 0) hx hb dX4_fraction_224 (by decide) ?_
                                  exact nk_retI (g := _) z4 hx hb hr hlocks hP hD hS dX4_fraction_225 (by subst htr; subst ez3; subst ez4; subst ez5; rw [← ht]; exact ((if_neg c100).trans ((if_pos c131).trans ((if_pos c165).trans (if_pos c221)))))
                              · skip
                                exact absurd c203 (by decide)
                            · skip
                              exact absurd c177 (by decide)
                          · skip
                            have c165 : ¬ (r1 < (b0 - r1)) := fun h => c165 ((lg_cmp_lt _ _).mpr h)
                            refine lv_iconst (v := 1) hx hb dX4_fraction_168 (by decide) ?_
                            refine lv_goto (tgt := 173) hx hb dX4_fraction_169 (by decide) ?_
                            refine lv_istore (lv' := [(14, .int (1 : Int32)), (11, .long z3), (13, .int (0 : Int32)), (9, .long r1), (0, .ref (bd 0)), (1, .long run0), (3, .int p0), (4, .int c0), (5, .long a0), (7, .long b0)]) hx hb dX4_fraction_173 hl (by decide) rfl (fun ls hl => ?_)
                            refine lv_iload hx hb dX4_fraction_175 (lv_at hl 0 rfl) ?_
                            refine lv_if_eq (tgt := 191) hx hb dX4_fraction_177 (by decide) (fun c177 => ?_) (fun c177 => ?_)
                            · skip
                              exact absurd c177 (by decide)
                            · skip
                              refine lv_lload hx hb dX4_fraction_180 (lv_at hl 3 rfl) ?_
                              refine lv_lload hx hb dX4_fraction_182 (lv_at hl 9 rfl) ?_
                              refine lv_lload hx hb dX4_fraction_184 (lv_at hl 3 rfl) ?_
                              refine lv_lsub hx hb dX4_fraction_186 ?_
                              refine lv_lsub hx hb dX4_fraction_187 ?_
                              refine lv_goto (tgt := 197) hx hb dX4_fraction_188 (by decide) ?_
                              refine lv_topl (fun z6 ez6 => ?_)
                              refine lv_lstore (lv' := [(9, .long z6), (14, .int (1 : Int32)), (11, .long z3), (13, .int (0 : Int32)), (0, .ref (bd 0)), (1, .long run0), (3, .int p0), (4, .int c0), (5, .long a0), (7, .long b0)]) hx hb dX4_fraction_197 hl (by decide) rfl (fun ls hl => ?_)
                              refine lv_iload hx hb dX4_fraction_199 (lv_at hl 3 rfl) ?_
                              refine lv_iload hx hb dX4_fraction_201 (lv_at hl 1 rfl) ?_
                              refine lv_icmp_eq (tgt := 217) hx hb dX4_fraction_203 (by decide) (fun c203 => ?_) (fun c203 => ?_)
                              · skip
                                exact absurd c203 (by decide)
                              · skip
                                refine lv_iload hx hb dX4_fraction_206 (lv_at hl 1 rfl) ?_
                                refine lv_if_eq (tgt := 215) hx hb dX4_fraction_208 (by decide) (fun c208 => ?_) (fun c208 => ?_)
                                · skip
                                  exact absurd c208 (by decide)
                                · skip
                                  refine lv_iconst (v := 1) hx hb dX4_fraction_211 (by decide) ?_
                                  refine lv_goto (tgt := 216) hx hb dX4_fraction_212 (by decide) ?_
                                  exact nk_retI (g := _) z4 hx hb hr hlocks hP hD hS dX4_fraction_216 (by subst htr; subst ez3; subst ez4; subst ez6; rw [← ht]; exact ((if_neg c100).trans ((if_pos c131).trans (if_neg c165))))
                        · skip
                          have c131 : ¬ ((0 : Int64) ≤ w1) := fun h => c131 ((lg_cmp_ge _ _).mpr h)
                          refine lv_iconst (v := 1) hx hb dX4_fraction_134 (by decide) ?_
                          refine lv_goto (tgt := 139) hx hb dX4_fraction_135 (by decide) ?_
                          refine lv_istore (lv' := [(13, .int (1 : Int32)), (11, .long w1), (9, .long r1), (0, .ref (bd 0)), (1, .long run0), (3, .int p0), (4, .int c0), (5, .long a0), (7, .long b0)]) hx hb dX4_fraction_139 hl (by decide) rfl (fun ls hl => ?_)
                          refine lv_lload hx hb dX4_fraction_141 (lv_at hl 1 rfl) ?_
                          refine lv_iconst (v := 1) hx hb dX4_fraction_143 (by decide) ?_
                          refine lv_lshl (v := (nsL w1 (1 : Int32))) hx hb dX4_fraction_144 rfl ?_
                          refine lv_topl (fun z7 ez7 => ?_)
                          refine lv_lstore (lv' := [(11, .long z7), (13, .int (1 : Int32)), (9, .long r1), (0, .ref (bd 0)), (1, .long run0), (3, .int p0), (4, .int c0), (5, .long a0), (7, .long b0)]) hx hb dX4_fraction_145 hl (by decide) rfl (fun ls hl => ?_)
                          refine lv_aload_n hx hb dX4_fraction_147 rfl (lv_at hl 3 rfl) ?_
                          refine lv_dup hx hb dX4_fraction_148 rfl ?_
                          refine va_get (D := D) (ci := 4) (v := .int tr1) (C := RX4) (T := TX4) (N := 21) hx hb hts iX4 hown hK.1 hP 0 rfl rfl 7 (by decide) (hts (.fieldLink RX4 113 "NamedStreamsModel" "tries" "I") (by decide +kernel)) (fun _ h9 => h9) rfl dX4_fraction_149 ?_
                          refine lv_iconst (v := 1) hx hb dX4_fraction_152 (by decide) ?_
                          refine lv_iadd hx hb dX4_fraction_153 ?_
                          refine lv_topi (fun z8 ez8 => ?_)
                          refine va_put (D := D) (ci := 4) (v := .int z8) (ty := .int) (C := RX4) (T := TX4) (N := 21) hx hb hts iX4 tyX4 tyX4_ok nmX4 hown hK.1 hP hD hS 0 rfl rfl 7 (by decide) (hts (.fieldLink RX4 113 "NamedStreamsModel" "tries" "I") (by decide +kernel)) (fun _ h9 => h9) rfl (by decide +kernel) rfl rfl (Nat.le_of_ble_eq_true rfl) dX4_fraction_154 (fun H locs hP hD hS => ?_)
                          have hP : va_P D vwCl (wM bd cb sd pz tc st z8 sc gr P Mn T Wt Rn Po Pl Sp Ks Kp Kc Ik O As X) H := hP
                          have hD : va_D A (wM bd cb sd pz tc st z8 sc gr P Mn T Wt Rn Po Pl Sp Ks Kp Kc Ik O As X) := hD
                          refine lv_lload hx hb dX4_fraction_157 (lv_at hl 2 rfl) ?_
                          refine lv_lload hx hb dX4_fraction_159 (lv_at hl 8 rfl) ?_
                          refine lv_lload hx hb dX4_fraction_161 (lv_at hl 2 rfl) ?_
                          refine lv_lsub hx hb dX4_fraction_163 ?_
                          refine W.lcmp hx hb dX4_fraction_164 ?_
                          refine lv_if_lt (tgt := 172) hx hb dX4_fraction_165 (by decide) (fun c165 => ?_) (fun c165 => ?_)
                          · skip
                            have c165 : r1 < (b0 - r1) := (lg_cmp_lt _ _).mp c165
                            refine lv_iconst (v := 0) hx hb dX4_fraction_172 (by decide) ?_
                            refine lv_istore (lv' := [(14, .int (0 : Int32)), (11, .long z7), (13, .int (1 : Int32)), (9, .long r1), (0, .ref (bd 0)), (1, .long run0), (3, .int p0), (4, .int c0), (5, .long a0), (7, .long b0)]) hx hb dX4_fraction_173 hl (by decide) rfl (fun ls hl => ?_)
                            refine lv_iload hx hb dX4_fraction_175 (lv_at hl 0 rfl) ?_
                            refine lv_if_eq (tgt := 191) hx hb dX4_fraction_177 (by decide) (fun c177 => ?_) (fun c177 => ?_)
                            · skip
                              refine lv_ldc2 (v := 2) hx hb hown (hts (.constantLong RX4 126 (2)) (by decide +kernel)) dX4_fraction_191 ?_
                              refine lv_lload hx hb dX4_fraction_194 (lv_at hl 3 rfl) ?_
                              refine lv_lmul hx hb dX4_fraction_196 ?_
                              refine lv_topl (fun z9 ez9 => ?_)
                              refine lv_lstore (lv' := [(9, .long z9), (14, .int (0 : Int32)), (11, .long z7), (13, .int (1 : Int32)), (0, .ref (bd 0)), (1, .long run0), (3, .int p0), (4, .int c0), (5, .long a0), (7, .long b0)]) hx hb dX4_fraction_197 hl (by decide) rfl (fun ls hl => ?_)
                              refine lv_iload hx hb dX4_fraction_199 (lv_at hl 3 rfl) ?_
                              refine lv_iload hx hb dX4_fraction_201 (lv_at hl 1 rfl) ?_
                              refine lv_icmp_eq (tgt := 217) hx hb dX4_fraction_203 (by decide) (fun c203 => ?_) (fun c203 => ?_)
                              · skip
                                exact absurd c203 (by decide)
                              · skip
                                refine lv_iload hx hb dX4_fraction_206 (lv_at hl 1 rfl) ?_
                                refine lv_if_eq (tgt := 215) hx hb dX4_fraction_208 (by decide) (fun c208 => ?_) (fun c208 => ?_)
                                · skip
                                  refine lv_iconst (v := 0) hx hb dX4_fraction_215 (by decide) ?_
                                  exact nk_retI (g := _) z8 hx hb hr hlocks hP hD hS dX4_fraction_216 (by subst htr; subst ez7; subst ez8; subst ez9; rw [← ht]; exact ((if_neg c100).trans ((if_neg c131).trans (if_pos c165))))
                                · skip
                                  exact absurd c208 (by decide)
                            · skip
                              exact absurd c177 (by decide)
                          · skip
                            have c165 : ¬ (r1 < (b0 - r1)) := fun h => c165 ((lg_cmp_lt _ _).mpr h)
                            refine lv_iconst (v := 1) hx hb dX4_fraction_168 (by decide) ?_
                            refine lv_goto (tgt := 173) hx hb dX4_fraction_169 (by decide) ?_
                            refine lv_istore (lv' := [(14, .int (1 : Int32)), (11, .long z7), (13, .int (1 : Int32)), (9, .long r1), (0, .ref (bd 0)), (1, .long run0), (3, .int p0), (4, .int c0), (5, .long a0), (7, .long b0)]) hx hb dX4_fraction_173 hl (by decide) rfl (fun ls hl => ?_)
                            refine lv_iload hx hb dX4_fraction_175 (lv_at hl 0 rfl) ?_
                            refine lv_if_eq (tgt := 191) hx hb dX4_fraction_177 (by decide) (fun c177 => ?_) (fun c177 => ?_)
                            · skip
                              exact absurd c177 (by decide)
                            · skip
                              refine lv_lload hx hb dX4_fraction_180 (lv_at hl 3 rfl) ?_
                              refine lv_lload hx hb dX4_fraction_182 (lv_at hl 9 rfl) ?_
                              refine lv_lload hx hb dX4_fraction_184 (lv_at hl 3 rfl) ?_
                              refine lv_lsub hx hb dX4_fraction_186 ?_
                              refine lv_lsub hx hb dX4_fraction_187 ?_
                              refine lv_goto (tgt := 197) hx hb dX4_fraction_188 (by decide) ?_
                              refine lv_topl (fun z10 ez10 => ?_)
                              refine lv_lstore (lv' := [(9, .long z10), (14, .int (1 : Int32)), (11, .long z7), (13, .int (1 : Int32)), (0, .ref (bd 0)), (1, .long run0), (3, .int p0), (4, .int c0), (5, .long a0), (7, .long b0)]) hx hb dX4_fraction_197 hl (by decide) rfl (fun ls hl => ?_)
                              refine lv_iload hx hb dX4_fraction_199 (lv_at hl 3 rfl) ?_
                              refine lv_iload hx hb dX4_fraction_201 (lv_at hl 1 rfl) ?_
                              refine lv_icmp_eq (tgt := 217) hx hb dX4_fraction_203 (by decide) (fun c203 => ?_) (fun c203 => ?_)
                              · skip
                                refine lv_lload hx hb dX4_fraction_217 (lv_at hl 0 rfl) ?_
                                refine lv_lconst (v := 0) hx hb dX4_fraction_219 (by decide) ?_
                                refine W.lcmp hx hb dX4_fraction_220 ?_
                                refine lv_if_ne (tgt := 226) hx hb dX4_fraction_221 (by decide) (fun c221 => ?_) (fun c221 => ?_)
                                · skip
                                  have c221 : ¬ (z10 = (0 : Int64)) := fun h => c221 ((lg_cmp_eq _ _).mpr h)
                                  refine lv_goto (tgt := 83) hx hb dX4_fraction_226 (by decide) ?_
                                  exact ih83 z10 z7 z8 _ _ _ (Nat.le_of_succ_le hk) (ns_step htr hk ez8) (by subst htr; subst ez7; subst ez10; rw [← ht, mFrL, if_neg c100]; exact ((if_neg c131).trans ((if_neg c165).trans (if_neg c221))).symm) hP hD hS (lv_sub hl [2, 0, 4, 5, 6, 7, 8, 9] rfl)
                                · skip
                                  have c221 : z10 = (0 : Int64) := (lg_cmp_eq _ _).mp c221
                                  refine lv_iconst (v := 0) hx hb dX4_fraction_224 (by decide) ?_
                                  exact nk_retI (g := _) z8 hx hb hr hlocks hP hD hS dX4_fraction_225 (by subst htr; subst ez7; subst ez8; subst ez10; rw [← ht]; exact ((if_neg c100).trans ((if_neg c131).trans ((if_neg c165).trans (if_pos c221)))))
                              · skip
                                exact absurd c203 (by decide)
                      · skip
                        refine lv_aload_n hx hb dX4_fraction_103 rfl (lv_at hl 2 rfl) ?_
                        refine lv_lload_n hx hb dX4_fraction_104 rfl (lv_at hl 3 rfl) ?_
                        refine lv_iload_n hx hb dX4_fraction_105 rfl (lv_at hl 4 rfl) ?_
                        refine lv_ldc2 (v := 32) hx hb hown (hts (.constantLong RX4 111 (32)) (by decide +kernel)) dX4_fraction_106 ?_
                        refine lv_iload hx hb dX4_fraction_109 (lv_at hl 5 rfl) ?_
                        refine lv_i2l hx hb dX4_fraction_111 rfl ?_
                        refine lv_lmul hx hb dX4_fraction_112 ?_
                        refine lv_aload_n hx hb dX4_fraction_113 rfl (lv_at hl 2 rfl) ?_
                        refine va_get (D := D) (ci := 4) (v := .int tr1) (C := RX4) (T := TX4) (N := 21) hx hb hts iX4 hown hK.1 hP 0 rfl rfl 7 (by decide) (hts (.fieldLink RX4 113 "NamedStreamsModel" "tries" "I") (by decide +kernel)) (fun _ h9 => h9) rfl dX4_fraction_114 ?_
                        refine lv_bipush (v := 64) hx hb dX4_fraction_117 (by decide) ?_
                        refine lv_idiv hx hb dX4_fraction_119 (by decide) ?_
                        refine lv_i2l hx hb dX4_fraction_120 rfl ?_
                        refine lv_ladd hx hb dX4_fraction_121 ?_
                        refine nk_VRL (As := [.long run0, .int p0, .long (((32 : Int64) * (Int32.toInt64 c0)) + (Int32.toInt64 (tr1 / (64 : Int32))))]) (rest := []) ⟨hx, hb, hml, hown, hts⟩ (mX4_wordOf l D bd cb sd pz tc st tr1 sc gr P Mn T Wt Rn Po Pl Sp Ks Kp Kc Ik O As X run0 p0 (((32 : Int64) * (Int32.toInt64 c0)) + (Int32.toInt64 (tr1 / (64 : Int32)))) (hW c5).1 (hW c5).2) (cwV 3 hts gX4_fraction_X4_wordOf rfl rfl rfl (by decide +kernel) ⟨Nat.le_of_ble_eq_true rfl, Nat.le_of_ble_eq_true rfl⟩) hK hP 0 4 rfl rfl rfl rfl hl.1 rfl (Nat.le_of_ble_eq_true rfl) dX4_fraction_122 ⟨Nat.le_of_ble_eq_true rfl, Nat.le_of_ble_eq_true rfl⟩ (fun r11 hr11 => ?_)
                        subst hr11
                        refine lv_topl (fun z12 ez12 => ?_)
                        refine lv_lstore (lv' := [(11, .long z12), (9, .long r1), (0, .ref (bd 0)), (1, .long run0), (3, .int p0), (4, .int c0), (5, .long a0), (7, .long b0)]) hx hb dX4_fraction_125 hl (by decide) rfl (fun ls hl => ?_)
                        refine lv_lload hx hb dX4_fraction_127 (lv_at hl 0 rfl) ?_
                        refine lv_lconst (v := 0) hx hb dX4_fraction_129 (by decide) ?_
                        refine W.lcmp hx hb dX4_fraction_130 ?_
                        refine lv_if_ge (tgt := 138) hx hb dX4_fraction_131 (by decide) (fun c131 => ?_) (fun c131 => ?_)
                        · skip
                          have c131 : (0 : Int64) ≤ z12 := (lg_cmp_ge _ _).mp c131
                          refine lv_iconst (v := 0) hx hb dX4_fraction_138 (by decide) ?_
                          refine lv_istore (lv' := [(13, .int (0 : Int32)), (11, .long z12), (9, .long r1), (0, .ref (bd 0)), (1, .long run0), (3, .int p0), (4, .int c0), (5, .long a0), (7, .long b0)]) hx hb dX4_fraction_139 hl (by decide) rfl (fun ls hl => ?_)
                          refine lv_lload hx hb dX4_fraction_141 (lv_at hl 1 rfl) ?_
                          refine lv_iconst (v := 1) hx hb dX4_fraction_143 (by decide) ?_
                          refine lv_lshl (v := (nsL z12 (1 : Int32))) hx hb dX4_fraction_144 rfl ?_
                          refine lv_topl (fun z13 ez13 => ?_)
                          refine lv_lstore (lv' := [(11, .long z13), (13, .int (0 : Int32)), (9, .long r1), (0, .ref (bd 0)), (1, .long run0), (3, .int p0), (4, .int c0), (5, .long a0), (7, .long b0)]) hx hb dX4_fraction_145 hl (by decide) rfl (fun ls hl => ?_)
                          refine lv_aload_n hx hb dX4_fraction_147 rfl (lv_at hl 3 rfl) ?_
                          refine lv_dup hx hb dX4_fraction_148 rfl ?_
                          refine va_get (D := D) (ci := 4) (v := .int tr1) (C := RX4) (T := TX4) (N := 21) hx hb hts iX4 hown hK.1 hP 0 rfl rfl 7 (by decide) (hts (.fieldLink RX4 113 "NamedStreamsModel" "tries" "I") (by decide +kernel)) (fun _ h9 => h9) rfl dX4_fraction_149 ?_
                          refine lv_iconst (v := 1) hx hb dX4_fraction_152 (by decide) ?_
                          refine lv_iadd hx hb dX4_fraction_153 ?_
                          refine lv_topi (fun z14 ez14 => ?_)
                          refine va_put (D := D) (ci := 4) (v := .int z14) (ty := .int) (C := RX4) (T := TX4) (N := 21) hx hb hts iX4 tyX4 tyX4_ok nmX4 hown hK.1 hP hD hS 0 rfl rfl 7 (by decide) (hts (.fieldLink RX4 113 "NamedStreamsModel" "tries" "I") (by decide +kernel)) (fun _ h9 => h9) rfl (by decide +kernel) rfl rfl (Nat.le_of_ble_eq_true rfl) dX4_fraction_154 (fun H locs hP hD hS => ?_)
                          have hP : va_P D vwCl (wM bd cb sd pz tc st z14 sc gr P Mn T Wt Rn Po Pl Sp Ks Kp Kc Ik O As X) H := hP
                          have hD : va_D A (wM bd cb sd pz tc st z14 sc gr P Mn T Wt Rn Po Pl Sp Ks Kp Kc Ik O As X) := hD
                          refine lv_lload hx hb dX4_fraction_157 (lv_at hl 2 rfl) ?_
                          refine lv_lload hx hb dX4_fraction_159 (lv_at hl 8 rfl) ?_
                          refine lv_lload hx hb dX4_fraction_161 (lv_at hl 2 rfl) ?_
                          refine lv_lsub hx hb dX4_fraction_163 ?_
                          refine W.lcmp hx hb dX4_fraction_164 ?_
                          refine lv_if_lt (tgt := 172) hx hb dX4_fraction_165 (by decide) (fun c165 => ?_) (fun c165 => ?_)
                          · skip
                            have c165 : r1 < (b0 - r1) := (lg_cmp_lt _ _).mp c165
                            refine lv_iconst (v := 0) hx hb dX4_fraction_172 (by decide) ?_
                            refine lv_istore (lv' := [(14, .int (0 : Int32)), (11, .long z13), (13, .int (0 : Int32)), (9, .long r1), (0, .ref (bd 0)), (1, .long run0), (3, .int p0), (4, .int c0), (5, .long a0), (7, .long b0)]) hx hb dX4_fraction_173 hl (by decide) rfl (fun ls hl => ?_)
                            refine lv_iload hx hb dX4_fraction_175 (lv_at hl 0 rfl) ?_
                            refine lv_if_eq (tgt := 191) hx hb dX4_fraction_177 (by decide) (fun c177 => ?_) (fun c177 => ?_)
                            · skip
                              refine lv_ldc2 (v := 2) hx hb hown (hts (.constantLong RX4 126 (2)) (by decide +kernel)) dX4_fraction_191 ?_
                              refine lv_lload hx hb dX4_fraction_194 (lv_at hl 3 rfl) ?_
                              refine lv_lmul hx hb dX4_fraction_196 ?_
                              refine lv_topl (fun z15 ez15 => ?_)
                              refine lv_lstore (lv' := [(9, .long z15), (14, .int (0 : Int32)), (11, .long z13), (13, .int (0 : Int32)), (0, .ref (bd 0)), (1, .long run0), (3, .int p0), (4, .int c0), (5, .long a0), (7, .long b0)]) hx hb dX4_fraction_197 hl (by decide) rfl (fun ls hl => ?_)
                              refine lv_iload hx hb dX4_fraction_199 (lv_at hl 3 rfl) ?_
                              refine lv_iload hx hb dX4_fraction_201 (lv_at hl 1 rfl) ?_
                              refine lv_icmp_eq (tgt := 217) hx hb dX4_fraction_203 (by decide) (fun c203 => ?_) (fun c203 => ?_)
                              · skip
                                refine lv_lload hx hb dX4_fraction_217 (lv_at hl 0 rfl) ?_
                                refine lv_lconst (v := 0) hx hb dX4_fraction_219 (by decide) ?_
                                refine W.lcmp hx hb dX4_fraction_220 ?_
                                refine lv_if_ne (tgt := 226) hx hb dX4_fraction_221 (by decide) (fun c221 => ?_) (fun c221 => ?_)
                                · skip
                                  have c221 : ¬ (z15 = (0 : Int64)) := fun h => c221 ((lg_cmp_eq _ _).mpr h)
                                  refine lv_goto (tgt := 83) hx hb dX4_fraction_226 (by decide) ?_
                                  exact ih83 z15 z13 z14 _ _ _ (Nat.le_of_succ_le hk) (ns_step htr hk ez14) (by subst htr; subst ez12; subst ez13; subst ez15; rw [← ht, mFrL, if_pos c100]; exact ((if_pos c131).trans ((if_pos c165).trans (if_neg c221))).symm) hP hD hS (lv_sub hl [2, 0, 4, 5, 6, 7, 8, 9] rfl)
                                · skip
                                  have c221 : z15 = (0 : Int64) := (lg_cmp_eq _ _).mp c221
                                  refine lv_iconst (v := 0) hx hb dX4_fraction_224 (by decide) ?_
                                  exact nk_retI (g := _) z14 hx hb hr hlocks hP hD hS dX4_fraction_225 (by subst htr; subst ez12; subst ez13; subst ez14; subst ez15; rw [← ht]; exact ((if_pos c100).trans ((if_pos c131).trans ((if_pos c165).trans (if_pos c221)))))
                              · skip
                                exact absurd c203 (by decide)
                            · skip
                              exact absurd c177 (by decide)
                          · skip
                            have c165 : ¬ (r1 < (b0 - r1)) := fun h => c165 ((lg_cmp_lt _ _).mpr h)
                            refine lv_iconst (v := 1) hx hb dX4_fraction_168 (by decide) ?_
                            refine lv_goto (tgt := 173) hx hb dX4_fraction_169 (by decide) ?_
                            refine lv_istore (lv' := [(14, .int (1 : Int32)), (11, .long z13), (13, .int (0 : Int32)), (9, .long r1), (0, .ref (bd 0)), (1, .long run0), (3, .int p0), (4, .int c0), (5, .long a0), (7, .long b0)]) hx hb dX4_fraction_173 hl (by decide) rfl (fun ls hl => ?_)
                            refine lv_iload hx hb dX4_fraction_175 (lv_at hl 0 rfl) ?_
                            refine lv_if_eq (tgt := 191) hx hb dX4_fraction_177 (by decide) (fun c177 => ?_) (fun c177 => ?_)
                            · skip
                              exact absurd c177 (by decide)
                            · skip
                              refine lv_lload hx hb dX4_fraction_180 (lv_at hl 3 rfl) ?_
                              refine lv_lload hx hb dX4_fraction_182 (lv_at hl 9 rfl) ?_
                              refine lv_lload hx hb dX4_fraction_184 (lv_at hl 3 rfl) ?_
                              refine lv_lsub hx hb dX4_fraction_186 ?_
                              refine lv_lsub hx hb dX4_fraction_187 ?_
                              refine lv_goto (tgt := 197) hx hb dX4_fraction_188 (by decide) ?_
                              refine lv_topl (fun z16 ez16 => ?_)
                              refine lv_lstore (lv' := [(9, .long z16), (14, .int (1 : Int32)), (11, .long z13), (13, .int (0 : Int32)), (0, .ref (bd 0)), (1, .long run0), (3, .int p0), (4, .int c0), (5, .long a0), (7, .long b0)]) hx hb dX4_fraction_197 hl (by decide) rfl (fun ls hl => ?_)
                              refine lv_iload hx hb dX4_fraction_199 (lv_at hl 3 rfl) ?_
                              refine lv_iload hx hb dX4_fraction_201 (lv_at hl 1 rfl) ?_
                              refine lv_icmp_eq (tgt := 217) hx hb dX4_fraction_203 (by decide) (fun c203 => ?_) (fun c203 => ?_)
                              · skip
                                exact absurd c203 (by decide)
                              · skip
                                refine lv_iload hx hb dX4_fraction_206 (lv_at hl 1 rfl) ?_
                                refine lv_if_eq (tgt := 215) hx hb dX4_fraction_208 (by decide) (fun c208 => ?_) (fun c208 => ?_)
                                · skip
                                  exact absurd c208 (by decide)
                                · skip
                                  refine lv_iconst (v := 1) hx hb dX4_fraction_211 (by decide) ?_
                                  refine lv_goto (tgt := 216) hx hb dX4_fraction_212 (by decide) ?_
                                  exact nk_retI (g := _) z14 hx hb hr hlocks hP hD hS dX4_fraction_216 (by subst htr; subst ez12; subst ez13; subst ez14; subst ez16; rw [← ht]; exact ((if_pos c100).trans ((if_pos c131).trans (if_neg c165))))
                        · skip
                          have c131 : ¬ ((0 : Int64) ≤ z12) := fun h => c131 ((lg_cmp_ge _ _).mpr h)
                          refine lv_iconst (v := 1) hx hb dX4_fraction_134 (by decide) ?_
                          refine lv_goto (tgt := 139) hx hb dX4_fraction_135 (by decide) ?_
                          refine lv_istore (lv' := [(13, .int (1 : Int32)), (11, .long z12), (9, .long r1), (0, .ref (bd 0)), (1, .long run0), (3, .int p0), (4, .int c0), (5, .long a0), (7, .long b0)]) hx hb dX4_fraction_139 hl (by decide) rfl (fun ls hl => ?_)
                          refine lv_lload hx hb dX4_fraction_141 (lv_at hl 1 rfl) ?_
                          refine lv_iconst (v := 1) hx hb dX4_fraction_143 (by decide) ?_
                          refine lv_lshl (v := (nsL z12 (1 : Int32))) hx hb dX4_fraction_144 rfl ?_
                          refine lv_topl (fun z17 ez17 => ?_)
                          refine lv_lstore (lv' := [(11, .long z17), (13, .int (1 : Int32)), (9, .long r1), (0, .ref (bd 0)), (1, .long run0), (3, .int p0), (4, .int c0), (5, .long a0), (7, .long b0)]) hx hb dX4_fraction_145 hl (by decide) rfl (fun ls hl => ?_)
                          refine lv_aload_n hx hb dX4_fraction_147 rfl (lv_at hl 3 rfl) ?_
                          refine lv_dup hx hb dX4_fraction_148 rfl ?_
                          refine va_get (D := D) (ci := 4) (v := .int tr1) (C := RX4) (T := TX4) (N := 21) hx hb hts iX4 hown hK.1 hP 0 rfl rfl 7 (by decide) (hts (.fieldLink RX4 113 "NamedStreamsModel" "tries" "I") (by decide +kernel)) (fun _ h9 => h9) rfl dX4_fraction_149 ?_
                          refine lv_iconst (v := 1) hx hb dX4_fraction_152 (by decide) ?_
                          refine lv_iadd hx hb dX4_fraction_153 ?_
                          refine lv_topi (fun z18 ez18 => ?_)
                          refine va_put (D := D) (ci := 4) (v := .int z18) (ty := .int) (C := RX4) (T := TX4) (N := 21) hx hb hts iX4 tyX4 tyX4_ok nmX4 hown hK.1 hP hD hS 0 rfl rfl 7 (by decide) (hts (.fieldLink RX4 113 "NamedStreamsModel" "tries" "I") (by decide +kernel)) (fun _ h9 => h9) rfl (by decide +kernel) rfl rfl (Nat.le_of_ble_eq_true rfl) dX4_fraction_154 (fun H locs hP hD hS => ?_)
                          have hP : va_P D vwCl (wM bd cb sd pz tc st z18 sc gr P Mn T Wt Rn Po Pl Sp Ks Kp Kc Ik O As X) H := hP
                          have hD : va_D A (wM bd cb sd pz tc st z18 sc gr P Mn T Wt Rn Po Pl Sp Ks Kp Kc Ik O As X) := hD
                          refine lv_lload hx hb dX4_fraction_157 (lv_at hl 2 rfl) ?_
                          refine lv_lload hx hb dX4_fraction_159 (lv_at hl 8 rfl) ?_
                          refine lv_lload hx hb dX4_fraction_161 (lv_at hl 2 rfl) ?_
                          refine lv_lsub hx hb dX4_fraction_163 ?_
                          refine W.lcmp hx hb dX4_fraction_164 ?_
                          refine lv_if_lt (tgt := 172) hx hb dX4_fraction_165 (by decide) (fun c165 => ?_) (fun c165 => ?_)
                          · skip
                            have c165 : r1 < (b0 - r1) := (lg_cmp_lt _ _).mp c165
                            refine lv_iconst (v := 0) hx hb dX4_fraction_172 (by decide) ?_
                            refine lv_istore (lv' := [(14, .int (0 : Int32)), (11, .long z17), (13, .int (1 : Int32)), (9, .long r1), (0, .ref (bd 0)), (1, .long run0), (3, .int p0), (4, .int c0), (5, .long a0), (7, .long b0)]) hx hb dX4_fraction_173 hl (by decide) rfl (fun ls hl => ?_)
                            refine lv_iload hx hb dX4_fraction_175 (lv_at hl 0 rfl) ?_
                            refine lv_if_eq (tgt := 191) hx hb dX4_fraction_177 (by decide) (fun c177 => ?_) (fun c177 => ?_)
                            · skip
                              refine lv_ldc2 (v := 2) hx hb hown (hts (.constantLong RX4 126 (2)) (by decide +kernel)) dX4_fraction_191 ?_
                              refine lv_lload hx hb dX4_fraction_194 (lv_at hl 3 rfl) ?_
                              refine lv_lmul hx hb dX4_fraction_196 ?_
                              refine lv_topl (fun z19 ez19 => ?_)
                              refine lv_lstore (lv' := [(9, .long z19), (14, .int (0 : Int32)), (11, .long z17), (13, .int (1 : Int32)), (0, .ref (bd 0)), (1, .long run0), (3, .int p0), (4, .int c0), (5, .long a0), (7, .long b0)]) hx hb dX4_fraction_197 hl (by decide) rfl (fun ls hl => ?_)
                              refine lv_iload hx hb dX4_fraction_199 (lv_at hl 3 rfl) ?_
                              refine lv_iload hx hb dX4_fraction_201 (lv_at hl 1 rfl) ?_
                              refine lv_icmp_eq (tgt := 217) hx hb dX4_fraction_203 (by decide) (fun c203 => ?_) (fun c203 => ?_)
                              · skip
                                exact absurd c203 (by decide)
                              · skip
                                refine lv_iload hx hb dX4_fraction_206 (lv_at hl 1 rfl) ?_
                                refine lv_if_eq (tgt := 215) hx hb dX4_fraction_208 (by decide) (fun c208 => ?_) (fun c208 => ?_)
                                · skip
                                  refine lv_iconst (v := 0) hx hb dX4_fraction_215 (by decide) ?_
                                  exact nk_retI (g := _) z18 hx hb hr hlocks hP hD hS dX4_fraction_216 (by subst htr; subst ez12; subst ez17; subst ez18; subst ez19; rw [← ht]; exact ((if_pos c100).trans ((if_neg c131).trans (if_pos c165))))
                                · skip
                                  exact absurd c208 (by decide)
                            · skip
                              exact absurd c177 (by decide)
                          · skip
                            have c165 : ¬ (r1 < (b0 - r1)) := fun h => c165 ((lg_cmp_lt _ _).mpr h)
                            refine lv_iconst (v := 1) hx hb dX4_fraction_168 (by decide) ?_
                            refine lv_goto (tgt := 173) hx hb dX4_fraction_169 (by decide) ?_
                            refine lv_istore (lv' := [(14, .int (1 : Int32)), (11, .long z17), (13, .int (1 : Int32)), (9, .long r1), (0, .ref (bd 0)), (1, .long run0), (3, .int p0), (4, .int c0), (5, .long a0), (7, .long b0)]) hx hb dX4_fraction_173 hl (by decide) rfl (fun ls hl => ?_)
                            refine lv_iload hx hb dX4_fraction_175 (lv_at hl 0 rfl) ?_
                            refine lv_if_eq (tgt := 191) hx hb dX4_fraction_177 (by decide) (fun c177 => ?_) (fun c177 => ?_)
                            · skip
                              exact absurd c177 (by decide)
                            · skip
                              refine lv_lload hx hb dX4_fraction_180 (lv_at hl 3 rfl) ?_
                              refine lv_lload hx hb dX4_fraction_182 (lv_at hl 9 rfl) ?_
                              refine lv_lload hx hb dX4_fraction_184 (lv_at hl 3 rfl) ?_
                              refine lv_lsub hx hb dX4_fraction_186 ?_
                              refine lv_lsub hx hb dX4_fraction_187 ?_
                              refine lv_goto (tgt := 197) hx hb dX4_fraction_188 (by decide) ?_
                              refine lv_topl (fun z20 ez20 => ?_)
                              refine lv_lstore (lv' := [(9, .long z20), (14, .int (1 : Int32)), (11, .long z17), (13, .int (1 : Int32)), (0, .ref (bd 0)), (1, .long run0), (3, .int p0), (4, .int c0), (5, .long a0), (7, .long b0)]) hx hb dX4_fraction_197 hl (by decide) rfl (fun ls hl => ?_)
                              refine lv_iload hx hb dX4_fraction_199 (lv_at hl 3 rfl) ?_
                              refine lv_iload hx hb dX4_fraction_201 (lv_at hl 1 rfl) ?_
                              refine lv_icmp_eq (tgt := 217) hx hb dX4_fraction_203 (by decide) (fun c203 => ?_) (fun c203 => ?_)
                              · skip
                                refine lv_lload hx hb dX4_fraction_217 (lv_at hl 0 rfl) ?_
                                refine lv_lconst (v := 0) hx hb dX4_fraction_219 (by decide) ?_
                                refine W.lcmp hx hb dX4_fraction_220 ?_
                                refine lv_if_ne (tgt := 226) hx hb dX4_fraction_221 (by decide) (fun c221 => ?_) (fun c221 => ?_)
                                · skip
                                  have c221 : ¬ (z20 = (0 : Int64)) := fun h => c221 ((lg_cmp_eq _ _).mpr h)
                                  refine lv_goto (tgt := 83) hx hb dX4_fraction_226 (by decide) ?_
                                  exact ih83 z20 z17 z18 _ _ _ (Nat.le_of_succ_le hk) (ns_step htr hk ez18) (by subst htr; subst ez12; subst ez17; subst ez20; rw [← ht, mFrL, if_pos c100]; exact ((if_neg c131).trans ((if_neg c165).trans (if_neg c221))).symm) hP hD hS (lv_sub hl [2, 0, 4, 5, 6, 7, 8, 9] rfl)
                                · skip
                                  have c221 : z20 = (0 : Int64) := (lg_cmp_eq _ _).mp c221
                                  refine lv_iconst (v := 0) hx hb dX4_fraction_224 (by decide) ?_
                                  exact nk_retI (g := _) z18 hx hb hr hlocks hP hD hS dX4_fraction_225 (by subst htr; subst ez12; subst ez17; subst ez18; subst ez20; rw [← ht]; exact ((if_pos c100).trans ((if_neg c131).trans ((if_neg c165).trans (if_pos c221)))))
                              · skip
                                exact absurd c203 (by decide)
                exact lp83 2048 a0 (0 : Int64) (0 : Int32) _ _ _ (Nat.le_refl 2048) (by decide) (by exact ((if_neg c5).trans ((if_neg c10).trans ((if_neg c17).trans ((if_neg c28).trans ((if_neg c37).trans ((if_neg c52).trans (if_neg c60))))))).symm) hP hD hS (lv_sub hl [0, 1, 2, 3, 4, 5, 6, 7] rfl)
              · skip
                have c60 : a0 = b0 := (lg_cmp_eq _ _).mp c60
                refine lv_lload hx hb dX4_fraction_63 (lv_at hl 4 rfl) ?_
                refine lv_lconst (v := 0) hx hb dX4_fraction_65 (by decide) ?_
                refine W.lcmp hx hb dX4_fraction_66 ?_
                refine lv_if_ne (tgt := 74) hx hb dX4_fraction_67 (by decide) (fun c67 => ?_) (fun c67 => ?_)
                · skip
                  have c67 : ¬ (a0 = (0 : Int64)) := fun h => c67 ((lg_cmp_eq _ _).mpr h)
                  refine lv_iconst (v := 1) hx hb dX4_fraction_74 (by decide) ?_
                  exact nk_retI (g := _) (0 : Int32) hx hb hr hlocks hP hD hS dX4_fraction_75 (by first | exact (if_neg c5).trans ((if_neg c10).trans ((if_neg c17).trans ((if_neg c28).trans ((if_neg c37).trans (if_pos c67))))) | exact (if_neg c5).trans ((if_neg c10).trans ((if_neg c17).trans ((if_neg c28).trans ((if_neg c37).trans ((if_neg c67).trans (if_pos c60))))))| exact absurd c52 c67 | exact absurd c67 c52)
                · skip
                  have c67 : a0 = (0 : Int64) := (lg_cmp_eq _ _).mp c67
                  refine lv_iconst (v := 0) hx hb dX4_fraction_70 (by decide) ?_
                  refine lv_goto (tgt := 75) hx hb dX4_fraction_71 (by decide) ?_
                  exact nk_retI (g := _) (0 : Int32) hx hb hr hlocks hP hD hS dX4_fraction_75 (by first | exact (if_neg c5).trans ((if_neg c10).trans ((if_neg c17).trans ((if_neg c28).trans ((if_neg c37).trans (if_pos c67))))) | exact (if_neg c5).trans ((if_neg c10).trans ((if_neg c17).trans ((if_neg c28).trans ((if_neg c37).trans ((if_neg c67).trans (if_pos c60))))))| exact absurd c52 c67 | exact absurd c67 c52)
          · skip
            have c37 : b0 = (0 : Int64) := (lg_cmp_eq _ _).mp c37
            refine lv_bipush (v := -4) hx hb dX4_fraction_40 (by decide) ?_
            exact nk_retI (g := _) tr hx hb hr hlocks hP hD hS dX4_fraction_42 (by exact ((if_neg c5).trans ((if_neg c10).trans ((if_neg c17).trans ((if_neg c28).trans (if_pos c37))))))
        · skip
          refine lv_iconst (v := -1) hx hb dX4_fraction_31 (by decide) ?_
          exact nk_retI (g := _) tr hx hb hr hlocks hP hD hS dX4_fraction_32 (by exact ((if_neg c5).trans ((if_neg c10).trans ((if_neg c17).trans (if_pos c28)))))

set_option maxHeartbeats 800000 in
set_option maxRecDepth 100000 in
theorem mX4_weight (l : Launch) (D : va_G) (bd : Nat → Nat) (cb : Nat → ClassId) (sd : Int64) (pz : Int32) (tc : Int32) (st : Int32) (tr : Int32) (sc : Int32) (gr : Int32) (P : Nat → Int64) (Mn : Nat → Int32) (T : Nat → Int64) (Wt : Nat → Int64) (Rn : Nat → Int64) (Po : Nat → Int32) (Pl : Nat → Int32) (Sp : Nat → Int32) (Ks : Nat → Int32) (Kp : Nat → Int32) (Kc : Nat → Int32) (Ik : Nat → Int32) (O : Nat → Int32) (As : Nat → Int64) (X : va_W) (k0 : Int32) (w0 : Int64) : nkMI l yX4_weight wsX4_weight ({ frames := 1, cells := 0, slots := 0, locals := 25 }) D (tM cb) [.ref (bd 0), .int k0, .long w0] (wM bd cb sd pz tc st tr sc gr P Mn T Wt Rn Po Pl Sp Ks Kp Kc Ik O As X) (fun u : Nat → Int64 => wM bd cb sd pz tc st tr sc gr P Mn T u Rn Po Pl Sp Ks Kp Kc Ik O As X) (fun r u => mWeight Wt k0 w0 = (r, u)) 0 0 := by
  refine nk_ofM (Qf := fun A => va_Qi (fun r u => mWeight Wt k0 w0 = (r, u)) (nkB D A (fun u : Nat → Int64 => wM bd cb sd pz tc st tr sc gr P Mn T u Rn Po Pl Sp Ks Kp Kc Ik O As X)) A) (cc := cX4_weight) (maxL := 4) (ret := (some .int)) (by decide) rfl (Nat.le_of_ble_eq_true rfl) ?_
  intro p e s m below meth c A hx hb hr hml hts hown hlocks hin hK hP hD hA hS ls hl
  replace hown : s.vm.findClass RX4 = some m.cls := hown
  replace hl : lv_has ls 4 [(0, .ref (bd 0)), (1, .int k0), (2, .long w0)] := hl
  have hP : va_P D vwCl (wM bd cb sd pz tc st tr sc gr P Mn T Wt Rn Po Pl Sp Ks Kp Kc Ik O As X) s.heap := hP
  have iX4 : ∀ w ∈ u_ws RX4 TX4 21, w ∈ wsX4_weight := by decide +kernel
  refine lv_iload_n hx hb dX4_weight_0 rfl (lv_at hl 1 rfl) ?_
  refine lv_i2l hx hb dX4_weight_1 rfl ?_
  refine lv_lconst (v := 0) hx hb dX4_weight_2 (by decide) ?_
  refine lv_ldc2 (v := 9) hx hb hown (hts (.constantLong RX4 128 (9)) (by decide +kernel)) dX4_weight_3 ?_
  refine nk_SSI (As := [.long (Int32.toInt64 k0), .long (0 : Int64), .long (9 : Int64)]) (rest := []) ⟨hx, hb, hml, hown, hts⟩ (mX4_in l (Int32.toInt64 k0) (0 : Int64) (9 : Int64)) (va_cwS 3 hts gX4_weight_X4_in rfl rfl rfl (by decide +kernel) ⟨Nat.le_of_ble_eq_true rfl, Nat.le_of_ble_eq_true rfl⟩) rfl hl.1 rfl (Nat.le_of_ble_eq_true rfl) dX4_weight_6 ⟨Nat.le_of_ble_eq_true rfl, Nat.le_of_ble_eq_true rfl⟩ (fun r1 hr1 => ?_)
  subst hr1
  refine lv_if_eq (tgt := 18) hx hb dX4_weight_9 (by decide) (fun c9 => ?_) (fun c9 => ?_)
  · skip
    refine lv_iconst (v := -1) hx hb dX4_weight_18 (by decide) ?_
    exact nk_retI (g := _) Wt hx hb hr hlocks hP hD hS dX4_weight_19 (by exact (if_pos c9))
  · skip
    refine lv_lload_n hx hb dX4_weight_12 rfl (lv_at hl 2 rfl) ?_
    refine lv_lconst (v := 0) hx hb dX4_weight_13 (by decide) ?_
    refine W.lcmp hx hb dX4_weight_14 ?_
    refine lv_if_ge (tgt := 20) hx hb dX4_weight_15 (by decide) (fun c15 => ?_) (fun c15 => ?_)
    · skip
      have c15 : (0 : Int64) ≤ w0 := (lg_cmp_ge _ _).mp c15
      refine lv_aload_n hx hb dX4_weight_20 rfl (lv_at hl 0 rfl) ?_
      refine va_get (D := D) (ci := 4) (v := .ref (bd 4)) (C := RX4) (T := TX4) (N := 21) hx hb hts iX4 hown hK.1 hP 0 rfl rfl 8 (by decide) (hts (.fieldLink RX4 20 "NamedStreamsModel" "weights" "[J") (by decide +kernel)) (fun _ h9 => h9) rfl dX4_weight_21 ?_
      refine lv_iload_n hx hb dX4_weight_24 rfl (lv_at hl 1 rfl) ?_
      refine lv_lload_n hx hb dX4_weight_25 rfl (lv_at hl 2 rfl) ?_
      refine va_last hx hb hK.1 hP hD hS 4 3 rfl rfl (mIn_in c9 (by decide)) dX4_weight_26 (fun H locs hP hD hS => ?_)
      have hP : va_P D vwCl (wM bd cb sd pz tc st tr sc gr P Mn T (vp_updL Wt (Int32.toNatClampNeg k0) w0) Rn Po Pl Sp Ks Kp Kc Ik O As X) H := hP
      have hD : va_D A (wM bd cb sd pz tc st tr sc gr P Mn T (vp_updL Wt (Int32.toNatClampNeg k0) w0) Rn Po Pl Sp Ks Kp Kc Ik O As X) := hD
      refine lv_iconst (v := 1) hx hb dX4_weight_27 (by decide) ?_
      exact nk_retI (g := _) (vp_updL Wt (Int32.toNatClampNeg k0) w0) hx hb hr hlocks hP hD hS dX4_weight_28 (by exact ((if_neg c9).trans (if_pos c15)))
    · skip
      have c15 : ¬ ((0 : Int64) ≤ w0) := fun h => c15 ((lg_cmp_ge _ _).mpr h)
      refine lv_iconst (v := -1) hx hb dX4_weight_18 (by decide) ?_
      exact nk_retI (g := _) Wt hx hb hr hlocks hP hD hS dX4_weight_19 (by exact ((if_neg c9).trans (if_neg c15)))

set_option maxHeartbeats 800000 in
set_option maxRecDepth 100000 in
theorem mX4_sum (l : Launch) (D : va_G) (bd : Nat → Nat) (cb : Nat → ClassId) (sd : Int64) (pz : Int32) (tc : Int32) (st : Int32) (tr : Int32) (sc : Int32) (gr : Int32) (P : Nat → Int64) (Mn : Nat → Int32) (T : Nat → Int64) (Wt : Nat → Int64) (Rn : Nat → Int64) (Po : Nat → Int32) (Pl : Nat → Int32) (Sp : Nat → Int32) (Ks : Nat → Int32) (Kp : Nat → Int32) (Kc : Nat → Int32) (Ik : Nat → Int32) (O : Nat → Int32) (As : Nat → Int64) (X : va_W) : nkML l yX4_sum wsX4_sum ({ frames := 0, cells := 0, slots := 0, locals := 0 }) D (tM cb) [.ref (bd 0)] (wM bd cb sd pz tc st tr sc gr P Mn T Wt Rn Po Pl Sp Ks Kp Kc Ik O As X) (fun u : Int32 => wM bd cb sd pz tc st tr sc u P Mn T Wt Rn Po Pl Sp Ks Kp Kc Ik O As X) (fun r u => mSum Wt = (r, u)) 0 0 := by
  refine nk_ofM (Qf := fun A => va_Ql (fun r u => mSum Wt = (r, u)) (nkB D A (fun u : Int32 => wM bd cb sd pz tc st tr sc u P Mn T Wt Rn Po Pl Sp Ks Kp Kc Ik O As X)) A) (cc := cX4_sum) (maxL := 4) (ret := (some .long)) (by decide) rfl (Nat.le_of_ble_eq_true rfl) ?_
  intro p e s m below meth c A hx hb hr hml hts hown hlocks hin hK hP hD hA hS ls hl
  replace hown : s.vm.findClass RX4 = some m.cls := hown
  replace hl : lv_has ls 4 [(0, .ref (bd 0))] := hl
  have hP : va_P D vwCl (wM bd cb sd pz tc st tr sc gr P Mn T Wt Rn Po Pl Sp Ks Kp Kc Ik O As X) s.heap := hP
  have iX4 : ∀ w ∈ u_ws RX4 TX4 21, w ∈ wsX4_sum := by decide +kernel
  refine lv_lconst (v := 0) hx hb dX4_sum_0 (by decide) ?_
  refine lv_lstore_n (lv' := [(1, .long (0 : Int64)), (0, .ref (bd 0))]) hx hb dX4_sum_1 rfl hl (by decide) rfl (fun ls hl => ?_)
  refine lv_aload_n hx hb dX4_sum_2 rfl (lv_at hl 1 rfl) ?_
  refine lv_iconst (v := 0) hx hb dX4_sum_3 (by decide) ?_
  refine va_put (D := D) (ci := 4) (v := .int (0 : Int32)) (ty := .boolean) (C := RX4) (T := TX4) (N := 21) hx hb hts iX4 tyX4 tyX4_ok nmX4 hown hK.1 hP hD hS 0 rfl rfl 18 (by decide) (hts (.fieldLink RX4 130 "NamedStreamsModel" "isGreat" "Z") (by decide +kernel)) (fun _ h9 => h9) rfl (by decide +kernel) rfl rfl (Nat.le_of_ble_eq_true rfl) dX4_sum_4 (fun H locs hP hD hS => ?_)
  have hP : va_P D vwCl (wM bd cb sd pz tc st tr sc (0 : Int32) P Mn T Wt Rn Po Pl Sp Ks Kp Kc Ik O As X) H := hP
  have hD : va_D A (wM bd cb sd pz tc st tr sc (0 : Int32) P Mn T Wt Rn Po Pl Sp Ks Kp Kc Ik O As X) := hD
  refine lv_iconst (v := 0) hx hb dX4_sum_7 (by decide) ?_
  refine lv_istore_n (lv' := [(3, .int (0 : Int32)), (1, .long (0 : Int64)), (0, .ref (bd 0))]) hx hb dX4_sum_8 rfl hl (by decide) rfl (fun ls hl => ?_)
  have lp9 : ∀ (k : Nat) (i : Int32) (s1 : Int64) (gr1 : Int32) (H : Heap) (locs : List Loc) (ls : Array Slot), (k ≤ 10) → (i = nI (10 - k)) → (mSumL Wt k gr1 s1 = mSum Wt) → va_P D vwCl (wM bd cb sd pz tc st tr sc gr1 P Mn T Wt Rn Po Pl Sp Ks Kp Kc Ik O As X) H → va_D A (wM bd cb sd pz tc st tr sc gr1 P Mn T Wt Rn Po Pl Sp Ks Kp Kc Ik O As X) → va_S A s.heap H locs → lv_has ls 4 [(3, .int i), (1, .long s1), (0, .ref (bd 0))] → W p l e ({ frames := 0, cells := 0, slots := 0, locals := 0 } : Room) s m ([.ref (bd 0)] : List Value).toArray below meth c H locs 0 0 (MQ below (va_Ql (fun r u => mSum Wt = (r, u)) (nkB D A (fun u : Int32 => wM bd cb sd pz tc st tr sc u P Mn T Wt Rn Po Pl Sp Ks Kp Kc Ik O As X)) A) ([.ref (bd 0)] : List Value).toArray s 0 0 A) (F0 m 9 ls []) := by
    intro k
    induction k with
    | zero =>
      intro i s1 gr1 H locs ls hk hi ht hP hD hS hl
      refine lv_iload_n hx hb dX4_sum_9 rfl (lv_at hl 0 rfl) ?_
      refine lv_bipush (v := 10) hx hb dX4_sum_10 (by decide) ?_
      refine lv_icmp_ge (tgt := 70) hx hb dX4_sum_12 (by decide) (fun c12 => ?_) (fun c12 => ?_)
      · skip
        refine lv_lload_n hx hb dX4_sum_70 rfl (lv_at hl 1 rfl) ?_
        exact nk_retL (g := _) gr1 hx hb hr hlocks hP hD hS dX4_sum_71 (by rw [← ht]; rfl)
      · skip
        exact absurd (by rw [hi]; decide) c12
    | succ k ih9 =>
      intro i s1 gr1 H locs ls hk hi ht hP hD hS hl
      refine lv_iload_n hx hb dX4_sum_9 rfl (lv_at hl 0 rfl) ?_
      refine lv_bipush (v := 10) hx hb dX4_sum_10 (by decide) ?_
      refine lv_icmp_ge (tgt := 70) hx hb dX4_sum_12 (by decide) (fun c12 => ?_) (fun c12 => ?_)
      · skip
        exact absurd c12 (Int32.not_le.mpr (by rw [hi]; exact ns_nI_lt (n := 10) rfl (by omega) (by decide)))
      · skip
        refine lv_aload_n hx hb dX4_sum_15 rfl (lv_at hl 2 rfl) ?_
        refine lv_aload_n hx hb dX4_sum_16 rfl (lv_at hl 2 rfl) ?_
        refine va_get (D := D) (ci := 4) (v := .int gr1) (C := RX4) (T := TX4) (N := 21) hx hb hts iX4 hown hK.1 hP 0 rfl rfl 18 (by decide) (hts (.fieldLink RX4 130 "NamedStreamsModel" "isGreat" "Z") (by decide +kernel)) (fun _ h9 => h9) rfl dX4_sum_17 ?_
        refine lv_if_ne (tgt := 36) hx hb dX4_sum_20 (by decide) (fun c20 => ?_) (fun c20 => ?_)
        · skip
          refine lv_iconst (v := 1) hx hb dX4_sum_36 (by decide) ?_
          refine lv_goto (tgt := 41) hx hb dX4_sum_37 (by decide) ?_
          refine va_put (D := D) (ci := 4) (v := .int (1 : Int32)) (ty := .boolean) (C := RX4) (T := TX4) (N := 21) hx hb hts iX4 tyX4 tyX4_ok nmX4 hown hK.1 hP hD hS 0 rfl rfl 18 (by decide) (hts (.fieldLink RX4 130 "NamedStreamsModel" "isGreat" "Z") (by decide +kernel)) (fun _ h9 => h9) rfl (by decide +kernel) rfl rfl (Nat.le_of_ble_eq_true rfl) dX4_sum_41 (fun H locs hP hD hS => ?_)
          have hP : va_P D vwCl (wM bd cb sd pz tc st tr sc (1 : Int32) P Mn T Wt Rn Po Pl Sp Ks Kp Kc Ik O As X) H := hP
          have hD : va_D A (wM bd cb sd pz tc st tr sc (1 : Int32) P Mn T Wt Rn Po Pl Sp Ks Kp Kc Ik O As X) := hD
          refine lv_aload_n hx hb dX4_sum_44 rfl (lv_at hl 2 rfl) ?_
          refine va_get (D := D) (ci := 4) (v := .int (1 : Int32)) (C := RX4) (T := TX4) (N := 21) hx hb hts iX4 hown hK.1 hP 0 rfl rfl 18 (by decide) (hts (.fieldLink RX4 130 "NamedStreamsModel" "isGreat" "Z") (by decide +kernel)) (fun _ h9 => h9) rfl dX4_sum_45 ?_
          refine lv_if_eq (tgt := 55) hx hb dX4_sum_48 (by decide) (fun c48 => ?_) (fun c48 => ?_)
          · skip
            exact absurd c48 (by decide)
          · skip
            refine lv_lconst (v := 0) hx hb dX4_sum_51 (by decide) ?_
            refine lv_goto (tgt := 63) hx hb dX4_sum_52 (by decide) ?_
            refine lv_lstore_n (lv' := [(1, .long (0 : Int64)), (3, .int i), (0, .ref (bd 0))]) hx hb dX4_sum_63 rfl hl (by decide) rfl (fun ls hl => ?_)
            obtain ⟨i1, ei1⟩ : ∃ y : Int32, y = i + 1 := ⟨_, rfl⟩
            refine lv_iinc (v := i1) (lv' := [(3, .int i1), (1, .long (0 : Int64)), (0, .ref (bd 0))]) hx hb dX4_sum_64 hl (k := 1) rfl (by rw [ei1]; rfl) (by decide) rfl (fun ls hl => ?_)
            refine lv_goto (tgt := 9) hx hb dX4_sum_67 (by decide) ?_
            exact ih9 i1 (0 : Int64) (1 : Int32) _ _ _ (Nat.le_of_succ_le hk) (ns_step hi hk ei1) (by subst hi; rw [← ht, mSumL, if_neg c20]) hP hD hS (lv_sub hl [0, 1, 2] rfl)
        · skip
          refine lv_lload_n hx hb dX4_sum_23 rfl (lv_at hl 1 rfl) ?_
          refine lv_aload_n hx hb dX4_sum_24 rfl (lv_at hl 2 rfl) ?_
          refine va_get (D := D) (ci := 4) (v := .ref (bd 4)) (C := RX4) (T := TX4) (N := 21) hx hb hts iX4 hown hK.1 hP 0 rfl rfl 8 (by decide) (hts (.fieldLink RX4 20 "NamedStreamsModel" "weights" "[J") (by decide +kernel)) (fun _ h9 => h9) rfl dX4_sum_25 ?_
          refine lv_iload_n hx hb dX4_sum_28 rfl (lv_at hl 0 rfl) ?_
          refine va_lald hx hb hK.1 hP 4 3 rfl rfl (by rw [hi]; exact vp_in_nI (by omega) (by decide)) dX4_sum_29 ?_
          refine lv_ladd hx hb dX4_sum_30 ?_
          refine lv_lconst (v := 0) hx hb dX4_sum_31 (by decide) ?_
          refine W.lcmp hx hb dX4_sum_32 ?_
          refine lv_if_ge (tgt := 40) hx hb dX4_sum_33 (by decide) (fun c33 => ?_) (fun c33 => ?_)
          · skip
            have c33 : (0 : Int64) ≤ (s1 + (Wt (Int32.toNatClampNeg i))) := (lg_cmp_ge _ _).mp c33
            refine lv_iconst (v := 0) hx hb dX4_sum_40 (by decide) ?_
            refine va_put (D := D) (ci := 4) (v := .int (0 : Int32)) (ty := .boolean) (C := RX4) (T := TX4) (N := 21) hx hb hts iX4 tyX4 tyX4_ok nmX4 hown hK.1 hP hD hS 0 rfl rfl 18 (by decide) (hts (.fieldLink RX4 130 "NamedStreamsModel" "isGreat" "Z") (by decide +kernel)) (fun _ h9 => h9) rfl (by decide +kernel) rfl rfl (Nat.le_of_ble_eq_true rfl) dX4_sum_41 (fun H locs hP hD hS => ?_)
            have hP : va_P D vwCl (wM bd cb sd pz tc st tr sc (0 : Int32) P Mn T Wt Rn Po Pl Sp Ks Kp Kc Ik O As X) H := hP
            have hD : va_D A (wM bd cb sd pz tc st tr sc (0 : Int32) P Mn T Wt Rn Po Pl Sp Ks Kp Kc Ik O As X) := hD
            refine lv_aload_n hx hb dX4_sum_44 rfl (lv_at hl 2 rfl) ?_
            refine va_get (D := D) (ci := 4) (v := .int (0 : Int32)) (C := RX4) (T := TX4) (N := 21) hx hb hts iX4 hown hK.1 hP 0 rfl rfl 18 (by decide) (hts (.fieldLink RX4 130 "NamedStreamsModel" "isGreat" "Z") (by decide +kernel)) (fun _ h9 => h9) rfl dX4_sum_45 ?_
            refine lv_if_eq (tgt := 55) hx hb dX4_sum_48 (by decide) (fun c48 => ?_) (fun c48 => ?_)
            · skip
              refine lv_lload_n hx hb dX4_sum_55 rfl (lv_at hl 1 rfl) ?_
              refine lv_aload_n hx hb dX4_sum_56 rfl (lv_at hl 2 rfl) ?_
              refine va_get (D := D) (ci := 4) (v := .ref (bd 4)) (C := RX4) (T := TX4) (N := 21) hx hb hts iX4 hown hK.1 hP 0 rfl rfl 8 (by decide) (hts (.fieldLink RX4 20 "NamedStreamsModel" "weights" "[J") (by decide +kernel)) (fun _ h9 => h9) rfl dX4_sum_57 ?_
              refine lv_iload_n hx hb dX4_sum_60 rfl (lv_at hl 0 rfl) ?_
              refine va_lald hx hb hK.1 hP 4 3 rfl rfl (by rw [hi]; exact vp_in_nI (by omega) (by decide)) dX4_sum_61 ?_
              refine lv_ladd hx hb dX4_sum_62 ?_
              refine lv_topl (fun z2 ez2 => ?_)
              refine lv_lstore_n (lv' := [(1, .long z2), (3, .int i), (0, .ref (bd 0))]) hx hb dX4_sum_63 rfl hl (by decide) rfl (fun ls hl => ?_)
              obtain ⟨i3, ei3⟩ : ∃ y : Int32, y = i + 1 := ⟨_, rfl⟩
              refine lv_iinc (v := i3) (lv' := [(3, .int i3), (1, .long z2), (0, .ref (bd 0))]) hx hb dX4_sum_64 hl (k := 1) rfl (by rw [ei3]; rfl) (by decide) rfl (fun ls hl => ?_)
              refine lv_goto (tgt := 9) hx hb dX4_sum_67 (by decide) ?_
              exact ih9 i3 z2 (0 : Int32) _ _ _ (Nat.le_of_succ_le hk) (ns_step hi hk ei3) (by subst hi; subst ez2; rw [← ht, mSumL, if_pos c20, if_pos c33]) hP hD hS (lv_sub hl [0, 1, 2] rfl)
            · skip
              exact absurd c48 (by decide)
          · skip
            have c33 : ¬ ((0 : Int64) ≤ (s1 + (Wt (Int32.toNatClampNeg i)))) := fun h => c33 ((lg_cmp_ge _ _).mpr h)
            refine lv_iconst (v := 1) hx hb dX4_sum_36 (by decide) ?_
            refine lv_goto (tgt := 41) hx hb dX4_sum_37 (by decide) ?_
            refine va_put (D := D) (ci := 4) (v := .int (1 : Int32)) (ty := .boolean) (C := RX4) (T := TX4) (N := 21) hx hb hts iX4 tyX4 tyX4_ok nmX4 hown hK.1 hP hD hS 0 rfl rfl 18 (by decide) (hts (.fieldLink RX4 130 "NamedStreamsModel" "isGreat" "Z") (by decide +kernel)) (fun _ h9 => h9) rfl (by decide +kernel) rfl rfl (Nat.le_of_ble_eq_true rfl) dX4_sum_41 (fun H locs hP hD hS => ?_)
            have hP : va_P D vwCl (wM bd cb sd pz tc st tr sc (1 : Int32) P Mn T Wt Rn Po Pl Sp Ks Kp Kc Ik O As X) H := hP
            have hD : va_D A (wM bd cb sd pz tc st tr sc (1 : Int32) P Mn T Wt Rn Po Pl Sp Ks Kp Kc Ik O As X) := hD
            refine lv_aload_n hx hb dX4_sum_44 rfl (lv_at hl 2 rfl) ?_
            refine va_get (D := D) (ci := 4) (v := .int (1 : Int32)) (C := RX4) (T := TX4) (N := 21) hx hb hts iX4 hown hK.1 hP 0 rfl rfl 18 (by decide) (hts (.fieldLink RX4 130 "NamedStreamsModel" "isGreat" "Z") (by decide +kernel)) (fun _ h9 => h9) rfl dX4_sum_45 ?_
            refine lv_if_eq (tgt := 55) hx hb dX4_sum_48 (by decide) (fun c48 => ?_) (fun c48 => ?_)
            · skip
              exact absurd c48 (by decide)
            · skip
              refine lv_lconst (v := 0) hx hb dX4_sum_51 (by decide) ?_
              refine lv_goto (tgt := 63) hx hb dX4_sum_52 (by decide) ?_
              refine lv_lstore_n (lv' := [(1, .long (0 : Int64)), (3, .int i), (0, .ref (bd 0))]) hx hb dX4_sum_63 rfl hl (by decide) rfl (fun ls hl => ?_)
              obtain ⟨i4, ei4⟩ : ∃ y : Int32, y = i + 1 := ⟨_, rfl⟩
              refine lv_iinc (v := i4) (lv' := [(3, .int i4), (1, .long (0 : Int64)), (0, .ref (bd 0))]) hx hb dX4_sum_64 hl (k := 1) rfl (by rw [ei4]; rfl) (by decide) rfl (fun ls hl => ?_)
              refine lv_goto (tgt := 9) hx hb dX4_sum_67 (by decide) ?_
              exact ih9 i4 (0 : Int64) (1 : Int32) _ _ _ (Nat.le_of_succ_le hk) (ns_step hi hk ei4) (by subst hi; rw [← ht, mSumL, if_pos c20, if_neg c33]) hP hD hS (lv_sub hl [0, 1, 2] rfl)
  exact lp9 10 (0 : Int32) (0 : Int64) (0 : Int32) _ _ _ (Nat.le_refl 10) (by decide) rfl hP hD hS (lv_sub hl [0, 1, 2] rfl)

set_option maxHeartbeats 800000 in
set_option maxRecDepth 100000 in
theorem mX4_picked (l : Launch) (D : va_G) (bd : Nat → Nat) (cb : Nat → ClassId) (sd : Int64) (pz : Int32) (tc : Int32) (st : Int32) (tr : Int32) (sc : Int32) (gr : Int32) (P : Nat → Int64) (Mn : Nat → Int32) (T : Nat → Int64) (Wt : Nat → Int64) (Rn : Nat → Int64) (Po : Nat → Int32) (Pl : Nat → Int32) (Sp : Nat → Int32) (Ks : Nat → Int32) (Kp : Nat → Int32) (Kc : Nat → Int32) (Ik : Nat → Int32) (O : Nat → Int32) (As : Nat → Int64) (X : va_W) (run0 : Int64) (p0 c0 : Int32) (n0 : Int64) (hp0 : vp_in p0 24) (hl0 : vp_in (Mn p0.toNatClampNeg) 5) (hn0 : ¬ n0 = 0) (hEx : 0 ≤ (mSpan (fBase sd run0 (mKey P Mn p0)) (32 * Int32.toInt64 c0) n0 tr).1 → ∃ j, j ≤ 9 ∧ (mSpan (fBase sd run0 (mKey P Mn p0)) (32 * Int32.toInt64 c0) n0 tr).1 < mPref Wt j) : nkMI l yX4_picked wsX4_picked ({ frames := 4, cells := 0, slots := 0, locals := 105 }) D (tM cb) [.ref (bd 0), .long run0, .int p0, .int c0, .long n0] (wM bd cb sd pz tc st tr sc gr P Mn T Wt Rn Po Pl Sp Ks Kp Kc Ik O As X) (fun u : Int32 => wM bd cb sd pz tc st u sc gr P Mn T Wt Rn Po Pl Sp Ks Kp Kc Ik O As X) (fun r u => mPicked (fBase sd run0 (mKey P Mn p0)) (32 * Int32.toInt64 c0) n0 Wt tr = (r, u)) 0 0 := by
  refine nk_ofM (Qf := fun A => va_Qi (fun r u => mPicked (fBase sd run0 (mKey P Mn p0)) (32 * Int32.toInt64 c0) n0 Wt tr = (r, u)) (nkB D A (fun u : Int32 => wM bd cb sd pz tc st u sc gr P Mn T Wt Rn Po Pl Sp Ks Kp Kc Ik O As X)) A) (cc := cX4_picked) (maxL := 12) (ret := (some .int)) (by decide) rfl (Nat.le_of_ble_eq_true rfl) ?_
  intro p e s m below meth c A hx hb hr hml hts hown hlocks hin hK hP hD hA hS ls hl
  replace hown : s.vm.findClass RX4 = some m.cls := hown
  replace hl : lv_has ls 12 [(0, .ref (bd 0)), (1, .long run0), (3, .int p0), (4, .int c0), (5, .long n0)] := hl
  have hP : va_P D vwCl (wM bd cb sd pz tc st tr sc gr P Mn T Wt Rn Po Pl Sp Ks Kp Kc Ik O As X) s.heap := hP
  have iX4 : ∀ w ∈ u_ws RX4 TX4 21, w ∈ wsX4_picked := by decide +kernel
  refine lv_aload_n hx hb dX4_picked_0 rfl (lv_at hl 0 rfl) ?_
  refine lv_lload_n hx hb dX4_picked_1 rfl (lv_at hl 1 rfl) ?_
  refine lv_iload_n hx hb dX4_picked_2 rfl (lv_at hl 2 rfl) ?_
  refine lv_iload hx hb dX4_picked_3 (lv_at hl 3 rfl) ?_
  refine lv_lload hx hb dX4_picked_5 (lv_at hl 4 rfl) ?_
  refine nk_VL (As := [.long run0, .int p0, .int c0, .long n0]) (rest := []) ⟨hx, hb, hml, hown, hts⟩ (mX4_draw l D bd cb sd pz tc st tr sc gr P Mn T Wt Rn Po Pl Sp Ks Kp Kc Ik O As X run0 p0 c0 n0 hp0 hl0 hn0) (cwV 4 hts gX4_picked_X4_draw rfl rfl rfl (by decide +kernel) ⟨Nat.le_of_ble_eq_true rfl, Nat.le_of_ble_eq_true rfl⟩) hK hP hD hS hA 0 4 rfl rfl rfl rfl hl.1 rfl (Nat.le_of_ble_eq_true rfl) dX4_picked_7 ⟨Nat.le_of_ble_eq_true rfl, Nat.le_of_ble_eq_true rfl⟩ (fun r1 ur1 H locs hr1 hP hD hS => ?_)
  obtain ⟨rfl, rfl⟩ : r1 = (mSpan (fBase sd run0 (mKey P Mn p0)) (32 * Int32.toInt64 c0) n0 tr).1 ∧ ur1 = (mSpan (fBase sd run0 (mKey P Mn p0)) (32 * Int32.toInt64 c0) n0 tr).2 := by rw [hr1]; exact ⟨rfl, rfl⟩
  have hP : va_P D vwCl (wM bd cb sd pz tc st ((mSpan (fBase sd run0 (mKey P Mn p0)) (32 * Int32.toInt64 c0) n0 tr).2) sc gr P Mn T Wt Rn Po Pl Sp Ks Kp Kc Ik O As X) H := hP
  have hD : va_D A (wM bd cb sd pz tc st ((mSpan (fBase sd run0 (mKey P Mn p0)) (32 * Int32.toInt64 c0) n0 tr).2) sc gr P Mn T Wt Rn Po Pl Sp Ks Kp Kc Ik O As X) := hD
  refine lv_topl (fun z2 ez2 => ?_)
  refine lv_lstore (lv' := [(7, .long z2), (0, .ref (bd 0)), (1, .long run0), (3, .int p0), (4, .int c0), (5, .long n0)]) hx hb dX4_picked_10 hl (by decide) rfl (fun ls hl => ?_)
  refine lv_lload hx hb dX4_picked_12 (lv_at hl 0 rfl) ?_
  refine lv_lconst (v := 0) hx hb dX4_picked_14 (by decide) ?_
  refine W.lcmp hx hb dX4_picked_15 ?_
  refine lv_if_ge (tgt := 22) hx hb dX4_picked_16 (by decide) (fun c16 => ?_) (fun c16 => ?_)
  · skip
    have c16 : (0 : Int64) ≤ z2 := (lg_cmp_ge _ _).mp c16
    have hE9 : ∃ j, j ≤ 9 ∧ z2 < mPref Wt j := by subst ez2; exact hEx c16
    refine lv_iconst (v := 0) hx hb dX4_picked_22 (by decide) ?_
    refine lv_istore (lv' := [(9, .int (0 : Int32)), (7, .long z2), (0, .ref (bd 0)), (1, .long run0), (3, .int p0), (4, .int c0), (5, .long n0)]) hx hb dX4_picked_23 hl (by decide) rfl (fun ls hl => ?_)
    refine lv_aload_n hx hb dX4_picked_25 rfl (lv_at hl 2 rfl) ?_
    refine va_get (D := D) (ci := 4) (v := .ref (bd 4)) (C := RX4) (T := TX4) (N := 21) hx hb hts iX4 hown hK.1 hP 0 rfl rfl 8 (by decide) (hts (.fieldLink RX4 20 "NamedStreamsModel" "weights" "[J") (by decide +kernel)) (fun _ h9 => h9) rfl dX4_picked_26 ?_
    refine lv_iconst (v := 0) hx hb dX4_picked_29 (by decide) ?_
    refine va_lald hx hb hK.1 hP 4 3 rfl rfl (vp_in_nI (n := 0) (by decide) (by decide)) dX4_picked_30 ?_
    refine lv_topl (fun z3 ez3 => ?_)
    refine lv_lstore (lv' := [(10, .long z3), (9, .int (0 : Int32)), (7, .long z2), (0, .ref (bd 0)), (1, .long run0), (3, .int p0), (4, .int c0), (5, .long n0)]) hx hb dX4_picked_31 hl (by decide) rfl (fun ls hl => ?_)
    have lp33 : ∀ (k : Nat) (i : Int32) (up : Int64) (H : Heap) (locs : List Loc) (ls : Array Slot), (k ≤ 9) → (i = nI (9 - k)) → (up = mPref Wt (9 - k)) → (∀ j, j < 9 - k → ¬ z2 < mPref Wt j) → (mReach Wt z2 k = mReach Wt z2 9) → va_P D vwCl (wM bd cb sd pz tc st ((mSpan (fBase sd run0 (mKey P Mn p0)) (32 * Int32.toInt64 c0) n0 tr).2) sc gr P Mn T Wt Rn Po Pl Sp Ks Kp Kc Ik O As X) H → va_D A (wM bd cb sd pz tc st ((mSpan (fBase sd run0 (mKey P Mn p0)) (32 * Int32.toInt64 c0) n0 tr).2) sc gr P Mn T Wt Rn Po Pl Sp Ks Kp Kc Ik O As X) → va_S A s.heap H locs → lv_has ls 12 [(10, .long up), (9, .int i), (7, .long z2), (0, .ref (bd 0)), (1, .long run0), (3, .int p0), (4, .int c0), (5, .long n0)] → W p l e ({ frames := 4, cells := 0, slots := 0, locals := 105 } : Room) s m ([.ref (bd 0), .long run0, .int p0, .int c0, .long n0] : List Value).toArray below meth c H locs 0 0 (MQ below (va_Qi (fun r u => mPicked (fBase sd run0 (mKey P Mn p0)) (32 * Int32.toInt64 c0) n0 Wt tr = (r, u)) (nkB D A (fun u : Int32 => wM bd cb sd pz tc st u sc gr P Mn T Wt Rn Po Pl Sp Ks Kp Kc Ik O As X)) A) ([.ref (bd 0), .long run0, .int p0, .int c0, .long n0] : List Value).toArray s 0 0 A) (F0 m 33 ls []) := by
      intro k
      induction k with
      | zero =>
        intro i up H locs ls hk hi hu hno ht hP hD hS hl
        refine lv_lload hx hb dX4_picked_33 (lv_at hl 0 rfl) ?_
        refine lv_lload hx hb dX4_picked_35 (lv_at hl 2 rfl) ?_
        refine W.lcmp hx hb dX4_picked_37 ?_
        refine lv_if_gt (tgt := 59) hx hb dX4_picked_38 (by decide) (fun c38 => ?_) (fun c38 => ?_)
        · skip
          have c38 : z2 < up := (lg_cmp_gt _ _).mp c38
          refine lv_iload hx hb dX4_picked_59 (lv_at hl 1 rfl) ?_
          exact nk_retI (g := _) ((mSpan (fBase sd run0 (mKey P Mn p0)) (32 * Int32.toInt64 c0) n0 tr).2) hx hb hr hlocks hP hD hS dX4_picked_61 (mPk_e (by subst ez2; subst ez3; exact c16) ht hi rfl (by subst ez2; subst ez3; rfl))
        · skip
          have c38 : ¬ (z2 < up) := fun h => c38 ((lg_cmp_gt _ _).mpr h)
          exact absurd hE9 (mPref_e hno hu c38)
      | succ k ih33 =>
        intro i up H locs ls hk hi hu hno ht hP hD hS hl
        refine lv_lload hx hb dX4_picked_33 (lv_at hl 0 rfl) ?_
        refine lv_lload hx hb dX4_picked_35 (lv_at hl 2 rfl) ?_
        refine W.lcmp hx hb dX4_picked_37 ?_
        refine lv_if_gt (tgt := 59) hx hb dX4_picked_38 (by decide) (fun c38 => ?_) (fun c38 => ?_)
        · skip
          have c38 : z2 < up := (lg_cmp_gt _ _).mp c38
          refine lv_iload hx hb dX4_picked_59 (lv_at hl 1 rfl) ?_
          exact nk_retI (g := _) ((mSpan (fBase sd run0 (mKey P Mn p0)) (32 * Int32.toInt64 c0) n0 tr).2) hx hb hr hlocks hP hD hS dX4_picked_61 (mPk_e (by subst ez2; subst ez3; exact c16) ht hi (mReach_t hu c38) (by subst ez2; subst ez3; rfl))
        · skip
          have c38 : ¬ (z2 < up) := fun h => c38 ((lg_cmp_gt _ _).mpr h)
          obtain ⟨i4, ei4⟩ : ∃ y : Int32, y = i + 1 := ⟨_, rfl⟩
          refine lv_iinc (v := i4) (lv' := [(9, .int i4), (10, .long up), (7, .long z2), (0, .ref (bd 0)), (1, .long run0), (3, .int p0), (4, .int c0), (5, .long n0)]) hx hb dX4_picked_41 hl (k := 1) rfl (by rw [ei4]; rfl) (by decide) rfl (fun ls hl => ?_)
          refine lv_lload hx hb dX4_picked_44 (lv_at hl 1 rfl) ?_
          refine lv_aload_n hx hb dX4_picked_46 rfl (lv_at hl 3 rfl) ?_
          refine va_get (D := D) (ci := 4) (v := .ref (bd 4)) (C := RX4) (T := TX4) (N := 21) hx hb hts iX4 hown hK.1 hP 0 rfl rfl 8 (by decide) (hts (.fieldLink RX4 20 "NamedStreamsModel" "weights" "[J") (by decide +kernel)) (fun _ h9 => h9) rfl dX4_picked_47 ?_
          refine lv_iload hx hb dX4_picked_50 (lv_at hl 0 rfl) ?_
          refine va_lald hx hb hK.1 hP 4 3 rfl rfl (by rw [ns_step hi hk ei4]; exact vp_in_nI (by omega) (by decide)) dX4_picked_52 ?_
          refine lv_ladd hx hb dX4_picked_53 ?_
          refine lv_topl (fun z5 ez5 => ?_)
          refine lv_lstore (lv' := [(10, .long z5), (9, .int i4), (7, .long z2), (0, .ref (bd 0)), (1, .long run0), (3, .int p0), (4, .int c0), (5, .long n0)]) hx hb dX4_picked_54 hl (by decide) rfl (fun ls hl => ?_)
          refine lv_goto (tgt := 33) hx hb dX4_picked_56 (by decide) ?_
          exact ih33 i4 z5 _ _ _ (Nat.le_of_succ_le hk) (ns_step hi hk ei4) (by subst ei4; subst ez5; exact mPref_s hi hk hu) (mPref_n hk hno hu c38) (by rw [← ht, mReach, if_neg (by rw [← hu]; exact c38)]) hP hD hS (lv_sub hl [0, 1, 2, 3, 4, 5, 6, 7] rfl)
    exact lp33 9 (0 : Int32) z3 _ _ _ (Nat.le_refl 9) (by decide) (by subst ez2; subst ez3; rfl) (fun j h => absurd h (by omega)) rfl hP hD hS (lv_sub hl [0, 1, 2, 3, 4, 5, 6, 7] rfl)
  · skip
    have c16 : ¬ ((0 : Int64) ≤ z2) := fun h => c16 ((lg_cmp_ge _ _).mpr h)
    refine lv_bipush (v := -3) hx hb dX4_picked_19 (by decide) ?_
    exact nk_retI (g := _) ((mSpan (fBase sd run0 (mKey P Mn p0)) (32 * Int32.toInt64 c0) n0 tr).2) hx hb hr hlocks hP hD hS dX4_picked_21 (by subst ez2; exact (if_neg c16))

set_option maxHeartbeats 800000 in
set_option maxRecDepth 100000 in
theorem mX4_pick (l : Launch) (D : va_G) (bd : Nat → Nat) (cb : Nat → ClassId) (sd : Int64) (pz : Int32) (tc : Int32) (st : Int32) (tr : Int32) (sc : Int32) (gr : Int32) (P : Nat → Int64) (Mn : Nat → Int32) (T : Nat → Int64) (Wt : Nat → Int64) (Rn : Nat → Int64) (Po : Nat → Int32) (Pl : Nat → Int32) (Sp : Nat → Int32) (Ks : Nat → Int32) (Kp : Nat → Int32) (Kc : Nat → Int32) (Ik : Nat → Int32) (O : Nat → Int32) (As : Nat → Int64) (X : va_W) (run0 : Int64) (p0 c0 : Int32) (hW : ¬ mIs pz p0 = 0 → vp_in p0 24 ∧ vp_in (Mn p0.toNatClampNeg) 5) : nkMI l yX4_pick wsX4_pick ({ frames := 5, cells := 0, slots := 0, locals := 136 }) D (tM cb) [.ref (bd 0), .long run0, .int p0, .int c0] (wM bd cb sd pz tc st tr sc gr P Mn T Wt Rn Po Pl Sp Ks Kp Kc Ik O As X) (fun u : Int32 × Int32 => wM bd cb sd pz tc st u.1 sc u.2 P Mn T Wt Rn Po Pl Sp Ks Kp Kc Ik O As X) (fun r u => mPickM sd P Mn pz Wt run0 p0 c0 tr gr = (r, u)) 0 0 := by
  refine nk_ofM (Qf := fun A => va_Qi (fun r u => mPickM sd P Mn pz Wt run0 p0 c0 tr gr = (r, u)) (nkB D A (fun u : Int32 × Int32 => wM bd cb sd pz tc st u.1 sc u.2 P Mn T Wt Rn Po Pl Sp Ks Kp Kc Ik O As X)) A) (cc := cX4_pick) (maxL := 7) (ret := (some .int)) (by decide) rfl (Nat.le_of_ble_eq_true rfl) ?_
  intro p e s m below meth c A hx hb hr hml hts hown hlocks hin hK hP hD hA hS ls hl
  replace hown : s.vm.findClass RX4 = some m.cls := hown
  replace hl : lv_has ls 7 [(0, .ref (bd 0)), (1, .long run0), (3, .int p0), (4, .int c0)] := hl
  have hP : va_P D vwCl (wM bd cb sd pz tc st tr sc gr P Mn T Wt Rn Po Pl Sp Ks Kp Kc Ik O As X) s.heap := hP
  have iX4 : ∀ w ∈ u_ws RX4 TX4 21, w ∈ wsX4_pick := by decide +kernel
  refine lv_aload_n hx hb dX4_pick_0 rfl (lv_at hl 0 rfl) ?_
  refine lv_iload_n hx hb dX4_pick_1 rfl (lv_at hl 2 rfl) ?_
  refine nk_VRI (As := [.int p0]) (rest := []) ⟨hx, hb, hml, hown, hts⟩ (mX4_isPath l D bd cb sd pz tc st tr sc gr P Mn T Wt Rn Po Pl Sp Ks Kp Kc Ik O As X p0) (cwV 1 hts gX4_pick_X4_isPath rfl rfl rfl (by decide +kernel) ⟨Nat.le_of_ble_eq_true rfl, Nat.le_of_ble_eq_true rfl⟩) hK hP 0 4 rfl rfl rfl rfl hl.1 rfl (Nat.le_of_ble_eq_true rfl) dX4_pick_2 ⟨Nat.le_of_ble_eq_true rfl, Nat.le_of_ble_eq_true rfl⟩ (fun r1 hr1 => ?_)
  subst hr1
  refine lv_if_eq (tgt := 13) hx hb dX4_pick_5 (by decide) (fun c5 => ?_) (fun c5 => ?_)
  · skip
    refine lv_iconst (v := -1) hx hb dX4_pick_13 (by decide) ?_
    exact nk_retI (g := _) (tr, gr) hx hb hr hlocks hP hD hS dX4_pick_14 (by exact (if_pos c5))
  · skip
    refine lv_iload hx hb dX4_pick_8 (lv_at hl 3 rfl) ?_
    refine lv_if_ge (tgt := 15) hx hb dX4_pick_10 (by decide) (fun c10 => ?_) (fun c10 => ?_)
    · skip
      refine lv_aload_n hx hb dX4_pick_15 rfl (lv_at hl 0 rfl) ?_
      refine nk_VL (As := []) (rest := []) ⟨hx, hb, hml, hown, hts⟩ (mX4_sum l D bd cb sd pz tc st tr sc gr P Mn T Wt Rn Po Pl Sp Ks Kp Kc Ik O As X) (cwV 0 hts gX4_pick_X4_sum rfl rfl rfl (by decide +kernel) ⟨Nat.le_of_ble_eq_true rfl, Nat.le_of_ble_eq_true rfl⟩) hK hP hD hS hA 0 4 rfl rfl rfl rfl hl.1 rfl (Nat.le_of_ble_eq_true rfl) dX4_pick_16 ⟨Nat.le_of_ble_eq_true rfl, Nat.le_of_ble_eq_true rfl⟩ (fun r2 ur2 H locs hr2 hP hD hS => ?_)
      obtain ⟨rfl, rfl⟩ : r2 = (mSum Wt).1 ∧ ur2 = (mSum Wt).2 := by rw [hr2]; exact ⟨rfl, rfl⟩
      have hP : va_P D vwCl (wM bd cb sd pz tc st tr sc ((mSum Wt).2) P Mn T Wt Rn Po Pl Sp Ks Kp Kc Ik O As X) H := hP
      have hD : va_D A (wM bd cb sd pz tc st tr sc ((mSum Wt).2) P Mn T Wt Rn Po Pl Sp Ks Kp Kc Ik O As X) := hD
      refine lv_topl (fun z3 ez3 => ?_)
      refine lv_lstore (lv' := [(5, .long z3), (0, .ref (bd 0)), (1, .long run0), (3, .int p0), (4, .int c0)]) hx hb dX4_pick_19 hl (by decide) rfl (fun ls hl => ?_)
      refine lv_aload_n hx hb dX4_pick_21 rfl (lv_at hl 1 rfl) ?_
      refine va_get (D := D) (ci := 4) (v := .int ((mSum Wt).2)) (C := RX4) (T := TX4) (N := 21) hx hb hts iX4 hown hK.1 hP 0 rfl rfl 18 (by decide) (hts (.fieldLink RX4 130 "NamedStreamsModel" "isGreat" "Z") (by decide +kernel)) (fun _ h9 => h9) rfl dX4_pick_22 ?_
      refine lv_if_eq (tgt := 33) hx hb dX4_pick_25 (by decide) (fun c25 => ?_) (fun c25 => ?_)
      · skip
        refine lv_lload hx hb dX4_pick_33 (lv_at hl 0 rfl) ?_
        refine lv_lconst (v := 0) hx hb dX4_pick_35 (by decide) ?_
        refine W.lcmp hx hb dX4_pick_36 ?_
        refine lv_if_ne (tgt := 45) hx hb dX4_pick_37 (by decide) (fun c37 => ?_) (fun c37 => ?_)
        · skip
          have c37 : ¬ (z3 = (0 : Int64)) := fun h => c37 ((lg_cmp_eq _ _).mpr h)
          refine lv_aload_n hx hb dX4_pick_45 rfl (lv_at hl 1 rfl) ?_
          refine lv_lload_n hx hb dX4_pick_46 rfl (lv_at hl 2 rfl) ?_
          refine lv_iload_n hx hb dX4_pick_47 rfl (lv_at hl 3 rfl) ?_
          refine lv_iload hx hb dX4_pick_48 (lv_at hl 4 rfl) ?_
          refine lv_lload hx hb dX4_pick_50 (lv_at hl 0 rfl) ?_
          refine nk_VI (As := [.long run0, .int p0, .int c0, .long z3]) (rest := []) ⟨hx, hb, hml, hown, hts⟩ (mX4_picked l D bd cb sd pz tc st tr sc ((mSum Wt).2) P Mn T Wt Rn Po Pl Sp Ks Kp Kc Ik O As X run0 p0 c0 z3 (hW c5).1 (hW c5).2 c37 (by subst ez3; exact mEx c25 c37)) (cwV 4 hts gX4_pick_X4_picked rfl rfl rfl (by decide +kernel) ⟨Nat.le_of_ble_eq_true rfl, Nat.le_of_ble_eq_true rfl⟩) hK hP hD hS hA 0 4 rfl rfl rfl rfl hl.1 rfl (Nat.le_of_ble_eq_true rfl) dX4_pick_52 ⟨Nat.le_of_ble_eq_true rfl, Nat.le_of_ble_eq_true rfl⟩ (fun r4 ur4 H locs hr4 hP hD hS => ?_)
          obtain ⟨rfl, rfl⟩ : r4 = (mPicked (fBase sd run0 (mKey P Mn p0)) (32 * Int32.toInt64 c0) z3 Wt tr).1 ∧ ur4 = (mPicked (fBase sd run0 (mKey P Mn p0)) (32 * Int32.toInt64 c0) z3 Wt tr).2 := by rw [hr4]; exact ⟨rfl, rfl⟩
          have hP : va_P D vwCl (wM bd cb sd pz tc st ((mPicked (fBase sd run0 (mKey P Mn p0)) (32 * Int32.toInt64 c0) z3 Wt tr).2) sc ((mSum Wt).2) P Mn T Wt Rn Po Pl Sp Ks Kp Kc Ik O As X) H := hP
          have hD : va_D A (wM bd cb sd pz tc st ((mPicked (fBase sd run0 (mKey P Mn p0)) (32 * Int32.toInt64 c0) z3 Wt tr).2) sc ((mSum Wt).2) P Mn T Wt Rn Po Pl Sp Ks Kp Kc Ik O As X) := hD
          exact nk_retI (g := _) ((mPicked (fBase sd run0 (mKey P Mn p0)) (32 * Int32.toInt64 c0) z3 Wt tr).2, (mSum Wt).2) hx hb hr hlocks hP hD hS dX4_pick_55 (by subst ez3; exact ((if_neg c5).trans ((if_pos c10).trans ((if_pos c25).trans (if_neg c37)))))
        · skip
          have c37 : z3 = (0 : Int64) := (lg_cmp_eq _ _).mp c37
          refine lv_bipush (v := -4) hx hb dX4_pick_40 (by decide) ?_
          refine lv_goto (tgt := 55) hx hb dX4_pick_42 (by decide) ?_
          exact nk_retI (g := _) (tr, (mSum Wt).2) hx hb hr hlocks hP hD hS dX4_pick_55 (by subst ez3; exact ((if_neg c5).trans ((if_pos c10).trans ((if_pos c25).trans (if_pos c37)))))
      · skip
        refine lv_bipush (v := -5) hx hb dX4_pick_28 (by decide) ?_
        refine lv_goto (tgt := 55) hx hb dX4_pick_30 (by decide) ?_
        exact nk_retI (g := _) (tr, (mSum Wt).2) hx hb hr hlocks hP hD hS dX4_pick_55 (by subst ez3; exact ((if_neg c5).trans ((if_pos c10).trans (if_neg c25))))
    · skip
      refine lv_iconst (v := -1) hx hb dX4_pick_13 (by decide) ?_
      exact nk_retI (g := _) (tr, gr) hx hb hr hlocks hP hD hS dX4_pick_14 (by exact ((if_neg c5).trans (if_neg c10)))
