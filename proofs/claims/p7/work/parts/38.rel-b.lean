theorem mReach_in {Wt : Nat → Int64} {d : Int64} : ∀ k, k ≤ 9 → ∃ q, q ≤ 9 ∧ mReach Wt d k = nI q := by
  intro k
  induction k with
  | zero => intro _; exact ⟨9, Nat.le_refl 9, rfl⟩
  | succ k ih =>
    intro hk
    rw [mReach]
    by_cases c : d < mPref Wt (9 - (k + 1))
    · rw [if_pos c]; exact ⟨9 - (k + 1), by omega, rfl⟩
    · rw [if_neg c]; exact ih (by omega)
/-! the relation, call by call -/
theorem path_rel {T R Ky : Nat → Int64} {Ln : Nat → Int32} {z t : Nat} (hz : z ≤ 24) (ht : t ≤ 4) (hL : vLn z Ln) (hK : vKy z Ky R Ln) : ∃ Ky' z', fPath T R Ln Ky z t = ((mPath R T Ln z t).1, (mPath R T Ln z t).2.1, (mPath R T Ln z t).2.2.1, (mPath R T Ln z t).2.2.2.1, Ky', (mPath R T Ln z t).2.2.2.2) ∧ (mPath R T Ln z t).2.2.2.2 = nI z' ∧ z' ≤ 24 ∧ vKy z' Ky' (mPath R T Ln z t).2.2.1 (mPath R T Ln z t).2.2.2.1 := by
  obtain ⟨e1, e2, e3, e4, -⟩ := ent_take (Rw := T) (R := R) (Ky := Ky) (Ln := Ln) (z := z) (n := t) hz
  obtain ⟨z', k1, k2, k3, k4⟩ := vKy_ent (T := T) (n := t) hz ht hL hK
  obtain ⟨z9, -, hz9, -, -, h5⟩ := mTake_inv (P := R) (T := T) hz ht hL
  unfold fPath mPath
  by_cases c : nI t = 0
  · rw [if_pos c, if_pos c]
    exact ⟨Ky, z, rfl, rfl, hz, hK⟩
  · rw [if_neg c, if_neg c]
    refine ⟨(fEnt T R Ln Ky z t).2.2.2.1, z', ?_, ?_, k3, ?_⟩
    · by_cases c2 : (fEnt T R Ln Ky z t).1 = -2
      · have c3 : ¬ 0 ≤ (mTake R T Ln z t).1 := by rw [← e1, c2]; decide
        rw [if_pos c2, if_neg c3, ← e1, ← e2, ← e3, ← e4]
      · have c3 : 0 ≤ (mTake R T Ln z t).1 := by
          rw [e1] at c2
          rcases h5 with h5 | ⟨j, hj, h5⟩
          · exact absurd h5 c2
          · rw [h5]; exact nI_pos' (by omega)
        rw [if_neg c2, if_pos c3, ← e1, ← e2, ← e3, ← e4]
    · by_cases c3 : 0 ≤ (mTake R T Ln z t).1
      · rw [if_pos c3]; exact k1
      · rw [if_neg c3]; exact k1
    · by_cases c3 : 0 ≤ (mTake R T Ln z t).1
      · rw [if_pos c3]; exact k4
      · rw [if_neg c3]; exact k4
set_option maxHeartbeats 400000 in
theorem pickC_eq {z : Nat} {sd run : Int64} {p c tr gr : Int32} {Ky P Wt : Nat → Int64} {Mn : Nat → Int32} (hz : z ≤ 24) (hK : vKy z Ky P Mn) (hW : vWt Wt) : fPickC sd (nI z) Ky Wt run p c tr = ((mPickM sd P Mn (nI z) Wt run p c tr gr).1, (mPickM sd P Mn (nI z) Wt run p c tr gr).2.1) := by
  unfold fPickC mPickM
  by_cases c1 : mIs (nI z) p = 0
  · rw [if_pos c1, if_pos ((has_is hz).mpr c1)]
  · rw [if_neg c1, if_neg (fun q => c1 ((has_is hz).mp q))]
    by_cases c2 : 0 ≤ c
    · have ef : fFirst c = 32 * c.toInt64 := rfl
      rw [if_pos c2, if_pos c2, key_eq hz hK c1, pick_eq (gr := gr) hW, ef]
      by_cases c3 : (mSum Wt).2 = 0
      · rw [if_pos c3, if_pos c3]
        by_cases c4 : (mSum Wt).1 = 0
        · rw [if_pos c4, if_pos c4]
        · rw [if_neg c4, if_neg c4]
      · rw [if_neg c3, if_neg c3]
    · rw [if_neg c2, if_neg c2]
set_option maxHeartbeats 400000 in
theorem npick_eq {sd : Int64} {Ky P Wt Rn : Nat → Int64} {Mn Po Pl Sp : Nat → Int32} {nc zz j a : Nat} {f : Nat → va_E} {tr gr : Int32} (hn : nc ≤ 8) (hj : j < nc) (hI : ¬ mIs (nI nc) (nI j) = 0) (hky : Ky (Po j).toNatClampNeg = mKey P Mn (Po j)) (hW : vWt Wt) : ∃ f2, fNPick sd Ky Wt tr f a (Rn j) (Po j) (Pl j) (Sp j) = ((mNPick sd P Mn (nI nc) Wt Rn Po Pl (nI j) tr gr).1, (mNPick sd P Mn (nI nc) Wt Rn Po Pl (nI j) tr gr).2.1, f2) ∧ ((f2 = f ∧ (mNPick sd P Mn (nI nc) Wt Rn Po Pl (nI j) tr gr).2.2.2 = Pl) ∨ (f2 = va_up f a (eSt (Rn j) (Po j) (Pl j + 1) (Sp j)) ∧ (mNPick sd P Mn (nI nc) Wt Rn Po Pl (nI j) tr gr).2.2.2 = upd Pl j (Pl j + 1))) := by
  have _ := zz
  have ej : (nI j).toNatClampNeg = j := nI_clamp (by omega)
  unfold fNPick mNPick
  rw [if_neg hI, ej]
  by_cases c1 : Pl j = 2147483647
  · rw [if_pos c1, if_pos c1]; exact ⟨f, rfl, Or.inl ⟨rfl, rfl⟩⟩
  · rw [if_neg c1, if_neg c1, hky]
    have ep := pick_eq (o := fBase sd (Rn j) (mKey P Mn (Po j))) (f := fFirst (Pl j)) (tr := tr) (gr := gr) hW
    have ef : fFirst (Pl j) = 32 * (Pl j).toInt64 := rfl
    by_cases c3 : (mSum Wt).2 = 0
    · rw [if_pos c3]
      rw [if_pos c3] at ep
      by_cases c4 : (mSum Wt).1 = 0
      · rw [if_pos c4] at ep
        rw [if_pos c4, if_pos c3, ep]
        exact ⟨f, rfl, Or.inl ⟨rfl, rfl⟩⟩
      · rw [if_neg c4, ef] at ep
        rw [if_neg c4, ef, ep]
        have hr : (mPicked (fBase sd (Rn j) (mKey P Mn (Po j))) (32 * (Pl j).toInt64) (mSum Wt).1 Wt tr).1 = -3 ∨ ∃ q, q ≤ 9 ∧ (mPicked (fBase sd (Rn j) (mKey P Mn (Po j))) (32 * (Pl j).toInt64) (mSum Wt).1 Wt tr).1 = nI q := by
          unfold mPicked
          by_cases c5 : 0 ≤ (mSpan (fBase sd (Rn j) (mKey P Mn (Po j))) (32 * (Pl j).toInt64) (mSum Wt).1 tr).1
          · rw [if_pos c5]; exact Or.inr (mReach_in 9 (by omega))
          · rw [if_neg c5]; exact Or.inl rfl
        have h4 : ¬ (mPicked (fBase sd (Rn j) (mKey P Mn (Po j))) (32 * (Pl j).toInt64) (mSum Wt).1 Wt tr).1 = -4 := by
          rcases hr with h | ⟨q, hq, h⟩
          · rw [h]; decide
          · rw [h]; exact fun e => absurd (e ▸ nI_pos' (n := q) (by omega)) (by decide)
        have h5 : ¬ (mPicked (fBase sd (Rn j) (mKey P Mn (Po j))) (32 * (Pl j).toInt64) (mSum Wt).1 Wt tr).1 = -5 := by
          rcases hr with h | ⟨q, hq, h⟩
          · rw [h]; decide
          · rw [h]; exact fun e => absurd (e ▸ nI_pos' (n := q) (by omega)) (by decide)
        rw [if_neg h4, if_neg h5]
        exact ⟨_, rfl, Or.inr ⟨rfl, rfl⟩⟩
    · rw [if_neg c3]
      rw [if_neg c3] at ep
      rw [if_neg c3, ep, if_neg (show ¬ (-5 : Int32) = -4 by decide), if_pos (show (-5 : Int32) = -5 from rfl)]
      exact ⟨f, rfl, Or.inl ⟨rfl, rfl⟩⟩
theorem next_eq {sd n : Int64} {Ky P Rn : Nat → Int64} {Mn Po Pl Sp : Nat → Int32} {nc j a : Nat} {f : Nat → va_E} {tr : Int32} (hn : nc ≤ 8) (hj : j < nc) (hI : ¬ mIs (nI nc) (nI j) = 0) (hky : Ky (Po j).toNatClampNeg = mKey P Mn (Po j)) : ∃ f2, fNext sd Ky n tr f a (Rn j) (Po j) (Pl j) (Sp j) = ((mNext sd P Mn (nI nc) Rn Po Pl (nI j) n tr).1, (mNext sd P Mn (nI nc) Rn Po Pl (nI j) n tr).2.1, f2) ∧ ((f2 = f ∧ (mNext sd P Mn (nI nc) Rn Po Pl (nI j) n tr).2.2 = Pl) ∨ (f2 = va_up f a (eSt (Rn j) (Po j) (Pl j + 1) (Sp j)) ∧ (mNext sd P Mn (nI nc) Rn Po Pl (nI j) n tr).2.2 = upd Pl j (Pl j + 1))) := by
  have ej : (nI j).toNatClampNeg = j := nI_clamp (by omega)
  unfold fNext mNext
  by_cases c0 : n < 0
  · rw [if_pos c0, if_pos c0]; exact ⟨f, rfl, Or.inl ⟨rfl, rfl⟩⟩
  · rw [if_neg c0, if_neg c0, if_neg hI, ej]
    by_cases c1 : Pl j = 2147483647
    · rw [if_pos c1, if_pos c1]; exact ⟨f, rfl, Or.inl ⟨rfl, rfl⟩⟩
    · rw [if_neg c1, if_neg c1]
      by_cases c2 : n = 0
      · rw [if_pos c2, if_pos c2]; exact ⟨f, rfl, Or.inl ⟨rfl, rfl⟩⟩
      · rw [if_neg c2, if_neg c2, hky, mSpan_eq (ns_pos c2 (Int64.not_lt.mp c0))]
        exact ⟨_, rfl, Or.inr ⟨rfl, rfl⟩⟩
theorem next_none {sd n : Int64} {P Rn : Nat → Int64} {Mn Po Pl : Nat → Int32} {sc i tr : Int32} (h : mIs sc i = 0) : mNext sd P Mn sc Rn Po Pl i n tr = (-1, tr, Pl) := by
  unfold mNext
  by_cases c0 : n < 0
  · rw [if_pos c0]
  · rw [if_neg c0, if_pos h]
theorem skip_eq {n : Int32} {Pl Po Sp : Nat → Int32} {Rn : Nat → Int64} {nc j a : Nat} {f : Nat → va_E} (hn : nc ≤ 8) (hj : j < nc) (hI : ¬ mIs (nI nc) (nI j) = 0) : ∃ f2, fSkip n f a (Rn j) (Po j) (Pl j) (Sp j) = ((mSkip (nI nc) Pl (nI j) n).1, f2) ∧ ((f2 = f ∧ (mSkip (nI nc) Pl (nI j) n).2 = Pl) ∨ (f2 = va_up f a (eSt (Rn j) (Po j) (Pl j + n) (Sp j)) ∧ (mSkip (nI nc) Pl (nI j) n).2 = upd Pl j (Pl j + n))) := by
  have ej : (nI j).toNatClampNeg = j := nI_clamp (by omega)
  have hm := mIn_iff n 0 1000000000
  have e0 : (0 : Int64).toInt = 0 := rfl
  have eM : (1000000000 : Int64).toInt = 1000000000 := rfl
  have i0 : (0 : Int32).toInt = 0 := rfl
  have iM : (1000000000 : Int32).toInt = 1000000000 := rfl
  rw [e0, eM] at hm
  unfold fSkip mSkip
  rw [if_neg hI, ej]
  by_cases c0 : n < 0
  · rw [if_pos c0, if_pos (hm.mpr (Or.inl (by rw [i_lt, i0] at c0; exact c0)))]; exact ⟨f, rfl, Or.inl ⟨rfl, rfl⟩⟩
  · rw [if_neg c0]
    by_cases c1 : 1000000000 < n
    · rw [if_pos c1, if_pos (hm.mpr (Or.inr (by rw [i_lt, iM] at c1; exact c1)))]; exact ⟨f, rfl, Or.inl ⟨rfl, rfl⟩⟩
    · have hm2 : ¬ mIn n.toInt64 0 1000000000 = 0 := by
        rw [hm]
        rw [i_lt, i0] at c0
        rw [i_lt, iM] at c1
        omega
      rw [if_neg c1, if_neg hm2]
      by_cases c2 : Pl j ≤ 2147483647 - n
      · rw [if_pos c2, if_pos ((skip_c c0).mp c2), pk_us]; exact ⟨_, rfl, Or.inr ⟨rfl, rfl⟩⟩
      · rw [if_neg c2, if_neg (fun q => c2 ((skip_c c0).mpr q))]; exact ⟨f, rfl, Or.inl ⟨rfl, rfl⟩⟩
theorem told_eq {x : Int32} {Pl Po Sp : Nat → Int32} {nc j : Nat} (hn : nc ≤ 8) (hj : j < nc) (hI : ¬ mIs (nI nc) (nI j) = 0) : fTold x (Po j) (Pl j) (Sp j) = mTold (nI nc) Po Pl Sp (nI j) x := by
  have ej : (nI j).toNatClampNeg = j := nI_clamp (by omega)
  have hm := mIn_iff x 0 2
  have e0 : (0 : Int64).toInt = 0 := rfl
  have e2 : (2 : Int64).toInt = 2 := rfl
  rw [e0, e2] at hm
  unfold fTold mTold
  rw [if_neg hI, ej]
  by_cases c0 : x = 0
  · rw [if_pos c0, if_neg (by rw [hm, c0]; decide), if_pos c0]
  · rw [if_neg c0]
    by_cases c1 : x = 1
    · rw [if_pos c1, if_neg (by rw [hm, c1]; decide), if_neg c0, if_pos c1]
    · rw [if_neg c1]
      by_cases c2 : x = 2
      · rw [if_pos c2, if_neg (by rw [hm, c2]; decide), if_neg c0, if_neg c1]
      · rw [if_neg c2, if_pos (hm.mpr (by
          have a0 := lv_neT c0 (a := 0) rfl
          have a1 := lv_neT c1 (a := 1) rfl
          have a2 := lv_neT c2 (a := 2) rfl
          omega))]
theorem ky_po {nc zz j : Nat} {Ky P : Nat → Int64} {Mn Po : Nat → Int32} (hz : zz ≤ 24) (hP : vPo nc zz Po) (hK : vKy zz Ky P Mn) (hj : j < nc) : Ky (Po j).toNatClampNeg = mKey P Mn (Po j) ∧ vp_in (Po j) 24 := by
  obtain ⟨pp, h1, h2⟩ := hP j hj
  rw [h2, nI_clamp (by omega)]
  exact ⟨hK pp h1, vp_in_nI (by omega) (by decide)⟩
theorem open_B {zz nc : Nat} {Rn : Nat → Int64} {Po Pl Sp : Nat → Int32} {r0 : Int64} {p0 : Int32} (hz : zz ≤ 24) (hn : nc ≤ 8) (h : fHas (nI zz) p0 = 0 ∨ ¬ nI nc < 8) : mOpen (nI zz) (nI nc) Rn Po Pl Sp r0 p0 = (if fHas (nI zz) p0 = 0 then -1 else -2, nI nc, Rn, Po, Pl, Sp) := by
  unfold mOpen
  by_cases c : mIs (nI zz) p0 = 0
  · rw [if_pos c, if_pos ((has_is hz).mpr c)]
  · have c1 : ¬ fHas (nI zz) p0 = 0 := fun q => c ((has_is hz).mp q)
    have c2 : ¬ nI nc < 8 := h.resolve_left c1
    have c3 : nI nc = 8 := by
      have : nc = 8 := by
        rcases Nat.lt_or_ge nc 8 with q | q
        · exact absurd (show nI nc < 8 from nI_lt (b := 8) q (by decide)) c2
        · omega
      rw [this]; rfl
    rw [if_neg c, if_pos c3, if_neg c1]
theorem open_A {zz nc : Nat} {Rn : Nat → Int64} {Po Pl Sp : Nat → Int32} {r0 : Int64} {p0 : Int32} (hz : zz ≤ 24) (hn : nc < 8) (h : ¬ fHas (nI zz) p0 = 0) : mOpen (nI zz) (nI nc) Rn Po Pl Sp r0 p0 = (nI nc, nI (nc + 1), vp_updL Rn nc r0, upd Po nc p0, upd Pl nc 0, upd Sp nc 0) := by
  unfold mOpen mBegin
  rw [if_neg (fun q => h ((has_is hz).mpr q)), if_neg (fun q => by
    have := (nI_eq (by omega) (by decide)).mp (show nI nc = nI 8 from q); omega), nI_clamp (by omega), nI_1, nI_pred]
theorem mIn_k3 {k : Int32} : (mIn k.toInt64 0 3 = 0) ↔ (k < 0 ∨ 4 ≤ k) := by
  have h := mIn_iff k 0 3
  have e0 : (0 : Int64).toInt = 0 := rfl
  have e3 : (3 : Int64).toInt = 3 := rfl
  have i0 : (0 : Int32).toInt = 0 := rfl
  have i4 : (4 : Int32).toInt = 4 := rfl
  rw [e0, e3] at h
  rw [h, i_lt, i0, i_le, i4]
  omega
theorem keep_bad {sc : Int32} {Pl Sp Ik Ks Kp Kc : Nat → Int32} {k i : Int32} (h : mIs sc i = 0 ∨ (k < 0 ∨ 4 ≤ k)) : mKeep sc Pl Sp Ik Ks Kp Kc k i = (-1, Ik, Ks, Kp, Kc) := by
  unfold mKeep
  by_cases c : mIn k.toInt64 0 3 = 0
  · rw [if_pos c]
  · rw [if_neg c, if_pos (h.resolve_right (fun q => c (mIn_k3.mpr q)))]
theorem keep_ok {sc : Int32} {Pl Sp Ik Ks Kp Kc : Nat → Int32} {k i : Int32} (h : ¬ mIs sc i = 0) (hk1 : ¬ k < 0) (hk2 : ¬ 4 ≤ k) : mKeep sc Pl Sp Ik Ks Kp Kc k i = (Pl i.toNatClampNeg, upd Ik k.toNatClampNeg (vp_nar .boolean 1), upd Ks k.toNatClampNeg i, upd Kp k.toNatClampNeg (Pl i.toNatClampNeg), upd Kc k.toNatClampNeg (Sp i.toNatClampNeg)) := by
  unfold mKeep
  rw [if_neg (fun q => (mIn_k3.mp q).elim hk1 hk2), if_neg h]
theorem back_bad {Pl Sp Ik Ks Kp Kc : Nat → Int32} {k : Int32} (h : k < 0 ∨ 4 ≤ k) : mBack Pl Sp Ik Ks Kp Kc k = (-1, Pl, Sp) := if_pos (mIn_k3.mpr h)
theorem back_0 {Pl Sp Ik Ks Kp Kc : Nat → Int32} {k : Int32} (hk1 : ¬ k < 0) (hk2 : ¬ 4 ≤ k) (h : Ik k.toNatClampNeg = 0) : mBack Pl Sp Ik Ks Kp Kc k = (-3, Pl, Sp) := (if_neg (fun q => (mIn_k3.mp q).elim hk1 hk2)).trans (if_pos h)
theorem back_ok {Pl Sp Ik Ks Kp Kc : Nat → Int32} {k : Int32} (hk1 : ¬ k < 0) (hk2 : ¬ 4 ≤ k) (h : ¬ Ik k.toNatClampNeg = 0) : mBack Pl Sp Ik Ks Kp Kc k = (Ks k.toNatClampNeg, upd Pl (Ks k.toNatClampNeg).toNatClampNeg (Kp k.toNatClampNeg), upd Sp (Ks k.toNatClampNeg).toNatClampNeg (Kc k.toNatClampNeg)) := (if_neg (fun q => (mIn_k3.mp q).elim hk1 hk2)).trans (if_neg h)
