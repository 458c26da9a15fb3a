/-! the invariant is kept by each call that changes what it speaks of -/
theorem aI_part {pz tc sc : Int32} {Mn Po Ik Ks : Nat → Int32} {Wt T : Nat → Int64} {v : Int64} (h : aI pz tc sc Mn Po Ik Ks Wt) : aI pz (mPart tc.toNatClampNeg T v).2.1 sc Mn Po Ik Ks Wt := by
  obtain ⟨tt, zz, nc, htt, hzz, hnc, rfl, rfl, rfl, hLn, hPo, hKs, hWt⟩ := h
  rw [nI_clamp (show tt < 2 ^ 31 by omega)]
  obtain ⟨t', h1, h2⟩ := mPart_inv (T := T) (v := v) htt rfl
  exact ⟨t', zz, nc, h1, hzz, hnc, h2, rfl, rfl, hLn, hPo, hKs, hWt⟩
theorem aI_path {pz tc sc : Int32} {Mn Po Ik Ks : Nat → Int32} {Wt P T : Nat → Int64} (h : aI pz tc sc Mn Po Ik Ks Wt) : aI (mPath P T Mn pz.toNatClampNeg tc.toNatClampNeg).2.2.2.2 (mPath P T Mn pz.toNatClampNeg tc.toNatClampNeg).2.1 sc (mPath P T Mn pz.toNatClampNeg tc.toNatClampNeg).2.2.2.1 Po Ik Ks Wt := by
  obtain ⟨tt, zz, nc, htt, hzz, hnc, rfl, rfl, rfl, hLn, hPo, hKs, hWt⟩ := h
  rw [nI_clamp (show tt < 2 ^ 31 by omega), nI_clamp (show zz < 2 ^ 31 by omega)]
  obtain ⟨t', z', h1, h2, h3, h4, h5, h6⟩ := mPath_inv (P := P) (T := T) hzz htt hLn rfl
  exact ⟨t', z', nc, h1, h3, hnc, h4, h5, rfl, h6, hPo.mono h2, hKs, hWt⟩
theorem aI_weight {pz tc sc : Int32} {Mn Po Ik Ks : Nat → Int32} {Wt : Nat → Int64} {k : Int32} {w : Int64} (h : aI pz tc sc Mn Po Ik Ks Wt) : aI pz tc sc Mn Po Ik Ks (mWeight Wt k w).2 := by
  obtain ⟨tt, zz, nc, htt, hzz, hnc, rfl, rfl, rfl, hLn, hPo, hKs, hWt⟩ := h
  refine ⟨tt, zz, nc, htt, hzz, hnc, rfl, rfl, rfl, hLn, hPo, hKs, ?_⟩
  unfold mWeight
  by_cases c : mIn k.toInt64 0 9 = 0
  · rw [if_pos c]; exact hWt
  · rw [if_neg c]
    by_cases c2 : 0 ≤ w
    · rw [if_pos c2]
      intro i hi
      show 0 ≤ (if i = k.toNatClampNeg then w else Wt i)
      by_cases c3 : i = k.toNatClampNeg
      · rw [if_pos c3]; exact c2
      · rw [if_neg c3]; exact hWt i hi
    · rw [if_neg c2]; exact hWt
theorem aI_open {pz tc sc : Int32} {Mn Po Pl Sp Ik Ks : Nat → Int32} {Wt Rn : Nat → Int64} {r0 : Int64} {p0 : Int32} (h : aI pz tc sc Mn Po Ik Ks Wt) : aI pz tc (mOpen pz sc Rn Po Pl Sp r0 p0).2.1 Mn (mOpen pz sc Rn Po Pl Sp r0 p0).2.2.2.1 Ik Ks Wt := by
  obtain ⟨tt, zz, nc, htt, hzz, hnc, rfl, rfl, rfl, hLn, hPo, hKs, hWt⟩ := h
  obtain ⟨n', h1, h2, h3, h4⟩ := mOpen_inv (Rn := Rn) (Pl := Pl) (Sp := Sp) (r0 := r0) (p0 := p0) hzz hnc hPo rfl
  exact ⟨tt, zz, n', htt, hzz, h2, rfl, rfl, h3, hLn, h4, hKs.mono h1, hWt⟩
theorem aI_keep {pz tc sc : Int32} {Mn Po Pl Sp Ik Ks Kp Kc : Nat → Int32} {Wt : Nat → Int64} {k0 i0 : Int32} (h : aI pz tc sc Mn Po Ik Ks Wt) : aI pz tc sc Mn Po (mKeep sc Pl Sp Ik Ks Kp Kc k0 i0).2.1 (mKeep sc Pl Sp Ik Ks Kp Kc k0 i0).2.2.1 Wt := by
  obtain ⟨tt, zz, nc, htt, hzz, hnc, rfl, rfl, rfl, hLn, hPo, hKs, hWt⟩ := h
  exact ⟨tt, zz, nc, htt, hzz, hnc, rfl, rfl, rfl, hLn, hPo, mKeep_inv hnc hKs rfl, hWt⟩
theorem aI_split {pz tc sc : Int32} {Mn Po Pl Sp Ik Ks : Nat → Int32} {Wt P Rn : Nat → Int64} {i0 : Int32} (h : aI pz tc sc Mn Po Ik Ks Wt) : aI (mSplitA P Mn Rn Po Pl Sp sc.toNatClampNeg pz.toNatClampNeg i0).2.2.2.1 tc (mSplitA P Mn Rn Po Pl Sp sc.toNatClampNeg pz.toNatClampNeg i0).2.2.2.2.1 (mSplitA P Mn Rn Po Pl Sp sc.toNatClampNeg pz.toNatClampNeg i0).2.2.1 (mSplitA P Mn Rn Po Pl Sp sc.toNatClampNeg pz.toNatClampNeg i0).2.2.2.2.2.2.1 Ik Ks Wt := by
  have h9 := h
  obtain ⟨tt, zz, nc, htt, hzz, hnc, rfl, rfl, rfl, hLn, hPo, hKs, hWt⟩ := h
  rw [nI_clamp (show nc < 2 ^ 31 by omega), nI_clamp (show zz < 2 ^ 31 by omega)]
  by_cases hI : mIs (nI nc) i0 = 0
  · rw [split_N hI]; exact h9
  · obtain ⟨j, pp, ll, hj, rfl, hpp, hPp, hl1, hl0⟩ := mWs hnc hzz hLn hPo hI
    by_cases hF : nI nc = 8 ∨ Mn (nI pp).toNatClampNeg = 4
    · rw [split_F hI hPp hF]; exact h9
    · have hn8 := ns_neLt (n := 8) (fun h => hF (Or.inl h)) rfl hnc (by decide)
      have hl4 : ll < 4 := ns_neLt (n := 4) (fun h => hF (Or.inr (by rw [hl0]; exact h))) rfl hl1 (by decide)
      have hPj : Po j = nI pp := by rw [nI_clamp (by omega)] at hPp; exact hPp
      have hlj : Mn pp = nI ll := by rw [nI_clamp (by omega)] at hl0; exact hl0
      rw [split_B hI hn8 hj hPj (by omega) hlj hl4]
      obtain ⟨z', h1, h2, h3, h4, h5⟩ := mTake_inv (P := P) (T := mKid P pp ll (Sp j).toInt64) hzz (show ll + 1 ≤ 4 by omega) hLn
      generalize mTake P (mKid P pp ll (Sp j).toInt64) Mn zz (ll + 1) = t at h3 h4 h5
      unfold mSplitB
      by_cases c : 0 ≤ t.1
      · rw [if_pos c]
        rcases h5 with h5 | ⟨j2, hj2, h5⟩
        · rw [h5] at c; exact absurd c (by decide)
        · have hup := vPo_up (pp := j2) hnc (hPo.mono h1) hj2
          rw [nI_clamp (show nc < 2 ^ 31 by omega)] at hup
          refine ⟨tt, z', nc + 1, htt, h2, by omega, rfl, h3, rfl, h4, ?_, hKs.mono (by omega), hWt⟩
          show vPo (nc + 1) z' (upd Po nc t.1)
          rw [h5]; exact hup
      · rw [if_neg c]
        exact ⟨tt, z', nc, htt, h2, hnc, rfl, h3, rfl, h4, hPo.mono h1, hKs, hWt⟩
