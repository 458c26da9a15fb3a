theorem npick_none {sd : Int64} {P Wt Rn : Nat → Int64} {Mn Po Pl : Nat → Int32} {sc i tr gr : Int32} (h : mIs sc i = 0) : mNPick sd P Mn sc Wt Rn Po Pl i tr gr = (-1, tr, gr, Pl) := if_pos h
/-! the row of a child path, and the reference's way of setting its row back -/
theorem updL_at {f : Nat → Int64} {k : Nat} {x : Int64} {j : Nat} : vp_updL f k x j = if j = k then x else f j := rfl
theorem mLkI_congr {P T T' : Nat → Int64} {p : Int32} {t : Nat} (ht : t ≤ 4) (h : ∀ j, j < t → T j = T' j) : ∀ k, k ≤ t → ∀ b, mLkI P T p t k b = mLkI P T' p t k b := by
  intro k
  induction k with
  | zero => intro _ b; rfl
  | succ k ih =>
    intro hk b
    have e : T (nI (t - (k + 1))).toNatClampNeg = T' (nI (t - (k + 1))).toNatClampNeg := by rw [nI_clamp (by omega)]; exact h _ (by omega)
    rw [mLkI, mLkI, e, ih (by omega), ih (by omega)]
theorem mLkO_congr {P T T' : Nat → Int64} {Mn : Nat → Int32} {z t : Nat} (ht : t ≤ 4) (h : ∀ j, j < t → T j = T' j) : ∀ k, mLkO P T Mn z t k = mLkO P T' Mn z t k := by
  intro k
  induction k with
  | zero => rfl
  | succ k ih => rw [mLkO, mLkO, ih, mLkI_congr ht h t (Nat.le_refl t)]
theorem mCopyT_congr {T T' : Nat → Int64} {z t : Nat} (ht : t ≤ 4) (h : ∀ j, j < t → T j = T' j) : ∀ k, k ≤ t → ∀ P, mCopyT T z t k P = mCopyT T' z t k P := by
  intro k
  induction k with
  | zero => intro _ P; rfl
  | succ k ih =>
    intro hk P
    have e : T (nI (t - (k + 1))).toNatClampNeg = T' (nI (t - (k + 1))).toNatClampNeg := by rw [nI_clamp (by omega)]; exact h _ (by omega)
    rw [mCopyT, mCopyT, e, ih (by omega)]
theorem mTake_congr {P T T' : Nat → Int64} {Mn : Nat → Int32} {z t : Nat} (ht : t ≤ 4) (h : ∀ j, j < t → T j = T' j) : mTake P T Mn z t = mTake P T' Mn z t := by
  have e1 : mLk P T Mn z t = mLk P T' Mn z t := mLkO_congr ht h z
  have e2 : mCopyT T z t t P = mCopyT T' z t t P := mCopyT_congr ht h t (Nat.le_refl t) P
  unfold mTake
  rw [e1, e2]
/-- the row of the child: the parent's words and the number -/
def mKid (P : Nat → Int64) (pp ll : Nat) (v : Int64) : Nat → Int64 := fun j => if j = ll then v else P (4 * nI pp + nI j).toNatClampNeg
theorem fCopy_at {R : Nat → Int64} {p : Int32} {n j : Nat} (hn : n ≤ 4) (hj : j < n) : ∀ k, k ≤ n → ∀ C, (n - k ≤ j ∨ C j = R (p * 4 + nI j).toNatClampNeg) → fCopy R p n k C j = R (p * 4 + nI j).toNatClampNeg := by
  intro k
  induction k with
  | zero =>
    intro _ C h
    rcases h with h | h
    · omega
    · exact h
  | succ k ih =>
    intro hk C h
    rw [fCopy]
    apply ih (by omega)
    by_cases c : n - k ≤ j
    · exact Or.inl c
    · refine Or.inr ?_
      rw [updL_at, nI_clamp (by omega)]
      by_cases c2 : j = n - (k + 1)
      · rw [if_pos c2, c2]
      · rw [if_neg c2]
        rcases h with h | h
        · omega
        · exact h
theorem mTc_at {P : Nat → Int64} {p : Int32} {n j : Nat} (hn : n ≤ 4) (hj : j < n) : ∀ k, k ≤ n → ∀ C, (n - k ≤ j ∨ C j = P (4 * p + nI j).toNatClampNeg) → mTc P p n k C j = P (4 * p + nI j).toNatClampNeg := by
  intro k
  induction k with
  | zero =>
    intro _ C h
    rcases h with h | h
    · omega
    · exact h
  | succ k ih =>
    intro hk C h
    rw [mTc]
    apply ih (by omega)
    by_cases c : n - k ≤ j
    · exact Or.inl c
    · refine Or.inr ?_
      rw [updL_at, nI_clamp (by omega)]
      by_cases c2 : j = n - (k + 1)
      · rw [if_pos c2, c2]
      · rw [if_neg c2]
        rcases h with h | h
        · omega
        · exact h
theorem mTc_out {P : Nat → Int64} {p : Int32} {n j : Nat} (hn : n ≤ 4) (hj : n ≤ j) : ∀ k, k ≤ n → ∀ C, mTc P p n k C j = C j := by
  intro k
  induction k with
  | zero => intro _ C; rfl
  | succ k ih =>
    intro hk C
    rw [mTc, ih (by omega), updL_at, nI_clamp (by omega), if_neg (by omega)]
theorem kid_c {R Ch : Nat → Int64} {pp ll : Nat} {v : Int64} (hl : ll < 4) : ∀ j, j < ll + 1 → fChild R Ch (nI pp) ll v j = mKid R pp ll v j := by
  intro j hj
  unfold fChild mKid
  rw [updL_at, nI_clamp (by omega)]
  by_cases c : j = ll
  · rw [if_pos c, if_pos c]
  · rw [if_neg c, if_neg c, fCopy_at (by omega) (by omega) ll (Nat.le_refl ll) Ch (Or.inl (by omega)), Int32.mul_comm]
theorem kid_m {P T : Nat → Int64} {Sp : Nat → Int32} {pp ll : Nat} {i : Int32} (hl : ll < 4) : ∀ j, j < ll + 1 → mT1 P T Sp pp ll i j = mKid P pp ll (Sp i.toNatClampNeg).toInt64 j := by
  intro j hj
  unfold mT1 mKid
  rw [updL_at, nI_clamp (by omega)]
  by_cases c : j = ll
  · rw [if_pos c, if_pos c]
  · rw [if_neg c, if_neg c, mTc_at (by omega) (by omega) ll (Nat.le_refl ll) T (Or.inl (by omega))]
theorem mAs_at {T : Nat → Int64} {j : Nat} (hj : j < 4) : ∀ k, k ≤ 4 → ∀ C, (4 - k ≤ j ∨ C j = T j) → mAs T k C j = T j := by
  intro k
  induction k with
  | zero =>
    intro _ C h
    rcases h with h | h
    · omega
    · exact h
  | succ k ih =>
    intro hk C h
    rw [mAs]
    apply ih (by omega)
    by_cases c : 4 - k ≤ j
    · exact Or.inl c
    · refine Or.inr ?_
      rw [updL_at, nI_clamp (by omega)]
      by_cases c2 : j = 4 - (k + 1)
      · rw [if_pos c2, c2]
      · rw [if_neg c2]
        rcases h with h | h
        · omega
        · exact h
theorem mAs_out {T : Nat → Int64} {j : Nat} (hj : 4 ≤ j) : ∀ k, k ≤ 4 → ∀ C, mAs T k C j = C j := by
  intro k
  induction k with
  | zero => intro _ C; rfl
  | succ k ih =>
    intro hk C
    rw [mAs, ih (by omega), updL_at, nI_clamp (by omega), if_neg (by omega)]
theorem mAs_back {P T As : Nat → Int64} {Sp : Nat → Int32} {pp ll : Nat} {i : Int32} (hl : ll < 4) : mAs (mAs T 4 As) 4 (mT1 P T Sp pp ll i) = T := by
  funext j
  by_cases c : j < 4
  · rw [mAs_at c 4 (Nat.le_refl 4) _ (Or.inl (by omega)), mAs_at c 4 (Nat.le_refl 4) _ (Or.inl (by omega))]
  · rw [mAs_out (by omega) 4 (Nat.le_refl 4)]
    unfold mT1
    rw [updL_at, nI_clamp (by omega), if_neg (by omega), mTc_out (by omega) (by omega) ll (Nat.le_refl ll)]
/-- what split answers and changes -/
def mSplitA (P : Nat → Int64) (Mn : Nat → Int32) (Rn : Nat → Int64) (Po Pl Sp : Nat → Int32) (nc zz : Nat) (i : Int32) : Int32 × (Nat → Int64) × (Nat → Int32) × Int32 × Int32 × (Nat → Int64) × (Nat → Int32) × (Nat → Int32) × (Nat → Int32) :=
  if mIs (nI nc) i = 0 then (-1, P, Mn, nI zz, nI nc, Rn, Po, Pl, Sp)
  else if nI nc = 8 ∨ Mn (Po i.toNatClampNeg).toNatClampNeg = 4 then (-2, P, Mn, nI zz, nI nc, Rn, Po, Pl, Sp)
  else if 0 ≤ (mTake P (mKid P (Po i.toNatClampNeg).toNatClampNeg (Mn (Po i.toNatClampNeg).toNatClampNeg).toNatClampNeg (Sp i.toNatClampNeg).toInt64) Mn zz ((Mn (Po i.toNatClampNeg).toNatClampNeg).toNatClampNeg + 1)).1 then (nI nc, (mTake P (mKid P (Po i.toNatClampNeg).toNatClampNeg (Mn (Po i.toNatClampNeg).toNatClampNeg).toNatClampNeg (Sp i.toNatClampNeg).toInt64) Mn zz ((Mn (Po i.toNatClampNeg).toNatClampNeg).toNatClampNeg + 1)).2.1, (mTake P (mKid P (Po i.toNatClampNeg).toNatClampNeg (Mn (Po i.toNatClampNeg).toNatClampNeg).toNatClampNeg (Sp i.toNatClampNeg).toInt64) Mn zz ((Mn (Po i.toNatClampNeg).toNatClampNeg).toNatClampNeg + 1)).2.2.1, (mTake P (mKid P (Po i.toNatClampNeg).toNatClampNeg (Mn (Po i.toNatClampNeg).toNatClampNeg).toNatClampNeg (Sp i.toNatClampNeg).toInt64) Mn zz ((Mn (Po i.toNatClampNeg).toNatClampNeg).toNatClampNeg + 1)).2.2.2, nI (nc + 1), vp_updL Rn nc (Rn i.toNatClampNeg), upd Po nc (mTake P (mKid P (Po i.toNatClampNeg).toNatClampNeg (Mn (Po i.toNatClampNeg).toNatClampNeg).toNatClampNeg (Sp i.toNatClampNeg).toInt64) Mn zz ((Mn (Po i.toNatClampNeg).toNatClampNeg).toNatClampNeg + 1)).1, upd Pl nc 0, upd (upd Sp i.toNatClampNeg (Sp i.toNatClampNeg + 1)) nc 0)
  else (-2, (mTake P (mKid P (Po i.toNatClampNeg).toNatClampNeg (Mn (Po i.toNatClampNeg).toNatClampNeg).toNatClampNeg (Sp i.toNatClampNeg).toInt64) Mn zz ((Mn (Po i.toNatClampNeg).toNatClampNeg).toNatClampNeg + 1)).2.1, (mTake P (mKid P (Po i.toNatClampNeg).toNatClampNeg (Mn (Po i.toNatClampNeg).toNatClampNeg).toNatClampNeg (Sp i.toNatClampNeg).toInt64) Mn zz ((Mn (Po i.toNatClampNeg).toNatClampNeg).toNatClampNeg + 1)).2.2.1, (mTake P (mKid P (Po i.toNatClampNeg).toNatClampNeg (Mn (Po i.toNatClampNeg).toNatClampNeg).toNatClampNeg (Sp i.toNatClampNeg).toInt64) Mn zz ((Mn (Po i.toNatClampNeg).toNatClampNeg).toNatClampNeg + 1)).2.2.2, nI nc, Rn, Po, Pl, Sp)
/-- the same, where the stream's path is pp with ll words -/
def mSplitB (P : Nat → Int64) (Mn : Nat → Int32) (Rn : Nat → Int64) (Po Pl Sp : Nat → Int32) (nc zz j pp ll : Nat) (t : Int32 × sMp) : Int32 × (Nat → Int64) × (Nat → Int32) × Int32 × Int32 × (Nat → Int64) × (Nat → Int32) × (Nat → Int32) × (Nat → Int32) :=
  if 0 ≤ t.1 then (nI nc, t.2.1, t.2.2.1, t.2.2.2, nI (nc + 1), vp_updL Rn nc (Rn j), upd Po nc t.1, upd Pl nc 0, upd (upd Sp j (Sp j + 1)) nc 0) else (-2, t.2.1, t.2.2.1, t.2.2.2, nI nc, Rn, Po, Pl, Sp)
theorem split_N {P : Nat → Int64} {Mn : Nat → Int32} {Rn : Nat → Int64} {Po Pl Sp : Nat → Int32} {nc zz : Nat} {i : Int32} (h : mIs (nI nc) i = 0) : mSplitA P Mn Rn Po Pl Sp nc zz i = (-1, P, Mn, nI zz, nI nc, Rn, Po, Pl, Sp) := if_pos h
theorem split_F {P : Nat → Int64} {Mn : Nat → Int32} {Rn : Nat → Int64} {Po Pl Sp : Nat → Int32} {nc zz pp : Nat} {i : Int32} (h : ¬ mIs (nI nc) i = 0) (hp : Po i.toNatClampNeg = nI pp) (hF : nI nc = 8 ∨ Mn (nI pp).toNatClampNeg = 4) : mSplitA P Mn Rn Po Pl Sp nc zz i = (-2, P, Mn, nI zz, nI nc, Rn, Po, Pl, Sp) := by
  unfold mSplitA
  rw [if_neg h, hp, if_pos hF]
theorem split_B {P : Nat → Int64} {Mn : Nat → Int32} {Rn : Nat → Int64} {Po Pl Sp : Nat → Int32} {nc zz j pp ll : Nat} (h : ¬ mIs (nI nc) (nI j) = 0) (hn : nc < 8) (hj : j < nc) (hp : Po j = nI pp) (hpp : pp < 24) (hl0 : Mn pp = nI ll) (hl : ll < 4) : mSplitA P Mn Rn Po Pl Sp nc zz (nI j) = mSplitB P Mn Rn Po Pl Sp nc zz j pp ll (mTake P (mKid P pp ll (Sp j).toInt64) Mn zz (ll + 1)) := by
  have e1 : (nI j).toNatClampNeg = j := nI_clamp (by omega)
  have e2 : (nI pp).toNatClampNeg = pp := nI_clamp (by omega)
  have e3 : (nI ll).toNatClampNeg = ll := nI_clamp (by omega)
  have hF : ¬ (nI nc = 8 ∨ nI ll = 4) := by
    intro hh
    rcases hh with hh | hh
    · exact absurd ((nI_eq (by omega) (by decide)).mp (show nI nc = nI 8 from hh)) (by omega)
    · exact absurd ((nI_eq (by omega) (by decide)).mp (show nI ll = nI 4 from hh)) (by omega)
  unfold mSplitA mSplitB
  rw [if_neg h]
  simp only [e1, hp, e2, hl0, e3]
  rw [if_neg hF]
theorem mSplit_eq {P : Nat → Int64} {Mn : Nat → Int32} {T As Rn : Nat → Int64} {Po Pl Sp : Nat → Int32} {nc zz j pp ll : Nat} (hn : nc < 8) (hj : j < nc) (hl : ll < 4) : mSplit P Mn T As Rn Po Pl Sp nc zz pp ll (nI j) = ((mSplitB P Mn Rn Po Pl Sp nc zz j pp ll (mTake P (mKid P pp ll (Sp j).toInt64) Mn zz (ll + 1))).1, T, mAs T 4 As, ((mSplitB P Mn Rn Po Pl Sp nc zz j pp ll (mTake P (mKid P pp ll (Sp j).toInt64) Mn zz (ll + 1))).2.1, (mSplitB P Mn Rn Po Pl Sp nc zz j pp ll (mTake P (mKid P pp ll (Sp j).toInt64) Mn zz (ll + 1))).2.2.1, (mSplitB P Mn Rn Po Pl Sp nc zz j pp ll (mTake P (mKid P pp ll (Sp j).toInt64) Mn zz (ll + 1))).2.2.2.1), (mSplitB P Mn Rn Po Pl Sp nc zz j pp ll (mTake P (mKid P pp ll (Sp j).toInt64) Mn zz (ll + 1))).2.2.2.2) := by
  have e1 : (nI j).toNatClampNeg = j := nI_clamp (by omega)
  have e4 : (nI nc).toNatClampNeg = nc := nI_clamp (by omega)
  have hcg := mTake_congr (P := P) (Mn := Mn) (z := zz) (show ll + 1 ≤ 4 by omega) (kid_m (P := P) (T := T) (Sp := Sp) (pp := pp) (i := nI j) hl)
  rw [e1] at hcg
  unfold mSplit
  rw [mAs_back hl, hcg]
  generalize mTake P (mKid P pp ll (Sp j).toInt64) Mn zz (ll + 1) = t
  unfold mSplitB mBegin
  by_cases c : 0 ≤ t.1
  · simp only [if_pos c, e1, e4, nI_1, Int32.add_sub_cancel]
    rw [← nI_1, Int32.add_sub_cancel, nI_1]
  · simp only [if_neg c]
/-! the law's world: the class's cells stand for the numbers and rows (sd pz tc ..), so do the reference's -/
def CA (A : Nat → Prop) (D : va_G) (ad : Nat → Nat) (ca : Nat → ClassId) (X : va_W) (sd : Int64) (pz : Int32) (tc : Int32) (st : Int32) (tr : Int32) (sc : Int32) (P : Nat → Int64) (Mn : Nat → Int32) (T : Nat → Int64) (Wt : Nat → Int64) (Rn : Nat → Int64) (Po : Nat → Int32) (Pl : Nat → Int32) (Sp : Nat → Int32) (Ks : Nat → Int32) (Kp : Nat → Int32) (Kc : Nat → Int32) (Ik : Nat → Int32) (O : Nat → Int32) (H : Heap) : Prop := ∃ (SA KA : Nat → Option Nat) (Ky Ch : Nat → Int64) (L : List Nat) (f : Nat → va_E), vKy pz.toNatClampNeg Ky P Mn ∧ okS sc.toNatClampNeg SA L f Rn Po Pl Sp ∧ okK KA L f Ik Ks Kp Kc ∧ va_P D vwCl (wC ad ca sd tc sc tr st pz T Wt O SA KA P Mn Ky Ch (X ++ va_pl L f)) H ∧ va_D A (wC ad ca sd tc sc tr st pz T Wt O SA KA P Mn Ky Ch (X ++ va_pl L f))
def MA (A : Nat → Prop) (D : va_G) (bd : Nat → Nat) (cb : Nat → ClassId) (Y : va_W) (sd : Int64) (pz : Int32) (tc : Int32) (st : Int32) (tr : Int32) (sc : Int32) (P : Nat → Int64) (Mn : Nat → Int32) (T : Nat → Int64) (Wt : Nat → Int64) (Rn : Nat → Int64) (Po : Nat → Int32) (Pl : Nat → Int32) (Sp : Nat → Int32) (Ks : Nat → Int32) (Kp : Nat → Int32) (Kc : Nat → Int32) (Ik : Nat → Int32) (O : Nat → Int32) (H : Heap) : Prop := ∃ (gr : Int32) (As : Nat → Int64), va_P D vwCl (wM bd cb sd pz tc st tr sc gr P Mn T Wt Rn Po Pl Sp Ks Kp Kc Ik O As Y) H ∧ va_D A (wM bd cb sd pz tc st tr sc gr P Mn T Wt Rn Po Pl Sp Ks Kp Kc Ik O As Y)
def aI (pz tc sc : Int32) (Mn Po Ik Ks : Nat → Int32) (Wt : Nat → Int64) : Prop := ∃ tt zz nc : Nat, tt ≤ 4 ∧ zz ≤ 24 ∧ nc ≤ 8 ∧ tc = nI tt ∧ pz = nI zz ∧ sc = nI nc ∧ vLn zz Mn ∧ vPo nc zz Po ∧ vKs nc Ik Ks ∧ vWt Wt
section RELS
variable {p : Program} {l : Launch} {e : Env} {s : State} {m : MethodId} {below : List Frame} {meth : Method} {c : Code} {b : Nat} {Q : State → Prop} {H : Heap} {locs : List Loc} {cells slots pc : Nat} {ls : Array Slot} {rest : List Value} {D : va_G} {ad bd : Nat → Nat} {ca cb : Nat → ClassId} {X Y : va_W} {A0 : Nat → Prop}
variable {sd : Int64} {pz : Int32} {tc : Int32} {st : Int32} {tr : Int32} {sc : Int32} {P : Nat → Int64} {Mn : Nat → Int32} {T : Nat → Int64} {Wt : Nat → Int64} {Rn : Nat → Int64} {Po : Nat → Int32} {Pl : Nat → Int32} {Sp : Nat → Int32} {Ks : Nat → Int32} {Kp : Nat → Int32} {Kc : Nat → Int32} {Ik : Nat → Int32} {O : Nat → Int32}
set_option maxHeartbeats 1000000 in
set_option maxRecDepth 100000 in
theorem rC_part (F : CallFix p m c cL_law 4 s #[Value.ref b] wsL_law RL) (hK : nkK D (tC ca) s) (hI : aI pz tc sc Mn Po Ik Ks Wt) (hW : CA A0 D ad ca X sd pz tc st tr sc P Mn T Wt Rn Po Pl Sp Ks Kp Kc Ik O H) (hS : va_S A0 s.heap H locs) (hA : ∀ q : Nat, s.heap.size ≤ q → A0 q) (hsz : ls.size = 4) (hr : (rest.map fun v => v.category).sum ≤ 8) (hc : cells + 1 ≤ 726897) (hs : slots + 4 ≤ 6921558) {v : Int64} (hdg : decode cL_law pc = .ok (.invokevirtual 23, 3))
    (kk : ∀ (r : Int32) (H1 : Heap) (locs1 : List Loc), r = (mPart tc.toNatClampNeg T v).1 → CA A0 D ad ca X sd pz ((mPart tc.toNatClampNeg T v).2.1) st tr sc P Mn ((mPart tc.toNatClampNeg T v).2.2) Wt Rn Po Pl Sp Ks Kp Kc Ik O H1 → va_S A0 s.heap H1 locs1 → W p l e room_1 s m #[Value.ref b] below meth c H1 locs1 (cells + 1) (slots + 4) Q (F0 m (pc + 3) ls (.int r :: rest))) : W p l e room_1 s m #[Value.ref b] below meth c H locs cells slots Q (F0 m pc ls (.long v :: .ref (ad 0) :: rest)) := by
  obtain ⟨tt, zz, nc, htt, hzz, hnc, rfl, rfl, rfl, hLn, hPo, hKs, hWt⟩ := hI
  have hEt : (nI tt).toNatClampNeg = tt := nI_clamp (by omega)
  have hEz : (nI zz).toNatClampNeg = zz := nI_clamp (by omega)
  have hEn : (nI nc).toNatClampNeg = nc := nI_clamp (by omega)
  try simp only [hEt, hEz, hEn] at kk
  obtain ⟨SA, KA, Ky, Ch, L, f, hKy, hok, hkk, hP, hD⟩ := hW
  have hKz : vKy zz Ky P Mn := by rw [hEz] at hKy; exact hKy
  have hoz : okS nc SA L f Rn Po Pl Sp := by rw [hEn] at hok; exact hok
  refine nk_VI (As := [.long v]) (rest := rest) F (mX3_part l D ad ca sd (nI tt) (nI nc) tr st (nI zz) T Wt O SA KA P Mn Ky Ch (X ++ va_pl L f) v (nI_pos' (by omega))) (cwV 1 F.2.2.2.2 gL_law_X3_part rfl rfl rfl (by decide +kernel) ⟨Nat.le_of_ble_eq_true rfl, Nat.le_of_ble_eq_true rfl⟩) hK hP hD hS hA 0 3 rfl rfl rfl rfl hsz rfl hr hdg ⟨by show cells + 0 ≤ 726897; omega, by show slots + 0 ≤ 6921558; omega⟩ (fun r u H locs hw hP hD hS => ?_)
  rw [part_eq htt] at hw
  obtain rfl : r = (mPart tt T v).1 := by rw [hw]
  obtain rfl : u = (mPart tt T v).2 := by rw [hw]
  refine W.widen (k := cells + 1) (n := slots + 4) (by omega) (by omega) ?_
  exact kk _ _ _ rfl ⟨SA, KA, Ky, Ch, L, f, hKy, hok, hkk, hP, hD⟩ hS
set_option maxHeartbeats 1000000 in
set_option maxRecDepth 100000 in
theorem rC_path (F : CallFix p m c cL_law 4 s #[Value.ref b] wsL_law RL) (hK : nkK D (tC ca) s) (hI : aI pz tc sc Mn Po Ik Ks Wt) (hW : CA A0 D ad ca X sd pz tc st tr sc P Mn T Wt Rn Po Pl Sp Ks Kp Kc Ik O H) (hS : va_S A0 s.heap H locs) (hA : ∀ q : Nat, s.heap.size ≤ q → A0 q) (hsz : ls.size = 4) (hr : (rest.map fun v => v.category).sum ≤ 8) (hc : cells + 1 ≤ 726897) (hs : slots + 4 ≤ 6921558) (hdg : decode cL_law pc = .ok (.invokevirtual 28, 3))
    (kk : ∀ (r : Int32) (H1 : Heap) (locs1 : List Loc), r = (mPath P T Mn pz.toNatClampNeg tc.toNatClampNeg).1 → CA A0 D ad ca X sd ((mPath P T Mn pz.toNatClampNeg tc.toNatClampNeg).2.2.2.2) ((mPath P T Mn pz.toNatClampNeg tc.toNatClampNeg).2.1) st tr sc ((mPath P T Mn pz.toNatClampNeg tc.toNatClampNeg).2.2.1) ((mPath P T Mn pz.toNatClampNeg tc.toNatClampNeg).2.2.2.1) T Wt Rn Po Pl Sp Ks Kp Kc Ik O H1 → va_S A0 s.heap H1 locs1 → W p l e room_1 s m #[Value.ref b] below meth c H1 locs1 (cells + 1) (slots + 4) Q (F0 m (pc + 3) ls (.int r :: rest))) : W p l e room_1 s m #[Value.ref b] below meth c H locs cells slots Q (F0 m pc ls (.ref (ad 0) :: rest)) := by
  obtain ⟨tt, zz, nc, htt, hzz, hnc, rfl, rfl, rfl, hLn, hPo, hKs, hWt⟩ := hI
  have hEt : (nI tt).toNatClampNeg = tt := nI_clamp (by omega)
  have hEz : (nI zz).toNatClampNeg = zz := nI_clamp (by omega)
  have hEn : (nI nc).toNatClampNeg = nc := nI_clamp (by omega)
  try simp only [hEt, hEz, hEn] at kk
  obtain ⟨SA, KA, Ky, Ch, L, f, hKy, hok, hkk, hP, hD⟩ := hW
  have hKz : vKy zz Ky P Mn := by rw [hEz] at hKy; exact hKy
  have hoz : okS nc SA L f Rn Po Pl Sp := by rw [hEn] at hok; exact hok
  obtain ⟨Ky', z', hp1, hp2, hp3, hp4⟩ := path_rel (T := T) hzz htt hLn hKz
  refine nk_VI (As := []) (rest := rest) F (mX3_path l D ad ca sd (nI nc) tr st T Wt O SA KA P Mn Ky Ch (X ++ va_pl L f) zz tt hzz htt) (cwV 0 F.2.2.2.2 gL_law_X3_path rfl rfl rfl (by decide +kernel) ⟨Nat.le_of_ble_eq_true rfl, Nat.le_of_ble_eq_true rfl⟩) hK hP hD hS hA 0 3 rfl rfl rfl rfl hsz rfl hr hdg ⟨by show cells + 0 ≤ 726897; omega, by show slots + 0 ≤ 6921558; omega⟩ (fun r u H locs hw hP hD hS => ?_)
  rw [hp1] at hw
  obtain ⟨rfl, rfl⟩ := Prod.mk.inj hw
  refine W.widen (k := cells + 1) (n := slots + 4) (by omega) (by omega) ?_
  exact kk _ _ _ rfl ⟨SA, KA, Ky', Ch, L, f, (by rw [hp2, nI_clamp (by omega)]; exact hp4), hok, hkk, hP, hD⟩ hS
set_option maxHeartbeats 1000000 in
set_option maxRecDepth 100000 in
theorem rC_key (F : CallFix p m c cL_law 4 s #[Value.ref b] wsL_law RL) (hK : nkK D (tC ca) s) (hI : aI pz tc sc Mn Po Ik Ks Wt) (hW : CA A0 D ad ca X sd pz tc st tr sc P Mn T Wt Rn Po Pl Sp Ks Kp Kc Ik O H) (hS : va_S A0 s.heap H locs) (hA : ∀ q : Nat, s.heap.size ≤ q → A0 q) (hsz : ls.size = 4) (hr : (rest.map fun v => v.category).sum ≤ 8) (hc : cells + 1 ≤ 726897) (hs : slots + 4 ≤ 6921558) {p0 : Int32} (hdg : decode cL_law pc = .ok (.invokevirtual 33, 3))
    (kk : ∀ (r : Int64) (H1 : Heap) (locs1 : List Loc), r = (mKeyM P Mn pz p0).1 → CA A0 D ad ca X sd pz tc ((mKeyM P Mn pz p0).2) tr sc P Mn T Wt Rn Po Pl Sp Ks Kp Kc Ik O H1 → va_S A0 s.heap H1 locs1 → W p l e room_1 s m #[Value.ref b] below meth c H1 locs1 (cells + 1) (slots + 4) Q (F0 m (pc + 3) ls (.long r :: rest))) : W p l e room_1 s m #[Value.ref b] below meth c H locs cells slots Q (F0 m pc ls (.int p0 :: .ref (ad 0) :: rest)) := by
  obtain ⟨tt, zz, nc, htt, hzz, hnc, rfl, rfl, rfl, hLn, hPo, hKs, hWt⟩ := hI
  have hEt : (nI tt).toNatClampNeg = tt := nI_clamp (by omega)
  have hEz : (nI zz).toNatClampNeg = zz := nI_clamp (by omega)
  have hEn : (nI nc).toNatClampNeg = nc := nI_clamp (by omega)
  try simp only [hEt, hEz, hEn] at kk
  obtain ⟨SA, KA, Ky, Ch, L, f, hKy, hok, hkk, hP, hD⟩ := hW
  have hKz : vKy zz Ky P Mn := by rw [hEz] at hKy; exact hKy
  have hoz : okS nc SA L f Rn Po Pl Sp := by rw [hEn] at hok; exact hok
  refine nk_VL (As := [.int p0]) (rest := rest) F (mX3_key l D ad ca sd (nI tt) (nI nc) tr st (nI zz) T Wt O SA KA P Mn Ky Ch (X ++ va_pl L f) p0 (nI_le hzz (by decide))) (cwV 1 F.2.2.2.2 gL_law_X3_key rfl rfl rfl (by decide +kernel) ⟨Nat.le_of_ble_eq_true rfl, Nat.le_of_ble_eq_true rfl⟩) hK hP hD hS hA 0 3 rfl rfl rfl rfl hsz rfl hr hdg ⟨by show cells + 0 ≤ 726897; omega, by show slots + 0 ≤ 6921558; omega⟩ (fun r u H locs hw hP hD hS => ?_)
  rw [keyC_eq hzz hKz] at hw
  obtain rfl : r = (mKeyM P Mn (nI zz) p0).1 := by rw [hw]
  obtain rfl : u = (mKeyM P Mn (nI zz) p0).2 := by rw [hw]
  refine W.widen (k := cells + 1) (n := slots + 4) (by omega) (by omega) ?_
  exact kk _ _ _ rfl ⟨SA, KA, Ky, Ch, L, f, hKy, hok, hkk, hP, hD⟩ hS
set_option maxHeartbeats 1000000 in
set_option maxRecDepth 100000 in
theorem rC_word (F : CallFix p m c cL_law 4 s #[Value.ref b] wsL_law RL) (hK : nkK D (tC ca) s) (hI : aI pz tc sc Mn Po Ik Ks Wt) (hW : CA A0 D ad ca X sd pz tc st tr sc P Mn T Wt Rn Po Pl Sp Ks Kp Kc Ik O H) (hS : va_S A0 s.heap H locs) (hA : ∀ q : Nat, s.heap.size ≤ q → A0 q) (hsz : ls.size = 4) (hr : (rest.map fun v => v.category).sum ≤ 8) (hc : cells + 1 ≤ 726897) (hs : slots + 4 ≤ 6921558) {a0 : Int64} {p0 : Int32} {k0 : Int64} (hdg : decode cL_law pc = .ok (.invokevirtual 38, 3))
    (kk : ∀ (r : Int64) (H1 : Heap) (locs1 : List Loc), r = (mWd sd P Mn pz a0 p0 k0).1 → CA A0 D ad ca X sd pz tc ((mWd sd P Mn pz a0 p0 k0).2) tr sc P Mn T Wt Rn Po Pl Sp Ks Kp Kc Ik O H1 → va_S A0 s.heap H1 locs1 → W p l e room_1 s m #[Value.ref b] below meth c H1 locs1 (cells + 1) (slots + 4) Q (F0 m (pc + 3) ls (.long r :: rest))) : W p l e room_1 s m #[Value.ref b] below meth c H locs cells slots Q (F0 m pc ls (.long k0 :: .int p0 :: .long a0 :: .ref (ad 0) :: rest)) := by
  obtain ⟨tt, zz, nc, htt, hzz, hnc, rfl, rfl, rfl, hLn, hPo, hKs, hWt⟩ := hI
  have hEt : (nI tt).toNatClampNeg = tt := nI_clamp (by omega)
  have hEz : (nI zz).toNatClampNeg = zz := nI_clamp (by omega)
  have hEn : (nI nc).toNatClampNeg = nc := nI_clamp (by omega)
  try simp only [hEt, hEz, hEn] at kk
  obtain ⟨SA, KA, Ky, Ch, L, f, hKy, hok, hkk, hP, hD⟩ := hW
  have hKz : vKy zz Ky P Mn := by rw [hEz] at hKy; exact hKy
  have hoz : okS nc SA L f Rn Po Pl Sp := by rw [hEn] at hok; exact hok
  refine nk_VL (As := [.long a0, .int p0, .long k0]) (rest := rest) F (mX3_word l D ad ca sd (nI tt) (nI nc) tr st (nI zz) T Wt O SA KA P Mn Ky Ch (X ++ va_pl L f) a0 p0 k0 (nI_le hzz (by decide))) (cwV 3 F.2.2.2.2 gL_law_X3_word rfl rfl rfl (by decide +kernel) ⟨Nat.le_of_ble_eq_true rfl, Nat.le_of_ble_eq_true rfl⟩) hK hP hD hS hA 0 3 rfl rfl rfl rfl hsz rfl hr hdg ⟨by show cells + 0 ≤ 726897; omega, by show slots + 0 ≤ 6921558; omega⟩ (fun r u H locs hw hP hD hS => ?_)
  rw [wordC_eq hzz hKz] at hw
  obtain rfl : r = (mWd sd P Mn (nI zz) a0 p0 k0).1 := by rw [hw]
  obtain rfl : u = (mWd sd P Mn (nI zz) a0 p0 k0).2 := by rw [hw]
  refine W.widen (k := cells + 1) (n := slots + 4) (by omega) (by omega) ?_
  exact kk _ _ _ rfl ⟨SA, KA, Ky, Ch, L, f, hKy, hok, hkk, hP, hD⟩ hS
set_option maxHeartbeats 1000000 in
set_option maxRecDepth 100000 in
theorem rC_span (F : CallFix p m c cL_law 4 s #[Value.ref b] wsL_law RL) (hK : nkK D (tC ca) s) (hI : aI pz tc sc Mn Po Ik Ks Wt) (hW : CA A0 D ad ca X sd pz tc st tr sc P Mn T Wt Rn Po Pl Sp Ks Kp Kc Ik O H) (hS : va_S A0 s.heap H locs) (hA : ∀ q : Nat, s.heap.size ≤ q → A0 q) (hsz : ls.size = 4) (hr : (rest.map fun v => v.category).sum ≤ 8) (hc : cells + 1 ≤ 726897) (hs : slots + 4 ≤ 6921558) {a0 : Int64} {p0 : Int32} {c0 : Int32} {n0 : Int64} (hdg : decode cL_law pc = .ok (.invokevirtual 43, 3))
    (kk : ∀ (r : Int64) (H1 : Heap) (locs1 : List Loc), True → CA A0 D ad ca X sd pz tc st ((mSpanM sd P Mn pz a0 p0 c0 n0 tr).2) sc P Mn T Wt Rn Po Pl Sp Ks Kp Kc Ik O H1 → va_S A0 s.heap H1 locs1 → W p l e room_1 s m #[Value.ref b] below meth c H1 locs1 (cells + 1) (slots + 4) Q (F0 m (pc + 3) ls (.long r :: rest))) : W p l e room_1 s m #[Value.ref b] below meth c H locs cells slots Q (F0 m pc ls (.long n0 :: .int c0 :: .int p0 :: .long a0 :: .ref (ad 0) :: rest)) := by
  obtain ⟨tt, zz, nc, htt, hzz, hnc, rfl, rfl, rfl, hLn, hPo, hKs, hWt⟩ := hI
  have hEt : (nI tt).toNatClampNeg = tt := nI_clamp (by omega)
  have hEz : (nI zz).toNatClampNeg = zz := nI_clamp (by omega)
  have hEn : (nI nc).toNatClampNeg = nc := nI_clamp (by omega)
  try simp only [hEt, hEz, hEn] at kk
  obtain ⟨SA, KA, Ky, Ch, L, f, hKy, hok, hkk, hP, hD⟩ := hW
  have hKz : vKy zz Ky P Mn := by rw [hEz] at hKy; exact hKy
  have hoz : okS nc SA L f Rn Po Pl Sp := by rw [hEn] at hok; exact hok
  refine nk_VL (As := [.long a0, .int p0, .int c0, .long n0]) (rest := rest) F (mX3_span l D ad ca sd (nI tt) (nI nc) tr st (nI zz) T Wt O SA KA P Mn Ky Ch (X ++ va_pl L f) a0 p0 c0 n0 (nI_le hzz (by decide))) (cwV 4 F.2.2.2.2 gL_law_X3_span rfl rfl rfl (by decide +kernel) ⟨Nat.le_of_ble_eq_true rfl, Nat.le_of_ble_eq_true rfl⟩) hK hP hD hS hA 0 3 rfl rfl rfl rfl hsz rfl hr hdg ⟨by show cells + 0 ≤ 726897; omega, by show slots + 0 ≤ 6921558; omega⟩ (fun r u H locs hw hP hD hS => ?_)
  have hu := (spanC_eq (sd := sd) (run := a0) (n := n0) (p := p0) (c := c0) (tr := tr) hzz hKz).1
  rw [hw] at hu
  have hu : u = (mSpanM sd P Mn (nI zz) a0 p0 c0 n0 tr).2 := hu
  subst hu
  refine W.widen (k := cells + 1) (n := slots + 4) (by omega) (by omega) ?_
  exact kk _ _ _ trivial ⟨SA, KA, Ky, Ch, L, f, hKy, hok, hkk, hP, hD⟩ hS
set_option maxHeartbeats 1000000 in
set_option maxRecDepth 100000 in
theorem rC_fraction (F : CallFix p m c cL_law 4 s #[Value.ref b] wsL_law RL) (hK : nkK D (tC ca) s) (hI : aI pz tc sc Mn Po Ik Ks Wt) (hW : CA A0 D ad ca X sd pz tc st tr sc P Mn T Wt Rn Po Pl Sp Ks Kp Kc Ik O H) (hS : va_S A0 s.heap H locs) (hA : ∀ q : Nat, s.heap.size ≤ q → A0 q) (hsz : ls.size = 4) (hr : (rest.map fun v => v.category).sum ≤ 8) (hc : cells + 1 ≤ 726897) (hs : slots + 4 ≤ 6921558) {a0 : Int64} {p0 : Int32} {c0 : Int32} {n0 : Int64} {k0 : Int64} (hdg : decode cL_law pc = .ok (.invokevirtual 48, 3))
    (kk : ∀ (r : Int32) (H1 : Heap) (locs1 : List Loc), r = (mFracM sd P Mn pz a0 p0 c0 n0 k0 tr).1 → CA A0 D ad ca X sd pz tc st ((mFracM sd P Mn pz a0 p0 c0 n0 k0 tr).2) sc P Mn T Wt Rn Po Pl Sp Ks Kp Kc Ik O H1 → va_S A0 s.heap H1 locs1 → W p l e room_1 s m #[Value.ref b] below meth c H1 locs1 (cells + 1) (slots + 4) Q (F0 m (pc + 3) ls (.int r :: rest))) : W p l e room_1 s m #[Value.ref b] below meth c H locs cells slots Q (F0 m pc ls (.long k0 :: .long n0 :: .int c0 :: .int p0 :: .long a0 :: .ref (ad 0) :: rest)) := by
  obtain ⟨tt, zz, nc, htt, hzz, hnc, rfl, rfl, rfl, hLn, hPo, hKs, hWt⟩ := hI
  have hEt : (nI tt).toNatClampNeg = tt := nI_clamp (by omega)
  have hEz : (nI zz).toNatClampNeg = zz := nI_clamp (by omega)
  have hEn : (nI nc).toNatClampNeg = nc := nI_clamp (by omega)
  try simp only [hEt, hEz, hEn] at kk
  obtain ⟨SA, KA, Ky, Ch, L, f, hKy, hok, hkk, hP, hD⟩ := hW
  have hKz : vKy zz Ky P Mn := by rw [hEz] at hKy; exact hKy
  have hoz : okS nc SA L f Rn Po Pl Sp := by rw [hEn] at hok; exact hok
  refine nk_VI (As := [.long a0, .int p0, .int c0, .long n0, .long k0]) (rest := rest) F (mX3_fraction l D ad ca sd (nI tt) (nI nc) tr st (nI zz) T Wt O SA KA P Mn Ky Ch (X ++ va_pl L f) a0 p0 c0 n0 k0 (nI_le hzz (by decide))) (cwV 5 F.2.2.2.2 gL_law_X3_fraction rfl rfl rfl (by decide +kernel) ⟨Nat.le_of_ble_eq_true rfl, Nat.le_of_ble_eq_true rfl⟩) hK hP hD hS hA 0 3 rfl rfl rfl rfl hsz rfl hr hdg ⟨by show cells + 0 ≤ 726897; omega, by show slots + 0 ≤ 6921558; omega⟩ (fun r u H locs hw hP hD hS => ?_)
  rw [fracC_eq hzz hKz] at hw
  obtain rfl : r = (mFracM sd P Mn (nI zz) a0 p0 c0 n0 k0 tr).1 := by rw [hw]
  obtain rfl : u = (mFracM sd P Mn (nI zz) a0 p0 c0 n0 k0 tr).2 := by rw [hw]
  refine W.widen (k := cells + 1) (n := slots + 4) (by omega) (by omega) ?_
  exact kk _ _ _ rfl ⟨SA, KA, Ky, Ch, L, f, hKy, hok, hkk, hP, hD⟩ hS
set_option maxHeartbeats 1000000 in
set_option maxRecDepth 100000 in
theorem rC_weight (F : CallFix p m c cL_law 4 s #[Value.ref b] wsL_law RL) (hK : nkK D (tC ca) s) (hI : aI pz tc sc Mn Po Ik Ks Wt) (hW : CA A0 D ad ca X sd pz tc st tr sc P Mn T Wt Rn Po Pl Sp Ks Kp Kc Ik O H) (hS : va_S A0 s.heap H locs) (hA : ∀ q : Nat, s.heap.size ≤ q → A0 q) (hsz : ls.size = 4) (hr : (rest.map fun v => v.category).sum ≤ 8) (hc : cells + 1 ≤ 726897) (hs : slots + 4 ≤ 6921558) {k0 : Int32} {w0 : Int64} (hdg : decode cL_law pc = .ok (.invokevirtual 53, 3))
    (kk : ∀ (r : Int32) (H1 : Heap) (locs1 : List Loc), r = (mWeight Wt k0 w0).1 → CA A0 D ad ca X sd pz tc st tr sc P Mn T ((mWeight Wt k0 w0).2) Rn Po Pl Sp Ks Kp Kc Ik O H1 → va_S A0 s.heap H1 locs1 → W p l e room_1 s m #[Value.ref b] below meth c H1 locs1 (cells + 1) (slots + 4) Q (F0 m (pc + 3) ls (.int r :: rest))) : W p l e room_1 s m #[Value.ref b] below meth c H locs cells slots Q (F0 m pc ls (.long w0 :: .int k0 :: .ref (ad 0) :: rest)) := by
  obtain ⟨tt, zz, nc, htt, hzz, hnc, rfl, rfl, rfl, hLn, hPo, hKs, hWt⟩ := hI
  have hEt : (nI tt).toNatClampNeg = tt := nI_clamp (by omega)
  have hEz : (nI zz).toNatClampNeg = zz := nI_clamp (by omega)
  have hEn : (nI nc).toNatClampNeg = nc := nI_clamp (by omega)
  try simp only [hEt, hEz, hEn] at kk
  obtain ⟨SA, KA, Ky, Ch, L, f, hKy, hok, hkk, hP, hD⟩ := hW
  have hKz : vKy zz Ky P Mn := by rw [hEz] at hKy; exact hKy
  have hoz : okS nc SA L f Rn Po Pl Sp := by rw [hEn] at hok; exact hok
  refine nk_VI (As := [.int k0, .long w0]) (rest := rest) F (mX3_weight l D ad ca sd (nI tt) (nI nc) tr st (nI zz) T Wt O SA KA P Mn Ky Ch (X ++ va_pl L f) k0 w0) (cwV 2 F.2.2.2.2 gL_law_X3_weight rfl rfl rfl (by decide +kernel) ⟨Nat.le_of_ble_eq_true rfl, Nat.le_of_ble_eq_true rfl⟩) hK hP hD hS hA 0 3 rfl rfl rfl rfl hsz rfl hr hdg ⟨by show cells + 0 ≤ 726897; omega, by show slots + 0 ≤ 6921558; omega⟩ (fun r u H locs hw hP hD hS => ?_)
  rw [weight_eq] at hw
  obtain rfl : r = (mWeight Wt k0 w0).1 := by rw [hw]
  obtain rfl : u = (mWeight Wt k0 w0).2 := by rw [hw]
  refine W.widen (k := cells + 1) (n := slots + 4) (by omega) (by omega) ?_
  exact kk _ _ _ rfl ⟨SA, KA, Ky, Ch, L, f, hKy, hok, hkk, hP, hD⟩ hS
set_option maxHeartbeats 1000000 in
set_option maxRecDepth 100000 in
theorem rC_pick (F : CallFix p m c cL_law 4 s #[Value.ref b] wsL_law RL) (hK : nkK D (tC ca) s) (hI : aI pz tc sc Mn Po Ik Ks Wt) (hW : CA A0 D ad ca X sd pz tc st tr sc P Mn T Wt Rn Po Pl Sp Ks Kp Kc Ik O H) (hS : va_S A0 s.heap H locs) (hA : ∀ q : Nat, s.heap.size ≤ q → A0 q) (hsz : ls.size = 4) (hr : (rest.map fun v => v.category).sum ≤ 8) (hc : cells + 1 ≤ 726897) (hs : slots + 4 ≤ 6921558) {a0 : Int64} {p0 : Int32} {c0 : Int32} (hdg : decode cL_law pc = .ok (.invokevirtual 58, 3))
    (kk : ∀ (r : Int32) (H1 : Heap) (locs1 : List Loc), r = (mPickM sd P Mn pz Wt a0 p0 c0 tr 0).1 → CA A0 D ad ca X sd pz tc st ((mPickM sd P Mn pz Wt a0 p0 c0 tr 0).2.1) sc P Mn T Wt Rn Po Pl Sp Ks Kp Kc Ik O H1 → va_S A0 s.heap H1 locs1 → W p l e room_1 s m #[Value.ref b] below meth c H1 locs1 (cells + 1) (slots + 4) Q (F0 m (pc + 3) ls (.int r :: rest))) : W p l e room_1 s m #[Value.ref b] below meth c H locs cells slots Q (F0 m pc ls (.int c0 :: .int p0 :: .long a0 :: .ref (ad 0) :: rest)) := by
  obtain ⟨tt, zz, nc, htt, hzz, hnc, rfl, rfl, rfl, hLn, hPo, hKs, hWt⟩ := hI
  have hEt : (nI tt).toNatClampNeg = tt := nI_clamp (by omega)
  have hEz : (nI zz).toNatClampNeg = zz := nI_clamp (by omega)
  have hEn : (nI nc).toNatClampNeg = nc := nI_clamp (by omega)
  try simp only [hEt, hEz, hEn] at kk
  obtain ⟨SA, KA, Ky, Ch, L, f, hKy, hok, hkk, hP, hD⟩ := hW
  have hKz : vKy zz Ky P Mn := by rw [hEz] at hKy; exact hKy
  have hoz : okS nc SA L f Rn Po Pl Sp := by rw [hEn] at hok; exact hok
  refine nk_VI (As := [.long a0, .int p0, .int c0]) (rest := rest) F (mX3_pick l D ad ca sd (nI tt) (nI nc) tr st (nI zz) T Wt O SA KA P Mn Ky Ch (X ++ va_pl L f) a0 p0 c0 (nI_le hzz (by decide))) (cwV 3 F.2.2.2.2 gL_law_X3_pick rfl rfl rfl (by decide +kernel) ⟨Nat.le_of_ble_eq_true rfl, Nat.le_of_ble_eq_true rfl⟩) hK hP hD hS hA 0 3 rfl rfl rfl rfl hsz rfl hr hdg ⟨by show cells + 0 ≤ 726897; omega, by show slots + 0 ≤ 6921558; omega⟩ (fun r u H locs hw hP hD hS => ?_)
  rw [pickC_eq (P := P) (Mn := Mn) (gr := 0) hzz hKz hWt] at hw
  obtain ⟨rfl, rfl⟩ := Prod.mk.inj hw
  refine W.widen (k := cells + 1) (n := slots + 4) (by omega) (by omega) ?_
  exact kk _ _ _ rfl ⟨SA, KA, Ky, Ch, L, f, hKy, hok, hkk, hP, hD⟩ hS
set_option maxHeartbeats 1000000 in
set_option maxRecDepth 100000 in
theorem rC_permuted (F : CallFix p m c cL_law 4 s #[Value.ref b] wsL_law RL) (hK : nkK D (tC ca) s) (hI : aI pz tc sc Mn Po Ik Ks Wt) (hW : CA A0 D ad ca X sd pz tc st tr sc P Mn T Wt Rn Po Pl Sp Ks Kp Kc Ik O H) (hS : va_S A0 s.heap H locs) (hA : ∀ q : Nat, s.heap.size ≤ q → A0 q) (hsz : ls.size = 4) (hr : (rest.map fun v => v.category).sum ≤ 8) (hc : cells + 1 ≤ 726897) (hs : slots + 4 ≤ 6921558) {a0 : Int64} {p0 : Int32} {c0 : Int32} {n0 : Int32} {k0 : Int32} (hdg : decode cL_law pc = .ok (.invokevirtual 63, 3))
    (kk : ∀ (r : Int32) (H1 : Heap) (locs1 : List Loc), r = (mPermM sd P Mn pz O a0 p0 c0 n0 k0 tr).1 → CA A0 D ad ca X sd pz tc st ((mPermM sd P Mn pz O a0 p0 c0 n0 k0 tr).2.2) sc P Mn T Wt Rn Po Pl Sp Ks Kp Kc Ik ((mPermM sd P Mn pz O a0 p0 c0 n0 k0 tr).2.1) H1 → va_S A0 s.heap H1 locs1 → W p l e room_1 s m #[Value.ref b] below meth c H1 locs1 (cells + 1) (slots + 4) Q (F0 m (pc + 3) ls (.int r :: rest))) : W p l e room_1 s m #[Value.ref b] below meth c H locs cells slots Q (F0 m pc ls (.int k0 :: .int n0 :: .int c0 :: .int p0 :: .long a0 :: .ref (ad 0) :: rest)) := by
  obtain ⟨tt, zz, nc, htt, hzz, hnc, rfl, rfl, rfl, hLn, hPo, hKs, hWt⟩ := hI
  have hEt : (nI tt).toNatClampNeg = tt := nI_clamp (by omega)
  have hEz : (nI zz).toNatClampNeg = zz := nI_clamp (by omega)
  have hEn : (nI nc).toNatClampNeg = nc := nI_clamp (by omega)
  try simp only [hEt, hEz, hEn] at kk
  obtain ⟨SA, KA, Ky, Ch, L, f, hKy, hok, hkk, hP, hD⟩ := hW
  have hKz : vKy zz Ky P Mn := by rw [hEz] at hKy; exact hKy
  have hoz : okS nc SA L f Rn Po Pl Sp := by rw [hEn] at hok; exact hok
  refine nk_VI (As := [.long a0, .int p0, .int c0, .int n0, .int k0]) (rest := rest) F (mX3_permuted l D ad ca sd (nI tt) (nI nc) tr st (nI zz) T Wt O SA KA P Mn Ky Ch (X ++ va_pl L f) a0 p0 c0 n0 k0 (nI_le hzz (by decide))) (cwV 5 F.2.2.2.2 gL_law_X3_permuted rfl rfl rfl (by decide +kernel) ⟨Nat.le_of_ble_eq_true rfl, Nat.le_of_ble_eq_true rfl⟩) hK hP hD hS hA 0 3 rfl rfl rfl rfl hsz rfl hr hdg ⟨by show cells + 0 ≤ 726897; omega, by show slots + 0 ≤ 6921558; omega⟩ (fun r u H locs hw hP hD hS => ?_)
  rw [permC_eq hzz hKz] at hw
  obtain rfl : r = (mPermM sd P Mn (nI zz) O a0 p0 c0 n0 k0 tr).1 := by rw [hw]
  obtain rfl : u = (mPermM sd P Mn (nI zz) O a0 p0 c0 n0 k0 tr).2 := by rw [hw]
  refine W.widen (k := cells + 1) (n := slots + 4) (by omega) (by omega) ?_
  exact kk _ _ _ rfl ⟨SA, KA, Ky, Ch, L, f, hKy, hok, hkk, hP, hD⟩ hS
set_option maxHeartbeats 1000000 in
set_option maxRecDepth 100000 in
theorem rC_tries (F : CallFix p m c cL_law 4 s #[Value.ref b] wsL_law RL) (hK : nkK D (tC ca) s) (hI : aI pz tc sc Mn Po Ik Ks Wt) (hW : CA A0 D ad ca X sd pz tc st tr sc P Mn T Wt Rn Po Pl Sp Ks Kp Kc Ik O H) (hS : va_S A0 s.heap H locs) (hA : ∀ q : Nat, s.heap.size ≤ q → A0 q) (hsz : ls.size = 4) (hr : (rest.map fun v => v.category).sum ≤ 8) (hc : cells + 1 ≤ 726897) (hs : slots + 4 ≤ 6921558) (hdg : decode cL_law pc = .ok (.invokevirtual 68, 3))
    (kk : ∀ (r : Int32) (H1 : Heap) (locs1 : List Loc), r = tr → CA A0 D ad ca X sd pz tc st tr sc P Mn T Wt Rn Po Pl Sp Ks Kp Kc Ik O H1 → va_S A0 s.heap H1 locs1 → W p l e room_1 s m #[Value.ref b] below meth c H1 locs1 (cells + 1) (slots + 4) Q (F0 m (pc + 3) ls (.int r :: rest))) : W p l e room_1 s m #[Value.ref b] below meth c H locs cells slots Q (F0 m pc ls (.ref (ad 0) :: rest)) := by
  obtain ⟨tt, zz, nc, htt, hzz, hnc, rfl, rfl, rfl, hLn, hPo, hKs, hWt⟩ := hI
  have hEt : (nI tt).toNatClampNeg = tt := nI_clamp (by omega)
  have hEz : (nI zz).toNatClampNeg = zz := nI_clamp (by omega)
  have hEn : (nI nc).toNatClampNeg = nc := nI_clamp (by omega)
  try simp only [hEt, hEz, hEn] at kk
  obtain ⟨SA, KA, Ky, Ch, L, f, hKy, hok, hkk, hP, hD⟩ := hW
  have hKz : vKy zz Ky P Mn := by rw [hEz] at hKy; exact hKy
  have hoz : okS nc SA L f Rn Po Pl Sp := by rw [hEn] at hok; exact hok
  refine nk_VRI (As := []) (rest := rest) F (mX3_tries l D ad ca sd (nI tt) (nI nc) tr st (nI zz) T Wt O SA KA P Mn Ky Ch (X ++ va_pl L f) ) (cwV 0 F.2.2.2.2 gL_law_X3_tries rfl rfl rfl (by decide +kernel) ⟨Nat.le_of_ble_eq_true rfl, Nat.le_of_ble_eq_true rfl⟩) hK hP 0 3 rfl rfl rfl rfl hsz rfl hr hdg ⟨by show cells ≤ 726897; omega, by show slots ≤ 6921558; omega⟩ (fun r hw => ?_)
  refine W.widen (k := cells + 1) (n := slots + 4) (by omega) (by omega) ?_
  exact kk _ _ _ hw ⟨SA, KA, Ky, Ch, L, f, hKy, hok, hkk, hP, hD⟩ hS
set_option maxHeartbeats 1000000 in
set_option maxRecDepth 100000 in
theorem rC_status (F : CallFix p m c cL_law 4 s #[Value.ref b] wsL_law RL) (hK : nkK D (tC ca) s) (hI : aI pz tc sc Mn Po Ik Ks Wt) (hW : CA A0 D ad ca X sd pz tc st tr sc P Mn T Wt Rn Po Pl Sp Ks Kp Kc Ik O H) (hS : va_S A0 s.heap H locs) (hA : ∀ q : Nat, s.heap.size ≤ q → A0 q) (hsz : ls.size = 4) (hr : (rest.map fun v => v.category).sum ≤ 8) (hc : cells + 1 ≤ 726897) (hs : slots + 4 ≤ 6921558) (hdg : decode cL_law pc = .ok (.invokevirtual 72, 3))
    (kk : ∀ (r : Int32) (H1 : Heap) (locs1 : List Loc), r = st → CA A0 D ad ca X sd pz tc st tr sc P Mn T Wt Rn Po Pl Sp Ks Kp Kc Ik O H1 → va_S A0 s.heap H1 locs1 → W p l e room_1 s m #[Value.ref b] below meth c H1 locs1 (cells + 1) (slots + 4) Q (F0 m (pc + 3) ls (.int r :: rest))) : W p l e room_1 s m #[Value.ref b] below meth c H locs cells slots Q (F0 m pc ls (.ref (ad 0) :: rest)) := by
  obtain ⟨tt, zz, nc, htt, hzz, hnc, rfl, rfl, rfl, hLn, hPo, hKs, hWt⟩ := hI
  have hEt : (nI tt).toNatClampNeg = tt := nI_clamp (by omega)
  have hEz : (nI zz).toNatClampNeg = zz := nI_clamp (by omega)
  have hEn : (nI nc).toNatClampNeg = nc := nI_clamp (by omega)
  try simp only [hEt, hEz, hEn] at kk
  obtain ⟨SA, KA, Ky, Ch, L, f, hKy, hok, hkk, hP, hD⟩ := hW
  have hKz : vKy zz Ky P Mn := by rw [hEz] at hKy; exact hKy
  have hoz : okS nc SA L f Rn Po Pl Sp := by rw [hEn] at hok; exact hok
  refine nk_VRI (As := []) (rest := rest) F (mX3_status l D ad ca sd (nI tt) (nI nc) tr st (nI zz) T Wt O SA KA P Mn Ky Ch (X ++ va_pl L f) ) (cwV 0 F.2.2.2.2 gL_law_X3_status rfl rfl rfl (by decide +kernel) ⟨Nat.le_of_ble_eq_true rfl, Nat.le_of_ble_eq_true rfl⟩) hK hP 0 3 rfl rfl rfl rfl hsz rfl hr hdg ⟨by show cells ≤ 726897; omega, by show slots ≤ 6921558; omega⟩ (fun r hw => ?_)
  refine W.widen (k := cells + 1) (n := slots + 4) (by omega) (by omega) ?_
  exact kk _ _ _ hw ⟨SA, KA, Ky, Ch, L, f, hKy, hok, hkk, hP, hD⟩ hS
set_option maxHeartbeats 1000000 in
set_option maxRecDepth 100000 in
theorem rC_counted (F : CallFix p m c cL_law 4 s #[Value.ref b] wsL_law RL) (hK : nkK D (tC ca) s) (hI : aI pz tc sc Mn Po Ik Ks Wt) (hW : CA A0 D ad ca X sd pz tc st tr sc P Mn T Wt Rn Po Pl Sp Ks Kp Kc Ik O H) (hS : va_S A0 s.heap H locs) (hA : ∀ q : Nat, s.heap.size ≤ q → A0 q) (hsz : ls.size = 4) (hr : (rest.map fun v => v.category).sum ≤ 8) (hc : cells + 1 ≤ 726897) (hs : slots + 4 ≤ 6921558) {b0 : Int32} {n0 : Int32} {i0 : Int32} (hdg : decode cL_law pc = .ok (.invokevirtual 112, 3))
    (kk : ∀ (r : Int32) (H1 : Heap) (locs1 : List Loc), r = (mCounted b0 n0 i0) → CA A0 D ad ca X sd pz tc st tr sc P Mn T Wt Rn Po Pl Sp Ks Kp Kc Ik O H1 → va_S A0 s.heap H1 locs1 → W p l e room_1 s m #[Value.ref b] below meth c H1 locs1 (cells + 1) (slots + 4) Q (F0 m (pc + 3) ls (.int r :: rest))) : W p l e room_1 s m #[Value.ref b] below meth c H locs cells slots Q (F0 m pc ls (.int i0 :: .int n0 :: .int b0 :: .ref (ad 0) :: rest)) := by
  obtain ⟨tt, zz, nc, htt, hzz, hnc, rfl, rfl, rfl, hLn, hPo, hKs, hWt⟩ := hI
  have hEt : (nI tt).toNatClampNeg = tt := nI_clamp (by omega)
  have hEz : (nI zz).toNatClampNeg = zz := nI_clamp (by omega)
  have hEn : (nI nc).toNatClampNeg = nc := nI_clamp (by omega)
  try simp only [hEt, hEz, hEn] at kk
  obtain ⟨SA, KA, Ky, Ch, L, f, hKy, hok, hkk, hP, hD⟩ := hW
  have hKz : vKy zz Ky P Mn := by rw [hEz] at hKy; exact hKy
  have hoz : okS nc SA L f Rn Po Pl Sp := by rw [hEn] at hok; exact hok
  refine nk_VRI (As := [.int b0, .int n0, .int i0]) (rest := rest) F (mX3_counted l D ad ca sd (nI tt) (nI nc) tr st (nI zz) T Wt O SA KA P Mn Ky Ch (X ++ va_pl L f) b0 n0 i0) (cwV 3 F.2.2.2.2 gL_law_X3_counted rfl rfl rfl (by decide +kernel) ⟨Nat.le_of_ble_eq_true rfl, Nat.le_of_ble_eq_true rfl⟩) hK hP 0 3 rfl rfl rfl rfl hsz rfl hr hdg ⟨by show cells ≤ 726897; omega, by show slots ≤ 6921558; omega⟩ (fun r hw => ?_)
  refine W.widen (k := cells + 1) (n := slots + 4) (by omega) (by omega) ?_
  exact kk _ _ _ (hw.trans (counted_eq b0 n0 i0)) ⟨SA, KA, Ky, Ch, L, f, hKy, hok, hkk, hP, hD⟩ hS
set_option maxHeartbeats 1000000 in
set_option maxRecDepth 100000 in
theorem rC_count (F : CallFix p m c cL_law 4 s #[Value.ref b] wsL_law RL) (hK : nkK D (tC ca) s) (hI : aI pz tc sc Mn Po Ik Ks Wt) (hW : CA A0 D ad ca X sd pz tc st tr sc P Mn T Wt Rn Po Pl Sp Ks Kp Kc Ik O H) (hS : va_S A0 s.heap H locs) (hA : ∀ q : Nat, s.heap.size ≤ q → A0 q) (hsz : ls.size = 4) (hr : (rest.map fun v => v.category).sum ≤ 8) (hc : cells + 1 ≤ 726897) (hs : slots + 4 ≤ 6921558) {x0 : Int32} (hdg : decode cL_law pc = .ok (.invokevirtual 117, 3))
    (kk : ∀ (r : Int32) (H1 : Heap) (locs1 : List Loc), r = (mCount pz sc tc x0) → CA A0 D ad ca X sd pz tc st tr sc P Mn T Wt Rn Po Pl Sp Ks Kp Kc Ik O H1 → va_S A0 s.heap H1 locs1 → W p l e room_1 s m #[Value.ref b] below meth c H1 locs1 (cells + 1) (slots + 4) Q (F0 m (pc + 3) ls (.int r :: rest))) : W p l e room_1 s m #[Value.ref b] below meth c H locs cells slots Q (F0 m pc ls (.int x0 :: .ref (ad 0) :: rest)) := by
  obtain ⟨tt, zz, nc, htt, hzz, hnc, rfl, rfl, rfl, hLn, hPo, hKs, hWt⟩ := hI
  have hEt : (nI tt).toNatClampNeg = tt := nI_clamp (by omega)
  have hEz : (nI zz).toNatClampNeg = zz := nI_clamp (by omega)
  have hEn : (nI nc).toNatClampNeg = nc := nI_clamp (by omega)
  try simp only [hEt, hEz, hEn] at kk
  obtain ⟨SA, KA, Ky, Ch, L, f, hKy, hok, hkk, hP, hD⟩ := hW
  have hKz : vKy zz Ky P Mn := by rw [hEz] at hKy; exact hKy
  have hoz : okS nc SA L f Rn Po Pl Sp := by rw [hEn] at hok; exact hok
  refine nk_VRI (As := [.int x0]) (rest := rest) F (mX3_count l D ad ca sd (nI tt) (nI nc) tr st (nI zz) T Wt O SA KA P Mn Ky Ch (X ++ va_pl L f) x0) (cwV 1 F.2.2.2.2 gL_law_X3_count rfl rfl rfl (by decide +kernel) ⟨Nat.le_of_ble_eq_true rfl, Nat.le_of_ble_eq_true rfl⟩) hK hP 0 3 rfl rfl rfl rfl hsz rfl hr hdg ⟨by show cells ≤ 726897; omega, by show slots ≤ 6921558; omega⟩ (fun r hw => ?_)
  refine W.widen (k := cells + 1) (n := slots + 4) (by omega) (by omega) ?_
  exact kk _ _ _ hw ⟨SA, KA, Ky, Ch, L, f, hKy, hok, hkk, hP, hD⟩ hS
set_option maxHeartbeats 1000000 in
set_option maxRecDepth 100000 in
theorem rC_open (F : CallFix p m c cL_law 4 s #[Value.ref b] wsL_law RL) (hK : nkK D (tC ca) s) (hI : aI pz tc sc Mn Po Ik Ks Wt) (hW : CA A0 D ad ca X sd pz tc st tr sc P Mn T Wt Rn Po Pl Sp Ks Kp Kc Ik O H) (hS : va_S A0 s.heap H locs) (hA : ∀ q : Nat, s.heap.size ≤ q → A0 q) (hsz : ls.size = 4) (hr : (rest.map fun v => v.category).sum ≤ 8) (hc : cells + 1 ≤ 726897) (hs : slots + 4 ≤ 6921558) {r0 : Int64} {p0 : Int32} (hdg : decode cL_law pc = .ok (.invokevirtual 76, 3))
    (kk : ∀ (r : Int32) (H1 : Heap) (locs1 : List Loc), r = (mOpen pz sc Rn Po Pl Sp r0 p0).1 → CA A0 D ad ca X sd pz tc st tr ((mOpen pz sc Rn Po Pl Sp r0 p0).2.1) P Mn T Wt ((mOpen pz sc Rn Po Pl Sp r0 p0).2.2.1) ((mOpen pz sc Rn Po Pl Sp r0 p0).2.2.2.1) ((mOpen pz sc Rn Po Pl Sp r0 p0).2.2.2.2.1) ((mOpen pz sc Rn Po Pl Sp r0 p0).2.2.2.2.2) Ks Kp Kc Ik O H1 → va_S A0 s.heap H1 locs1 → W p l e room_1 s m #[Value.ref b] below meth c H1 locs1 (cells + 1) (slots + 4) Q (F0 m (pc + 3) ls (.int r :: rest))) : W p l e room_1 s m #[Value.ref b] below meth c H locs cells slots Q (F0 m pc ls (.int p0 :: .long r0 :: .ref (ad 0) :: rest)) := by
  obtain ⟨tt, zz, nc, htt, hzz, hnc, rfl, rfl, rfl, hLn, hPo, hKs, hWt⟩ := hI
  have hEt : (nI tt).toNatClampNeg = tt := nI_clamp (by omega)
  have hEz : (nI zz).toNatClampNeg = zz := nI_clamp (by omega)
  have hEn : (nI nc).toNatClampNeg = nc := nI_clamp (by omega)
  try simp only [hEt, hEz, hEn] at kk
  obtain ⟨SA, KA, Ky, Ch, L, f, hKy, hok, hkk, hP, hD⟩ := hW
  have hKz : vKy zz Ky P Mn := by rw [hEz] at hKy; exact hKy
  have hoz : okS nc SA L f Rn Po Pl Sp := by rw [hEn] at hok; exact hok
  by_cases hB : fHas (nI zz) p0 = 0 ∨ ¬ nI nc < 8
  · skip
    rw [open_B hzz hnc hB] at kk
    refine nk_VI (As := [.long r0, .int p0]) (rest := rest) F (mX3_open_B l D ad ca sd (nI tt) (nI nc) tr st (nI zz) T Wt O SA KA P Mn Ky Ch X L f r0 p0 hB) (cwV 2 F.2.2.2.2 gL_law_X3_open rfl rfl rfl (by decide +kernel) ⟨Nat.le_of_ble_eq_true rfl, Nat.le_of_ble_eq_true rfl⟩) hK hP hD hS hA 0 3 rfl rfl rfl rfl hsz rfl hr hdg ⟨by show cells + 0 ≤ 726897; omega, by show slots + 0 ≤ 6921558; omega⟩ (fun r u H locs hw hP hD hS => ?_)
    refine W.widen (k := cells + 1) (n := slots + 4) (by omega) (by omega) ?_
    exact kk _ _ _ hw ⟨SA, KA, Ky, Ch, L, f, hKy, hok, hkk, hP, hD⟩ hS
  · skip
    have hB1 : ¬ fHas (nI zz) p0 = 0 := fun h => hB (Or.inl h)
    have hB2 : nI nc < 8 := Decidable.byContradiction (fun h => hB (Or.inr h))
    have hn8 := ns_lt_of (n := 8) hB2 rfl (by omega) (by decide)
    rw [open_A hzz hn8 hB1] at kk
    refine nk_VI (As := [.long r0, .int p0]) (rest := rest) F (mX3_open_A l D ad ca sd (nI tt) (nI nc) tr st (nI zz) T Wt O SA KA P Mn Ky Ch X L f r0 p0 hB1 (nI_pos' (by omega)) hB2) (cwV 2 F.2.2.2.2 gL_law_X3_open rfl rfl rfl (by decide +kernel) ⟨Nat.le_of_ble_eq_true rfl, Nat.le_of_ble_eq_true rfl⟩) hK hP hD hS hA 0 3 rfl rfl rfl rfl hsz rfl hr hdg ⟨by show cells + 1 ≤ 726897; omega, by show slots + 4 ≤ 6921558; omega⟩ (fun r u H locs hw hP hD hS => ?_)
    obtain ⟨q, s9⟩ := u
    obtain ⟨hr9, hq, hs9⟩ := hw
    have hs9 : nI (nc + 1) = s9 := by rw [← nI_1]; exact hs9
    subst hs9
    rw [hEn] at hP hD
    refine W.widen (k := cells + 1) (n := slots + 4) (by omega) (by omega) ?_
    exact kk _ _ _ hr9.symm ⟨_, KA, Ky, Ch, _, _, hKy, (by rw [nI_clamp (show nc + 1 < 2 ^ 31 by omega)]; exact okS_push hoz hq), (okK_old hkk hq), hP, hD⟩ hS
set_option maxHeartbeats 1000000 in
set_option maxRecDepth 100000 in
theorem rC_next (F : CallFix p m c cL_law 4 s #[Value.ref b] wsL_law RL) (hK : nkK D (tC ca) s) (hI : aI pz tc sc Mn Po Ik Ks Wt) (hW : CA A0 D ad ca X sd pz tc st tr sc P Mn T Wt Rn Po Pl Sp Ks Kp Kc Ik O H) (hS : va_S A0 s.heap H locs) (hA : ∀ q : Nat, s.heap.size ≤ q → A0 q) (hsz : ls.size = 4) (hr : (rest.map fun v => v.category).sum ≤ 8) (hc : cells + 1 ≤ 726897) (hs : slots + 4 ≤ 6921558) {i0 : Int32} {n0 : Int64} (hdg : decode cL_law pc = .ok (.invokevirtual 81, 3))
    (kk : ∀ (r : Int64) (H1 : Heap) (locs1 : List Loc), r = (mNext sd P Mn sc Rn Po Pl i0 n0 tr).1 → CA A0 D ad ca X sd pz tc st ((mNext sd P Mn sc Rn Po Pl i0 n0 tr).2.1) sc P Mn T Wt Rn Po ((mNext sd P Mn sc Rn Po Pl i0 n0 tr).2.2) Sp Ks Kp Kc Ik O H1 → va_S A0 s.heap H1 locs1 → W p l e room_1 s m #[Value.ref b] below meth c H1 locs1 (cells + 1) (slots + 4) Q (F0 m (pc + 3) ls (.long r :: rest))) : W p l e room_1 s m #[Value.ref b] below meth c H locs cells slots Q (F0 m pc ls (.long n0 :: .int i0 :: .ref (ad 0) :: rest)) := by
  obtain ⟨tt, zz, nc, htt, hzz, hnc, rfl, rfl, rfl, hLn, hPo, hKs, hWt⟩ := hI
  have hEt : (nI tt).toNatClampNeg = tt := nI_clamp (by omega)
  have hEz : (nI zz).toNatClampNeg = zz := nI_clamp (by omega)
  have hEn : (nI nc).toNatClampNeg = nc := nI_clamp (by omega)
  try simp only [hEt, hEz, hEn] at kk
  obtain ⟨SA, KA, Ky, Ch, L, f, hKy, hok, hkk, hP, hD⟩ := hW
  have hKz : vKy zz Ky P Mn := by rw [hEz] at hKy; exact hKy
  have hoz : okS nc SA L f Rn Po Pl Sp := by rw [hEn] at hok; exact hok
  rcases okS_at i0 hnc hoz with ⟨hI0, hAt⟩ | ⟨hI1, j, a, hj, rfl, hSA, hAt, haL, hfa⟩
  · skip
    rw [next_none hI0] at kk
    refine nk_VL (As := [.int i0, .long n0]) (rest := rest) F (mX3_next_N l D ad ca sd (nI tt) (nI nc) tr st (nI zz) T Wt O SA KA P Mn Ky Ch X L f i0 n0 (nI_le hnc (by decide)) hAt) (cwV 2 F.2.2.2.2 gL_law_X3_next rfl rfl rfl (by decide +kernel) ⟨Nat.le_of_ble_eq_true rfl, Nat.le_of_ble_eq_true rfl⟩) hK hP hD hS hA 0 3 rfl rfl rfl rfl hsz rfl hr hdg ⟨by show cells + 0 ≤ 726897; omega, by show slots + 0 ≤ 6921558; omega⟩ (fun r u H locs hw hP hD hS => ?_)
    refine W.widen (k := cells + 1) (n := slots + 4) (by omega) (by omega) ?_
    exact kk _ _ _ hw ⟨SA, KA, Ky, Ch, L, f, hKy, hok, hkk, hP, hD⟩ hS
  · skip
    obtain ⟨hky, hpo⟩ := ky_po hzz hPo hKz hj
    obtain ⟨f2, he, hf2⟩ := next_eq (sd := sd) (n := n0) (Rn := Rn) (Pl := Pl) (Sp := Sp) (a := a) (f := f) (tr := tr) hnc hj hI1 hky
    refine nk_VL (As := [.int (nI j), .long n0]) (rest := rest) F (mX3_next_S l D ad ca sd (nI tt) (nI nc) tr st (nI zz) T Wt O SA KA P Mn Ky Ch X L f (nI j) a (Rn j) (Po j) (Pl j) (Sp j) hAt haL hfa n0 (nI_le hnc (by decide)) hpo) (cwV 2 F.2.2.2.2 gL_law_X3_next rfl rfl rfl (by decide +kernel) ⟨Nat.le_of_ble_eq_true rfl, Nat.le_of_ble_eq_true rfl⟩) hK hP hD hS hA 0 3 rfl rfl rfl rfl hsz rfl hr hdg ⟨by show cells + 0 ≤ 726897; omega, by show slots + 0 ≤ 6921558; omega⟩ (fun r u H locs hw hP hD hS => ?_)
    rw [he] at hw
    obtain ⟨rfl, rfl⟩ := Prod.mk.inj hw
    have hok2 : okS nc SA L f2 Rn Po (mNext sd P Mn (nI nc) Rn Po Pl (nI j) n0 tr).2.2 Sp := hf2.elim (fun h => by rw [h.1, h.2]; exact hoz) (fun h => by rw [h.1, h.2]; exact okS_pl hoz hj hSA)
    have hkk2 : okK KA L f2 Ik Ks Kp Kc := hf2.elim (fun h => by rw [h.1]; exact hkk) (fun h => by rw [h.1]; exact okK_st hfa hkk)
    refine W.widen (k := cells + 1) (n := slots + 4) (by omega) (by omega) ?_
    exact kk _ _ _ rfl ⟨SA, KA, Ky, Ch, L, f2, hKy, (by rw [hEn]; exact hok2), hkk2, hP, hD⟩ hS
set_option maxHeartbeats 1000000 in
set_option maxRecDepth 100000 in
theorem rC_nextPick (F : CallFix p m c cL_law 4 s #[Value.ref b] wsL_law RL) (hK : nkK D (tC ca) s) (hI : aI pz tc sc Mn Po Ik Ks Wt) (hW : CA A0 D ad ca X sd pz tc st tr sc P Mn T Wt Rn Po Pl Sp Ks Kp Kc Ik O H) (hS : va_S A0 s.heap H locs) (hA : ∀ q : Nat, s.heap.size ≤ q → A0 q) (hsz : ls.size = 4) (hr : (rest.map fun v => v.category).sum ≤ 8) (hc : cells + 1 ≤ 726897) (hs : slots + 4 ≤ 6921558) {i0 : Int32} (hdg : decode cL_law pc = .ok (.invokevirtual 86, 3))
    (kk : ∀ (r : Int32) (H1 : Heap) (locs1 : List Loc), r = (mNPick sd P Mn sc Wt Rn Po Pl i0 tr 0).1 → CA A0 D ad ca X sd pz tc st ((mNPick sd P Mn sc Wt Rn Po Pl i0 tr 0).2.1) sc P Mn T Wt Rn Po ((mNPick sd P Mn sc Wt Rn Po Pl i0 tr 0).2.2.2) Sp Ks Kp Kc Ik O H1 → va_S A0 s.heap H1 locs1 → W p l e room_1 s m #[Value.ref b] below meth c H1 locs1 (cells + 1) (slots + 4) Q (F0 m (pc + 3) ls (.int r :: rest))) : W p l e room_1 s m #[Value.ref b] below meth c H locs cells slots Q (F0 m pc ls (.int i0 :: .ref (ad 0) :: rest)) := by
  obtain ⟨tt, zz, nc, htt, hzz, hnc, rfl, rfl, rfl, hLn, hPo, hKs, hWt⟩ := hI
  have hEt : (nI tt).toNatClampNeg = tt := nI_clamp (by omega)
  have hEz : (nI zz).toNatClampNeg = zz := nI_clamp (by omega)
  have hEn : (nI nc).toNatClampNeg = nc := nI_clamp (by omega)
  try simp only [hEt, hEz, hEn] at kk
  obtain ⟨SA, KA, Ky, Ch, L, f, hKy, hok, hkk, hP, hD⟩ := hW
  have hKz : vKy zz Ky P Mn := by rw [hEz] at hKy; exact hKy
  have hoz : okS nc SA L f Rn Po Pl Sp := by rw [hEn] at hok; exact hok
  rcases okS_at i0 hnc hoz with ⟨hI0, hAt⟩ | ⟨hI1, j, a, hj, rfl, hSA, hAt, haL, hfa⟩
  · skip
    rw [npick_none hI0] at kk
    refine nk_VI (As := [.int i0]) (rest := rest) F (mX3_nextPick_N l D ad ca sd (nI tt) (nI nc) tr st (nI zz) T Wt O SA KA P Mn Ky Ch X L f i0 (nI_le hnc (by decide)) hAt) (cwV 1 F.2.2.2.2 gL_law_X3_nextPick rfl rfl rfl (by decide +kernel) ⟨Nat.le_of_ble_eq_true rfl, Nat.le_of_ble_eq_true rfl⟩) hK hP hD hS hA 0 3 rfl rfl rfl rfl hsz rfl hr hdg ⟨by show cells + 0 ≤ 726897; omega, by show slots + 0 ≤ 6921558; omega⟩ (fun r u H locs hw hP hD hS => ?_)
    refine W.widen (k := cells + 1) (n := slots + 4) (by omega) (by omega) ?_
    exact kk _ _ _ hw ⟨SA, KA, Ky, Ch, L, f, hKy, hok, hkk, hP, hD⟩ hS
  · skip
    obtain ⟨hky, hpo⟩ := ky_po hzz hPo hKz hj
    obtain ⟨f2, he, hf2⟩ := npick_eq (sd := sd) (zz := zz) (Rn := Rn) (Pl := Pl) (Sp := Sp) (a := a) (f := f) (tr := tr) (gr := 0) hnc hj hI1 hky hWt
    refine nk_VI (As := [.int (nI j)]) (rest := rest) F (mX3_nextPick_S l D ad ca sd (nI tt) (nI nc) tr st (nI zz) T Wt O SA KA P Mn Ky Ch X L f (nI j) a (Rn j) (Po j) (Pl j) (Sp j) hAt haL hfa (nI_le hnc (by decide)) hpo) (cwV 1 F.2.2.2.2 gL_law_X3_nextPick rfl rfl rfl (by decide +kernel) ⟨Nat.le_of_ble_eq_true rfl, Nat.le_of_ble_eq_true rfl⟩) hK hP hD hS hA 0 3 rfl rfl rfl rfl hsz rfl hr hdg ⟨by show cells + 0 ≤ 726897; omega, by show slots + 0 ≤ 6921558; omega⟩ (fun r u H locs hw hP hD hS => ?_)
    rw [he] at hw
    obtain ⟨rfl, rfl⟩ := Prod.mk.inj hw
    have hok2 : okS nc SA L f2 Rn Po (mNPick sd P Mn (nI nc) Wt Rn Po Pl (nI j) tr 0).2.2.2 Sp := hf2.elim (fun h => by rw [h.1, h.2]; exact hoz) (fun h => by rw [h.1, h.2]; exact okS_pl hoz hj hSA)
    have hkk2 : okK KA L f2 Ik Ks Kp Kc := hf2.elim (fun h => by rw [h.1]; exact hkk) (fun h => by rw [h.1]; exact okK_st hfa hkk)
    refine W.widen (k := cells + 1) (n := slots + 4) (by omega) (by omega) ?_
    exact kk _ _ _ rfl ⟨SA, KA, Ky, Ch, L, f2, hKy, (by rw [hEn]; exact hok2), hkk2, hP, hD⟩ hS
set_option maxHeartbeats 1000000 in
set_option maxRecDepth 100000 in
theorem rC_skip (F : CallFix p m c cL_law 4 s #[Value.ref b] wsL_law RL) (hK : nkK D (tC ca) s) (hI : aI pz tc sc Mn Po Ik Ks Wt) (hW : CA A0 D ad ca X sd pz tc st tr sc P Mn T Wt Rn Po Pl Sp Ks Kp Kc Ik O H) (hS : va_S A0 s.heap H locs) (hA : ∀ q : Nat, s.heap.size ≤ q → A0 q) (hsz : ls.size = 4) (hr : (rest.map fun v => v.category).sum ≤ 8) (hc : cells + 1 ≤ 726897) (hs : slots + 4 ≤ 6921558) {i0 : Int32} {n0 : Int32} (hdg : decode cL_law pc = .ok (.invokevirtual 95, 3))
    (kk : ∀ (r : Int32) (H1 : Heap) (locs1 : List Loc), r = (mSkip sc Pl i0 n0).1 → CA A0 D ad ca X sd pz tc st tr sc P Mn T Wt Rn Po ((mSkip sc Pl i0 n0).2) Sp Ks Kp Kc Ik O H1 → va_S A0 s.heap H1 locs1 → W p l e room_1 s m #[Value.ref b] below meth c H1 locs1 (cells + 1) (slots + 4) Q (F0 m (pc + 3) ls (.int r :: rest))) : W p l e room_1 s m #[Value.ref b] below meth c H locs cells slots Q (F0 m pc ls (.int n0 :: .int i0 :: .ref (ad 0) :: rest)) := by
  obtain ⟨tt, zz, nc, htt, hzz, hnc, rfl, rfl, rfl, hLn, hPo, hKs, hWt⟩ := hI
  have hEt : (nI tt).toNatClampNeg = tt := nI_clamp (by omega)
  have hEz : (nI zz).toNatClampNeg = zz := nI_clamp (by omega)
  have hEn : (nI nc).toNatClampNeg = nc := nI_clamp (by omega)
  try simp only [hEt, hEz, hEn] at kk
  obtain ⟨SA, KA, Ky, Ch, L, f, hKy, hok, hkk, hP, hD⟩ := hW
  have hKz : vKy zz Ky P Mn := by rw [hEz] at hKy; exact hKy
  have hoz : okS nc SA L f Rn Po Pl Sp := by rw [hEn] at hok; exact hok
  rcases okS_at i0 hnc hoz with ⟨hI0, hAt⟩ | ⟨hI1, j, a, hj, rfl, hSA, hAt, haL, hfa⟩
  · skip
    rw [show mSkip (nI nc) Pl i0 n0 = (-1, Pl) from if_pos hI0] at kk
    refine nk_VI (As := [.int i0, .int n0]) (rest := rest) F (mX3_skip_N l D ad ca sd (nI tt) (nI nc) tr st (nI zz) T Wt O SA KA P Mn Ky Ch X L f i0 n0 (nI_le hnc (by decide)) hAt) (cwV 2 F.2.2.2.2 gL_law_X3_skip rfl rfl rfl (by decide +kernel) ⟨Nat.le_of_ble_eq_true rfl, Nat.le_of_ble_eq_true rfl⟩) hK hP hD hS hA 0 3 rfl rfl rfl rfl hsz rfl hr hdg ⟨by show cells + 0 ≤ 726897; omega, by show slots + 0 ≤ 6921558; omega⟩ (fun r u H locs hw hP hD hS => ?_)
    refine W.widen (k := cells + 1) (n := slots + 4) (by omega) (by omega) ?_
    exact kk _ _ _ hw ⟨SA, KA, Ky, Ch, L, f, hKy, hok, hkk, hP, hD⟩ hS
  · skip
    obtain ⟨f2, he, hf2⟩ := skip_eq (n := n0) (Rn := Rn) (Po := Po) (Pl := Pl) (Sp := Sp) (a := a) (f := f) hnc hj hI1
    refine nk_VI (As := [.int (nI j), .int n0]) (rest := rest) F (mX3_skip_S l D ad ca sd (nI tt) (nI nc) tr st (nI zz) T Wt O SA KA P Mn Ky Ch X L f (nI j) a (Rn j) (Po j) (Pl j) (Sp j) hAt haL hfa n0 (nI_le hnc (by decide))) (cwV 2 F.2.2.2.2 gL_law_X3_skip rfl rfl rfl (by decide +kernel) ⟨Nat.le_of_ble_eq_true rfl, Nat.le_of_ble_eq_true rfl⟩) hK hP hD hS hA 0 3 rfl rfl rfl rfl hsz rfl hr hdg ⟨by show cells + 0 ≤ 726897; omega, by show slots + 0 ≤ 6921558; omega⟩ (fun r u H locs hw hP hD hS => ?_)
    rw [he] at hw
    obtain ⟨rfl, rfl⟩ := Prod.mk.inj hw
    have hok2 : okS nc SA L f2 Rn Po (mSkip (nI nc) Pl (nI j) n0).2 Sp := hf2.elim (fun h => by rw [h.1, h.2]; exact hoz) (fun h => by rw [h.1, h.2]; exact okS_pl hoz hj hSA)
    have hkk2 : okK KA L f2 Ik Ks Kp Kc := hf2.elim (fun h => by rw [h.1]; exact hkk) (fun h => by rw [h.1]; exact okK_st hfa hkk)
    refine W.widen (k := cells + 1) (n := slots + 4) (by omega) (by omega) ?_
    exact kk _ _ _ rfl ⟨SA, KA, Ky, Ch, L, f2, hKy, (by rw [hEn]; exact hok2), hkk2, hP, hD⟩ hS
set_option maxHeartbeats 1000000 in
set_option maxRecDepth 100000 in
theorem rC_told (F : CallFix p m c cL_law 4 s #[Value.ref b] wsL_law RL) (hK : nkK D (tC ca) s) (hI : aI pz tc sc Mn Po Ik Ks Wt) (hW : CA A0 D ad ca X sd pz tc st tr sc P Mn T Wt Rn Po Pl Sp Ks Kp Kc Ik O H) (hS : va_S A0 s.heap H locs) (hA : ∀ q : Nat, s.heap.size ≤ q → A0 q) (hsz : ls.size = 4) (hr : (rest.map fun v => v.category).sum ≤ 8) (hc : cells + 1 ≤ 726897) (hs : slots + 4 ≤ 6921558) {i0 : Int32} {x0 : Int32} (hdg : decode cL_law pc = .ok (.invokevirtual 108, 3))
    (kk : ∀ (r : Int32) (H1 : Heap) (locs1 : List Loc), r = (mTold sc Po Pl Sp i0 x0) → CA A0 D ad ca X sd pz tc st tr sc P Mn T Wt Rn Po Pl Sp Ks Kp Kc Ik O H1 → va_S A0 s.heap H1 locs1 → W p l e room_1 s m #[Value.ref b] below meth c H1 locs1 (cells + 1) (slots + 4) Q (F0 m (pc + 3) ls (.int r :: rest))) : W p l e room_1 s m #[Value.ref b] below meth c H locs cells slots Q (F0 m pc ls (.int x0 :: .int i0 :: .ref (ad 0) :: rest)) := by
  obtain ⟨tt, zz, nc, htt, hzz, hnc, rfl, rfl, rfl, hLn, hPo, hKs, hWt⟩ := hI
  have hEt : (nI tt).toNatClampNeg = tt := nI_clamp (by omega)
  have hEz : (nI zz).toNatClampNeg = zz := nI_clamp (by omega)
  have hEn : (nI nc).toNatClampNeg = nc := nI_clamp (by omega)
  try simp only [hEt, hEz, hEn] at kk
  obtain ⟨SA, KA, Ky, Ch, L, f, hKy, hok, hkk, hP, hD⟩ := hW
  have hKz : vKy zz Ky P Mn := by rw [hEz] at hKy; exact hKy
  have hoz : okS nc SA L f Rn Po Pl Sp := by rw [hEn] at hok; exact hok
  rcases okS_at i0 hnc hoz with ⟨hI0, hAt⟩ | ⟨hI1, j, a, hj, rfl, hSA, hAt, haL, hfa⟩
  · skip
    rw [show mTold (nI nc) Po Pl Sp i0 x0 = -1 from if_pos hI0] at kk
    refine nk_VRI (As := [.int i0, .int x0]) (rest := rest) F (mX3_told_N l D ad ca sd (nI tt) (nI nc) tr st (nI zz) T Wt O SA KA P Mn Ky Ch X L f i0 x0 (nI_le hnc (by decide)) hAt) (cwV 2 F.2.2.2.2 gL_law_X3_told rfl rfl rfl (by decide +kernel) ⟨Nat.le_of_ble_eq_true rfl, Nat.le_of_ble_eq_true rfl⟩) hK hP 0 3 rfl rfl rfl rfl hsz rfl hr hdg ⟨by show cells ≤ 726897; omega, by show slots ≤ 6921558; omega⟩ (fun r hw => ?_)
    refine W.widen (k := cells + 1) (n := slots + 4) (by omega) (by omega) ?_
    exact kk _ _ _ hw ⟨SA, KA, Ky, Ch, L, f, hKy, hok, hkk, hP, hD⟩ hS
  · skip
    refine nk_VRI (As := [.int (nI j), .int x0]) (rest := rest) F (mX3_told_S l D ad ca sd (nI tt) (nI nc) tr st (nI zz) T Wt O SA KA P Mn Ky Ch X L f (nI j) a (Rn j) (Po j) (Pl j) (Sp j) hAt haL hfa x0 (nI_le hnc (by decide))) (cwV 2 F.2.2.2.2 gL_law_X3_told rfl rfl rfl (by decide +kernel) ⟨Nat.le_of_ble_eq_true rfl, Nat.le_of_ble_eq_true rfl⟩) hK hP 0 3 rfl rfl rfl rfl hsz rfl hr hdg ⟨by show cells ≤ 726897; omega, by show slots ≤ 6921558; omega⟩ (fun r hw => ?_)
    refine W.widen (k := cells + 1) (n := slots + 4) (by omega) (by omega) ?_
    exact kk _ _ _ (hw.trans (told_eq hnc hj hI1)) ⟨SA, KA, Ky, Ch, L, f, hKy, hok, hkk, hP, hD⟩ hS
set_option maxHeartbeats 1000000 in
set_option maxRecDepth 100000 in
theorem rC_keep (F : CallFix p m c cL_law 4 s #[Value.ref b] wsL_law RL) (hK : nkK D (tC ca) s) (hI : aI pz tc sc Mn Po Ik Ks Wt) (hW : CA A0 D ad ca X sd pz tc st tr sc P Mn T Wt Rn Po Pl Sp Ks Kp Kc Ik O H) (hS : va_S A0 s.heap H locs) (hA : ∀ q : Nat, s.heap.size ≤ q → A0 q) (hsz : ls.size = 4) (hr : (rest.map fun v => v.category).sum ≤ 8) (hc : cells + 1 ≤ 726897) (hs : slots + 4 ≤ 6921558) {k0 : Int32} {i0 : Int32} (hdg : decode cL_law pc = .ok (.invokevirtual 100, 3))
    (kk : ∀ (r : Int32) (H1 : Heap) (locs1 : List Loc), r = (mKeep sc Pl Sp Ik Ks Kp Kc k0 i0).1 → CA A0 D ad ca X sd pz tc st tr sc P Mn T Wt Rn Po Pl Sp ((mKeep sc Pl Sp Ik Ks Kp Kc k0 i0).2.2.1) ((mKeep sc Pl Sp Ik Ks Kp Kc k0 i0).2.2.2.1) ((mKeep sc Pl Sp Ik Ks Kp Kc k0 i0).2.2.2.2) ((mKeep sc Pl Sp Ik Ks Kp Kc k0 i0).2.1) O H1 → va_S A0 s.heap H1 locs1 → W p l e room_1 s m #[Value.ref b] below meth c H1 locs1 (cells + 1) (slots + 4) Q (F0 m (pc + 3) ls (.int r :: rest))) : W p l e room_1 s m #[Value.ref b] below meth c H locs cells slots Q (F0 m pc ls (.int i0 :: .int k0 :: .ref (ad 0) :: rest)) := by
  obtain ⟨tt, zz, nc, htt, hzz, hnc, rfl, rfl, rfl, hLn, hPo, hKs, hWt⟩ := hI
  have hEt : (nI tt).toNatClampNeg = tt := nI_clamp (by omega)
  have hEz : (nI zz).toNatClampNeg = zz := nI_clamp (by omega)
  have hEn : (nI nc).toNatClampNeg = nc := nI_clamp (by omega)
  try simp only [hEt, hEz, hEn] at kk
  obtain ⟨SA, KA, Ky, Ch, L, f, hKy, hok, hkk, hP, hD⟩ := hW
  have hKz : vKy zz Ky P Mn := by rw [hEz] at hKy; exact hKy
  have hoz : okS nc SA L f Rn Po Pl Sp := by rw [hEn] at hok; exact hok
  rcases okS_at i0 hnc hoz with ⟨hI0, hAt⟩ | ⟨hI1, j, a, hj, rfl, hSA, hAt, haL, hfa⟩
  · skip
    rw [keep_bad (Or.inl hI0)] at kk
    refine nk_VI (As := [.int k0, .int i0]) (rest := rest) F (mX3_keep_N l D ad ca sd (nI tt) (nI nc) tr st (nI zz) T Wt O SA KA P Mn Ky Ch X L f i0 k0 (nI_le hnc (by decide)) hAt) (cwV 2 F.2.2.2.2 gL_law_X3_keep rfl rfl rfl (by decide +kernel) ⟨Nat.le_of_ble_eq_true rfl, Nat.le_of_ble_eq_true rfl⟩) hK hP hD hS hA 0 3 rfl rfl rfl rfl hsz rfl hr hdg ⟨by show cells + 0 ≤ 726897; omega, by show slots + 0 ≤ 6921558; omega⟩ (fun r u H locs hw hP hD hS => ?_)
    refine W.widen (k := cells + 1) (n := slots + 4) (by omega) (by omega) ?_
    exact kk _ _ _ hw ⟨SA, KA, Ky, Ch, L, f, hKy, hok, hkk, hP, hD⟩ hS
  · skip
    by_cases hk : k0 < 0 ∨ 4 ≤ k0
    · skip
      rw [keep_bad (Or.inr hk)] at kk
      refine nk_VI (As := [.int k0, .int (nI j)]) (rest := rest) F (mX3_keep_B l D ad ca sd (nI tt) (nI nc) tr st (nI zz) T Wt O SA KA P Mn Ky Ch X L f (nI j) a (Rn j) (Po j) (Pl j) (Sp j) hAt haL hfa k0 (nI_le hnc (by decide)) hk) (cwV 2 F.2.2.2.2 gL_law_X3_keep rfl rfl rfl (by decide +kernel) ⟨Nat.le_of_ble_eq_true rfl, Nat.le_of_ble_eq_true rfl⟩) hK hP hD hS hA 0 3 rfl rfl rfl rfl hsz rfl hr hdg ⟨by show cells + 0 ≤ 726897; omega, by show slots + 0 ≤ 6921558; omega⟩ (fun r u H locs hw hP hD hS => ?_)
      refine W.widen (k := cells + 1) (n := slots + 4) (by omega) (by omega) ?_
      exact kk _ _ _ hw ⟨SA, KA, Ky, Ch, L, f, hKy, hok, hkk, hP, hD⟩ hS
    · skip
      have hk1 : ¬ k0 < 0 := fun h => hk (Or.inl h)
      have hk2 : ¬ 4 ≤ k0 := fun h => hk (Or.inr h)
      have hk4 := k4 hk1 hk2
      have hEj : (nI j).toNatClampNeg = j := nI_clamp (by omega)
      rw [keep_ok hI1 hk1 hk2, hEj] at kk
      rcases hkk.1 _ hk4 with ⟨-, hKA⟩ | ⟨-, kb, hKA, hbL, hfb⟩
      · skip
        refine nk_VI (As := [.int k0, .int (nI j)]) (rest := rest) F (mX3_keep_W l D ad ca sd (nI tt) (nI nc) tr st (nI zz) T Wt O SA KA P Mn Ky Ch X L f (nI j) a (Rn j) (Po j) (Pl j) (Sp j) hAt haL hfa k0 hKA (nI_le hnc (by decide)) hk1 hk2) (cwV 2 F.2.2.2.2 gL_law_X3_keep rfl rfl rfl (by decide +kernel) ⟨Nat.le_of_ble_eq_true rfl, Nat.le_of_ble_eq_true rfl⟩) hK hP hD hS hA 0 3 rfl rfl rfl rfl hsz rfl hr hdg ⟨by show cells + 1 ≤ 726897; omega, by show slots + 3 ≤ 6921558; omega⟩ (fun r u H locs hw hP hD hS => ?_)
        obtain ⟨q, u2⟩ := u
        obtain ⟨hr9, hq, hu⟩ := hw
        have hu : u2 = va_up f q (eKp (nI j) (Pl j) (Sp j)) := hu
        subst hu
        refine W.widen (k := cells + 1) (n := slots + 4) (by omega) (by omega) ?_
        exact kk _ _ _ hr9.symm ⟨SA, _, Ky, Ch, _, _, hKy, (by rw [hEn]; exact okS_old hoz hq), (okK_new hkk hk4 hq (by decide)), hP, hD⟩ hS
      · skip
        refine nk_VI (As := [.int k0, .int (nI j)]) (rest := rest) F (mX3_keep_E l D ad ca sd (nI tt) (nI nc) tr st (nI zz) T Wt O SA KA P Mn Ky Ch X L f (nI j) a (Rn j) (Po j) (Pl j) (Sp j) hAt haL hfa k0 kb (Ks k0.toNatClampNeg) (Kp k0.toNatClampNeg) (Kc k0.toNatClampNeg) hKA hbL hfb (nI_le hnc (by decide)) hk1 hk2) (cwV 2 F.2.2.2.2 gL_law_X3_keep rfl rfl rfl (by decide +kernel) ⟨Nat.le_of_ble_eq_true rfl, Nat.le_of_ble_eq_true rfl⟩) hK hP hD hS hA 0 3 rfl rfl rfl rfl hsz rfl hr hdg ⟨by show cells + 0 ≤ 726897; omega, by show slots + 0 ≤ 6921558; omega⟩ (fun r u H locs hw hP hD hS => ?_)
        obtain ⟨hr9, hu⟩ := hw
        subst hu
        refine W.widen (k := cells + 1) (n := slots + 4) (by omega) (by omega) ?_
        exact kk _ _ _ hr9.symm ⟨SA, KA, Ky, Ch, L, _, hKy, (by rw [hEn]; exact okS_kp hfb hoz), (okK_set hkk hk4 hKA hbL (by decide)), hP, hD⟩ hS
set_option maxHeartbeats 1000000 in
set_option maxRecDepth 100000 in
theorem rC_back (F : CallFix p m c cL_law 4 s #[Value.ref b] wsL_law RL) (hK : nkK D (tC ca) s) (hI : aI pz tc sc Mn Po Ik Ks Wt) (hW : CA A0 D ad ca X sd pz tc st tr sc P Mn T Wt Rn Po Pl Sp Ks Kp Kc Ik O H) (hS : va_S A0 s.heap H locs) (hA : ∀ q : Nat, s.heap.size ≤ q → A0 q) (hsz : ls.size = 4) (hr : (rest.map fun v => v.category).sum ≤ 8) (hc : cells + 1 ≤ 726897) (hs : slots + 4 ≤ 6921558) {k0 : Int32} (hdg : decode cL_law pc = .ok (.invokevirtual 104, 3))
    (kk : ∀ (r : Int32) (H1 : Heap) (locs1 : List Loc), r = (mBack Pl Sp Ik Ks Kp Kc k0).1 → CA A0 D ad ca X sd pz tc st tr sc P Mn T Wt Rn Po ((mBack Pl Sp Ik Ks Kp Kc k0).2.1) ((mBack Pl Sp Ik Ks Kp Kc k0).2.2) Ks Kp Kc Ik O H1 → va_S A0 s.heap H1 locs1 → W p l e room_1 s m #[Value.ref b] below meth c H1 locs1 (cells + 1) (slots + 4) Q (F0 m (pc + 3) ls (.int r :: rest))) : W p l e room_1 s m #[Value.ref b] below meth c H locs cells slots Q (F0 m pc ls (.int k0 :: .ref (ad 0) :: rest)) := by
  obtain ⟨tt, zz, nc, htt, hzz, hnc, rfl, rfl, rfl, hLn, hPo, hKs, hWt⟩ := hI
  have hEt : (nI tt).toNatClampNeg = tt := nI_clamp (by omega)
  have hEz : (nI zz).toNatClampNeg = zz := nI_clamp (by omega)
  have hEn : (nI nc).toNatClampNeg = nc := nI_clamp (by omega)
  try simp only [hEt, hEz, hEn] at kk
  obtain ⟨SA, KA, Ky, Ch, L, f, hKy, hok, hkk, hP, hD⟩ := hW
  have hKz : vKy zz Ky P Mn := by rw [hEz] at hKy; exact hKy
  have hoz : okS nc SA L f Rn Po Pl Sp := by rw [hEn] at hok; exact hok
  by_cases hk : k0 < 0 ∨ 4 ≤ k0
  · skip
    rw [back_bad hk] at kk
    refine nk_VI (As := [.int k0]) (rest := rest) F (mX3_back_B l D ad ca sd (nI tt) (nI nc) tr st (nI zz) T Wt O SA KA P Mn Ky Ch X L f k0 hk) (cwV 1 F.2.2.2.2 gL_law_X3_back rfl rfl rfl (by decide +kernel) ⟨Nat.le_of_ble_eq_true rfl, Nat.le_of_ble_eq_true rfl⟩) hK hP hD hS hA 0 3 rfl rfl rfl rfl hsz rfl hr hdg ⟨by show cells + 0 ≤ 726897; omega, by show slots + 0 ≤ 6921558; omega⟩ (fun r u H locs hw hP hD hS => ?_)
    refine W.widen (k := cells + 1) (n := slots + 4) (by omega) (by omega) ?_
    exact kk _ _ _ hw ⟨SA, KA, Ky, Ch, L, f, hKy, hok, hkk, hP, hD⟩ hS
  · skip
    have hk1 : ¬ k0 < 0 := fun h => hk (Or.inl h)
    have hk2 : ¬ 4 ≤ k0 := fun h => hk (Or.inr h)
    have hk4 := k4 hk1 hk2
    rcases hkk.1 _ hk4 with ⟨hI0, hKA⟩ | ⟨hI1, kb, hKA, hbL, hfb⟩
    · skip
      rw [back_0 hk1 hk2 hI0] at kk
      refine nk_VI (As := [.int k0]) (rest := rest) F (mX3_back_0 l D ad ca sd (nI tt) (nI nc) tr st (nI zz) T Wt O SA KA P Mn Ky Ch X L f k0 hKA hk1 hk2) (cwV 1 F.2.2.2.2 gL_law_X3_back rfl rfl rfl (by decide +kernel) ⟨Nat.le_of_ble_eq_true rfl, Nat.le_of_ble_eq_true rfl⟩) hK hP hD hS hA 0 3 rfl rfl rfl rfl hsz rfl hr hdg ⟨by show cells + 0 ≤ 726897; omega, by show slots + 0 ≤ 6921558; omega⟩ (fun r u H locs hw hP hD hS => ?_)
      refine W.widen (k := cells + 1) (n := slots + 4) (by omega) (by omega) ?_
      exact kk _ _ _ hw ⟨SA, KA, Ky, Ch, L, f, hKy, hok, hkk, hP, hD⟩ hS
    · skip
      obtain ⟨j, hj, hKj⟩ := (hKs _ hk4).resolve_left hI1
      have hEj : (nI j).toNatClampNeg = j := nI_clamp (by omega)
      rw [back_ok hk1 hk2 hI1, hKj, hEj] at kk
      rw [hKj] at hfb
      obtain ⟨a, hSA, haL, hfa⟩ := hoz.1 j hj
      have hAt : fAt (nI nc) SA (nI j) = some a := by unfold fAt; rw [if_neg (nI_pos (by omega)), if_pos (nI_lt hj (by omega)), hEj]; exact hSA
      refine nk_VI (As := [.int k0]) (rest := rest) F (mX3_back_S l D ad ca sd (nI tt) (nI nc) tr st (nI zz) T Wt O SA KA P Mn Ky Ch X L f k0 kb (nI j) (Kp k0.toNatClampNeg) (Kc k0.toNatClampNeg) hKA hbL hfb a (Rn j) (Po j) (Pl j) (Sp j) hAt haL hfa (nI_le hnc (by decide)) hk1 hk2) (cwV 1 F.2.2.2.2 gL_law_X3_back rfl rfl rfl (by decide +kernel) ⟨Nat.le_of_ble_eq_true rfl, Nat.le_of_ble_eq_true rfl⟩) hK hP hD hS hA 0 3 rfl rfl rfl rfl hsz rfl hr hdg ⟨by show cells + 0 ≤ 726897; omega, by show slots + 0 ≤ 6921558; omega⟩ (fun r u H locs hw hP hD hS => ?_)
      obtain ⟨hr9, hu⟩ := hw
      subst hu
      refine W.widen (k := cells + 1) (n := slots + 4) (by omega) (by omega) ?_
      exact kk _ _ _ hr9.symm ⟨SA, KA, Ky, Ch, L, _, hKy, (by rw [hEn]; exact okS_bk hoz hj hSA), (okK_st hfa hkk), hP, hD⟩ hS
set_option maxHeartbeats 1000000 in
set_option maxRecDepth 100000 in
theorem rC_split (F : CallFix p m c cL_law 4 s #[Value.ref b] wsL_law RL) (hK : nkK D (tC ca) s) (hI : aI pz tc sc Mn Po Ik Ks Wt) (hW : CA A0 D ad ca X sd pz tc st tr sc P Mn T Wt Rn Po Pl Sp Ks Kp Kc Ik O H) (hS : va_S A0 s.heap H locs) (hA : ∀ q : Nat, s.heap.size ≤ q → A0 q) (hsz : ls.size = 4) (hr : (rest.map fun v => v.category).sum ≤ 8) (hc : cells + 1 ≤ 726897) (hs : slots + 4 ≤ 6921558) {i0 : Int32} (hdg : decode cL_law pc = .ok (.invokevirtual 91, 3))
    (kk : ∀ (r : Int32) (H1 : Heap) (locs1 : List Loc), r = (mSplitA P Mn Rn Po Pl Sp sc.toNatClampNeg pz.toNatClampNeg i0).1 → CA A0 D ad ca X sd ((mSplitA P Mn Rn Po Pl Sp sc.toNatClampNeg pz.toNatClampNeg i0).2.2.2.1) tc st tr ((mSplitA P Mn Rn Po Pl Sp sc.toNatClampNeg pz.toNatClampNeg i0).2.2.2.2.1) ((mSplitA P Mn Rn Po Pl Sp sc.toNatClampNeg pz.toNatClampNeg i0).2.1) ((mSplitA P Mn Rn Po Pl Sp sc.toNatClampNeg pz.toNatClampNeg i0).2.2.1) T Wt ((mSplitA P Mn Rn Po Pl Sp sc.toNatClampNeg pz.toNatClampNeg i0).2.2.2.2.2.1) ((mSplitA P Mn Rn Po Pl Sp sc.toNatClampNeg pz.toNatClampNeg i0).2.2.2.2.2.2.1) ((mSplitA P Mn Rn Po Pl Sp sc.toNatClampNeg pz.toNatClampNeg i0).2.2.2.2.2.2.2.1) ((mSplitA P Mn Rn Po Pl Sp sc.toNatClampNeg pz.toNatClampNeg i0).2.2.2.2.2.2.2.2) Ks Kp Kc Ik O H1 → va_S A0 s.heap H1 locs1 → W p l e room_1 s m #[Value.ref b] below meth c H1 locs1 (cells + 1) (slots + 4) Q (F0 m (pc + 3) ls (.int r :: rest))) : W p l e room_1 s m #[Value.ref b] below meth c H locs cells slots Q (F0 m pc ls (.int i0 :: .ref (ad 0) :: rest)) := by
  obtain ⟨tt, zz, nc, htt, hzz, hnc, rfl, rfl, rfl, hLn, hPo, hKs, hWt⟩ := hI
  have hEt : (nI tt).toNatClampNeg = tt := nI_clamp (by omega)
  have hEz : (nI zz).toNatClampNeg = zz := nI_clamp (by omega)
  have hEn : (nI nc).toNatClampNeg = nc := nI_clamp (by omega)
  try simp only [hEt, hEz, hEn] at kk
  obtain ⟨SA, KA, Ky, Ch, L, f, hKy, hok, hkk, hP, hD⟩ := hW
  have hKz : vKy zz Ky P Mn := by rw [hEz] at hKy; exact hKy
  have hoz : okS nc SA L f Rn Po Pl Sp := by rw [hEn] at hok; exact hok
  rcases okS_at i0 hnc hoz with ⟨hI0, hAt⟩ | ⟨hI1, j, a, hj, rfl, hSA, hAt, haL, hfa⟩
  · skip
    rw [split_N hI0] at kk
    refine nk_VI (As := [.int i0]) (rest := rest) F (mX3_split_N l D ad ca sd (nI tt) (nI nc) tr st (nI zz) T Wt O SA KA P Mn Ky Ch X L f i0 (nI_le hnc (by decide)) hAt) (cwV 1 F.2.2.2.2 gL_law_X3_split rfl rfl rfl (by decide +kernel) ⟨Nat.le_of_ble_eq_true rfl, Nat.le_of_ble_eq_true rfl⟩) hK hP hD hS hA 0 3 rfl rfl rfl rfl hsz rfl hr hdg ⟨by show cells + 0 ≤ 726897; omega, by show slots + 0 ≤ 6921558; omega⟩ (fun r u H locs hw hP hD hS => ?_)
    refine W.widen (k := cells + 1) (n := slots + 4) (by omega) (by omega) ?_
    exact kk _ _ _ hw ⟨SA, KA, Ky, Ch, L, f, hKy, hok, hkk, hP, hD⟩ hS
  · skip
    obtain ⟨pp, hpp, hPp⟩ := hPo j hj
    obtain ⟨ll, hl1, hl0⟩ := hLn pp hpp
    have hl2 : Mn (Int32.toNatClampNeg (nI pp)) = nI ll := by rw [nI_clamp (by omega)]; exact hl0
    have hPc : Po (nI j).toNatClampNeg = nI pp := by rw [nI_clamp (by omega)]; exact hPp
    rw [hPp] at hfa
    by_cases h8 : nI nc < 8
    · skip
      have hn8 := ns_lt_of (n := 8) h8 rfl (by omega) (by decide)
      by_cases hl4 : ll = 4
      · skip
        subst hl4
        rw [split_F hI1 hPc (Or.inr hl2)] at kk
        have hEc : fEntC P Ch Mn Ky zz (nI pp) 4 (Int32.toInt64 (Sp j)) = (-2, Ch, P, Mn, Ky, nI zz) := if_neg (by decide)
        refine nk_VI (As := [.int (nI j)]) (rest := rest) F (mX3_split_E l D ad ca sd (nI tt) (nI nc) tr st T Wt O SA KA P Mn Ky Ch X L f zz pp 4 (nI j) a (Rn j) (Pl j) (Sp j) hAt haL hfa hzz hpp hl2 hl1 h8 (by rw [hEc])) (cwV 1 F.2.2.2.2 gL_law_X3_split rfl rfl rfl (by decide +kernel) ⟨Nat.le_of_ble_eq_true rfl, Nat.le_of_ble_eq_true rfl⟩) hK hP hD hS hA 0 3 rfl rfl rfl rfl hsz rfl hr hdg ⟨by show cells + 0 ≤ 726897; omega, by show slots + 0 ≤ 6921558; omega⟩ (fun r u H locs hw hP hD hS => ?_)
        rw [hEc] at hw
        obtain ⟨rfl, rfl⟩ := Prod.mk.inj hw
        refine W.widen (k := cells + 1) (n := slots + 4) (by omega) (by omega) ?_
        exact kk _ _ _ rfl ⟨SA, KA, Ky, Ch, L, f, hKy, hok, hkk, hP, hD⟩ hS
      · skip
        have hlt : ll < 4 := by omega
        have hEc : fEntC P Ch Mn Ky zz (nI pp) ll (Int32.toInt64 (Sp j)) = ((fEnt (fChild P Ch (nI pp) ll (Int32.toInt64 (Sp j))) P Mn Ky zz (ll + 1)).1, (fChild P Ch (nI pp) ll (Int32.toInt64 (Sp j))), (fEnt (fChild P Ch (nI pp) ll (Int32.toInt64 (Sp j))) P Mn Ky zz (ll + 1)).2) := if_pos (nI_lt hlt (by omega))
        obtain ⟨e1, e2, e3, e4, -⟩ := ent_take (Rw := (fChild P Ch (nI pp) ll (Int32.toInt64 (Sp j)))) (R := P) (Ky := Ky) (Ln := Mn) (z := zz) (n := ll + 1) hzz
        have hcg := mTake_congr (P := P) (Mn := Mn) (z := zz) (show ll + 1 ≤ 4 by omega) (kid_c (R := P) (Ch := Ch) (pp := pp) (v := (Int32.toInt64 (Sp j))) hlt)
        obtain ⟨z', k1, k2, k3, k4⟩ := vKy_ent (T := (fChild P Ch (nI pp) ll (Int32.toInt64 (Sp j)))) (n := ll + 1) hzz (by omega) hLn hKz
        obtain ⟨z9, -, hz9, -, -, h5⟩ := mTake_inv (P := P) (T := (fChild P Ch (nI pp) ll (Int32.toInt64 (Sp j)))) hzz (show ll + 1 ≤ 4 by omega) hLn
        rw [hcg] at e1 e2 e3 e4 k1 k4 h5
        rw [split_B hI1 hn8 hj hPp (by omega) hl0 hlt] at kk
        generalize mTake P (mKid P pp ll (Int32.toInt64 (Sp j))) Mn zz (ll + 1) = t at e1 e2 e3 e4 k1 k4 h5 kk
        by_cases hE : (fEntC P Ch Mn Ky zz (nI pp) ll (Int32.toInt64 (Sp j))).1 = -2
        · skip
          have hE9 : t.1 = -2 := by rw [← e1]; rw [hEc] at hE; exact hE
          rw [mSplitB, if_neg (by rw [hE9]; decide)] at kk
          refine nk_VI (As := [.int (nI j)]) (rest := rest) F (mX3_split_E l D ad ca sd (nI tt) (nI nc) tr st T Wt O SA KA P Mn Ky Ch X L f zz pp ll (nI j) a (Rn j) (Pl j) (Sp j) hAt haL hfa hzz hpp hl2 hl1 h8 hE) (cwV 1 F.2.2.2.2 gL_law_X3_split rfl rfl rfl (by decide +kernel) ⟨Nat.le_of_ble_eq_true rfl, Nat.le_of_ble_eq_true rfl⟩) hK hP hD hS hA 0 3 rfl rfl rfl rfl hsz rfl hr hdg ⟨by show cells + 0 ≤ 726897; omega, by show slots + 0 ≤ 6921558; omega⟩ (fun r u H locs hw hP hD hS => ?_)
          rw [hEc] at hw
          obtain ⟨rfl, rfl⟩ := Prod.mk.inj hw
          dsimp only at hP hD
          rw [e2, e3, e4] at hP hD
          refine W.widen (k := cells + 1) (n := slots + 4) (by omega) (by omega) ?_
          exact kk _ _ _ (e1.trans hE9) ⟨SA, KA, _, _, L, f, (by show vKy (t.2.2.2).toNatClampNeg _ _ _; rw [k1, nI_clamp (by omega)]; exact k4), hok, hkk, hP, hD⟩ hS
        · skip
          have hE9 : 0 ≤ t.1 := by
            rcases h5 with h5 | ⟨j2, hj2, h5⟩
            · rw [hEc] at hE; exact absurd (e1.trans h5) hE
            · rw [h5]; exact nI_pos' (by omega)
          rw [mSplitB, if_pos hE9] at kk
          refine nk_VI (As := [.int (nI j)]) (rest := rest) F (mX3_split_A l D ad ca sd (nI tt) (nI nc) tr st T Wt O SA KA P Mn Ky Ch X L f zz pp ll (nI j) a (Rn j) (Pl j) (Sp j) hAt haL hfa hzz hpp hl2 hl1 (nI_pos' (by omega)) h8 hE) (cwV 1 F.2.2.2.2 gL_law_X3_split rfl rfl rfl (by decide +kernel) ⟨Nat.le_of_ble_eq_true rfl, Nat.le_of_ble_eq_true rfl⟩) hK hP hD hS hA 0 3 rfl rfl rfl rfl hsz rfl hr hdg ⟨by show cells + 1 ≤ 726897; omega, by show slots + 4 ≤ 6921558; omega⟩ (fun r u H locs hw hP hD hS => ?_)
          obtain ⟨q, s9⟩ := u
          obtain ⟨hr9, hq, hs9⟩ := hw
          have hs9 : nI (nc + 1) = s9 := by rw [← nI_1]; exact hs9
          subst hs9
          rw [hEc, hEn] at hP hD
          dsimp only at hP hD
          rw [e1, e2, e3, e4] at hP hD
          have hok2 := okS_push (rn := Rn j) (po := t.1) (pl := 0) (sp := 0) (okS_sp (v := Sp j + 1) hoz hj hSA) hq
          rw [hPp] at hok2
          refine W.widen (k := cells + 1) (n := slots + 4) (by omega) (by omega) ?_
          exact kk _ _ _ hr9.symm ⟨_, KA, _, _, _, _, (by show vKy (t.2.2.2).toNatClampNeg _ _ _; rw [k1, nI_clamp (by omega)]; exact k4), (by rw [nI_clamp (show nc + 1 < 2 ^ 31 by omega)]; exact hok2), (okK_old (okK_st hfa hkk) hq), hP, hD⟩ hS
    · skip
      have hn8 : nI nc = 8 := by
        have hx : ¬ nc < 8 := fun h => h8 (nI_lt (b := 8) h (by decide))
        rw [show nc = 8 by omega]; rfl
      rw [split_F hI1 hPc (Or.inl hn8)] at kk
      refine nk_VI (As := [.int (nI j)]) (rest := rest) F (mX3_split_F l D ad ca sd (nI tt) (nI nc) tr st (nI zz) T Wt O SA KA P Mn Ky Ch X L f (nI j) a (Rn j) (nI pp) (Pl j) (Sp j) hAt haL hfa (nI_le hnc (by decide)) h8) (cwV 1 F.2.2.2.2 gL_law_X3_split rfl rfl rfl (by decide +kernel) ⟨Nat.le_of_ble_eq_true rfl, Nat.le_of_ble_eq_true rfl⟩) hK hP hD hS hA 0 3 rfl rfl rfl rfl hsz rfl hr hdg ⟨by show cells + 0 ≤ 726897; omega, by show slots + 0 ≤ 6921558; omega⟩ (fun r u H locs hw hP hD hS => ?_)
      refine W.widen (k := cells + 1) (n := slots + 4) (by omega) (by omega) ?_
      exact kk _ _ _ hw ⟨SA, KA, Ky, Ch, L, f, hKy, hok, hkk, hP, hD⟩ hS
end RELS
