theorem fNext_f {sd : Int64} {Ky : Nat → Int64} {n : Int64} {tr : Int32} {f : Nat → va_E} {a : Nat} {rn : Int64} {po pl sp : Int32} {r : Int64} {u1 : Int32} {u2 : Nat → va_E} (h : fNext sd Ky n tr f a rn po pl sp = (r, u1, u2)) : u2 = f ∨ u2 = va_up f a (eSt rn po (pl + 1) sp) := by
  unfold fNext at h
  by_cases c1 : n < 0
  · rw [if_pos c1] at h; cases h; exact Or.inl rfl
  · rw [if_neg c1] at h
    by_cases c2 : pl = 2147483647
    · rw [if_pos c2] at h; cases h; exact Or.inl rfl
    · rw [if_neg c2] at h
      by_cases c3 : n = 0
      · rw [if_pos c3] at h; cases h; exact Or.inl rfl
      · rw [if_neg c3] at h; exact Or.inr (congrArg (fun x => x.2.2) h).symm
theorem fNPick_f {sd : Int64} {Ky Wt : Nat → Int64} {tr : Int32} {f : Nat → va_E} {a : Nat} {rn : Int64} {po pl sp : Int32} {r u1 : Int32} {u2 : Nat → va_E} (h : fNPick sd Ky Wt tr f a rn po pl sp = (r, u1, u2)) : u2 = f ∨ u2 = va_up f a (eSt rn po (pl + 1) sp) := by
  unfold fNPick at h
  by_cases c1 : pl = 2147483647
  · rw [if_pos c1] at h; cases h; exact Or.inl rfl
  · rw [if_neg c1] at h
    by_cases c2 : (fPick (fBase sd rn (Ky po.toNatClampNeg)) (fFirst pl) Wt tr).1 = -4
    · rw [if_pos c2] at h; exact Or.inl (congrArg (fun x => x.2.2) h).symm
    · rw [if_neg c2] at h
      by_cases c3 : (fPick (fBase sd rn (Ky po.toNatClampNeg)) (fFirst pl) Wt tr).1 = -5
      · rw [if_pos c3] at h; exact Or.inl (congrArg (fun x => x.2.2) h).symm
      · rw [if_neg c3] at h; exact Or.inr (congrArg (fun x => x.2.2) h).symm
theorem fSkip_f {n : Int32} {f : Nat → va_E} {a : Nat} {rn : Int64} {po pl sp r : Int32} {u : Nat → va_E} (h : fSkip n f a rn po pl sp = (r, u)) : u = f ∨ u = va_up f a (eSt rn po (pl + n) sp) := by
  unfold fSkip at h
  by_cases c1 : n < 0
  · rw [if_pos c1] at h; cases h; exact Or.inl rfl
  · rw [if_neg c1] at h
    by_cases c2 : 1000000000 < n
    · rw [if_pos c2] at h; cases h; exact Or.inl rfl
    · rw [if_neg c2] at h
      by_cases c3 : pl ≤ 2147483647 - n
      · rw [if_pos c3] at h; exact Or.inr (congrArg (fun x => x.2) h).symm
      · rw [if_neg c3] at h; cases h; exact Or.inl rfl
theorem fHas_p {zz : Nat} {p : Int32} (h : ¬ fHas (nI zz) p = 0) (hz : zz ≤ 24) : ∃ pp, pp < zz ∧ p = nI pp := by
  obtain ⟨h1, h2⟩ := ns_has h
  obtain ⟨j, hj, rfl⟩ := nI_of (Int32.not_lt.mpr h1)
  exact ⟨j, (nI_ltI hj (by omega)).mp h2, rfl⟩
theorem fAt_nI {nc zz j : Nat} {SA : Nat → Option Nat} {L : List Nat} {f : Nat → va_E} (hn : nc ≤ 8) (h : vSt nc zz SA L f) (hj : j < nc) : ∃ (a : Nat) (rn : Int64) (pp : Nat) (pl sp : Int32), fAt (nI nc) SA (nI j) = some a ∧ a ∈ L ∧ pp < zz ∧ f a = eSt rn (nI pp) pl sp := by
  obtain ⟨a, rn, pp, pl, sp, h1, h2, h3, h4⟩ := h j hj
  refine ⟨a, rn, pp, pl, sp, ?_, h2, h3, h4⟩
  unfold fAt
  rw [if_neg (nI_pos (by omega)), if_pos (nI_lt hj (by omega)), nI_clamp (by omega)]
  exact h1
/-! the law's world: the class's cells with their pool, X behind; the reference's cells, Y behind -/
def CW (A : Nat → Prop) (D : va_G) (ad : Nat → Nat) (ca : Nat → ClassId) (X : va_W) (H : Heap) : Prop := ∃ (tt zz nc : Nat) (sd : Int64) (tr st : Int32) (T Wt : Nat → Int64) (O : Nat → Int32) (SA KA : Nat → Option Nat) (R : Nat → Int64) (Ln : Nat → Int32) (Ky Ch : Nat → Int64) (L : List Nat) (f : Nat → va_E), tt ≤ 4 ∧ zz ≤ 24 ∧ nc ≤ 8 ∧ vLn zz Ln ∧ vSt nc zz SA L f ∧ vKp nc KA L f ∧ va_P D vwCl (wC ad ca sd (nI tt) (nI nc) tr st (nI zz) T Wt O SA KA R Ln Ky Ch (X ++ va_pl L f)) H ∧ va_D A (wC ad ca sd (nI tt) (nI nc) tr st (nI zz) T Wt O SA KA R Ln Ky Ch (X ++ va_pl L f))
def MW (A : Nat → Prop) (D : va_G) (bd : Nat → Nat) (cb : Nat → ClassId) (Y : va_W) (H : Heap) : Prop := ∃ (tm zm nm : Nat) (sd : Int64) (st tr gr : Int32) (P : Nat → Int64) (Mn : Nat → Int32) (T Wt Rn : Nat → Int64) (Po Pl Sp Ks Kp Kc Ik O : Nat → Int32) (As : Nat → Int64), tm ≤ 4 ∧ zm ≤ 24 ∧ nm ≤ 8 ∧ vLn zm Mn ∧ vPo nm zm Po ∧ vKs nm Ik Ks ∧ va_P D vwCl (wM bd cb sd (nI zm) (nI tm) st tr (nI nm) gr P Mn T Wt Rn Po Pl Sp Ks Kp Kc Ik O As Y) H ∧ va_D A (wM bd cb sd (nI zm) (nI tm) st tr (nI nm) gr P Mn T Wt Rn Po Pl Sp Ks Kp Kc Ik O As Y)
def LW (A : Nat → Prop) (D : va_G) (ad : Nat → Nat) (ca : Nat → ClassId) (bd : Nat → Nat) (cb : Nat → ClassId) (H : Heap) : Prop := ∃ (tm zm nm : Nat) (sd : Int64) (st tr gr : Int32) (P : Nat → Int64) (Mn : Nat → Int32) (T Wt Rn : Nat → Int64) (Po Pl Sp Ks Kp Kc Ik O : Nat → Int32) (As : Nat → Int64), (tm ≤ 4 ∧ zm ≤ 24 ∧ nm ≤ 8 ∧ vLn zm Mn ∧ vPo nm zm Po ∧ vKs nm Ik Ks) ∧ CW A D ad ca (wM bd cb sd (nI zm) (nI tm) st tr (nI nm) gr P Mn T Wt Rn Po Pl Sp Ks Kp Kc Ik O As []) H
section LAWS
variable {p : Program} {l : Launch} {e : Env} {s : State} {m : MethodId} {below : List Frame} {meth : Method} {c : Code} {b : Nat} {Q : State → Prop} {H : Heap} {locs : List Loc} {cells slots pc : Nat} {ls : Array Slot} {rest : List Value} {D : va_G} {ad bd : Nat → Nat} {ca cb : Nat → ClassId} {X Y : va_W} {A0 : Nat → Prop}
set_option maxHeartbeats 1000000 in
set_option maxRecDepth 100000 in
theorem sC_part (F : CallFix p m c cL_law 4 s #[Value.ref b] wsL_law RL) (hK : nkK D (tC ca) s) (hW : CW A0 D ad ca X H) (hS : va_S A0 s.heap H locs) (hA : ∀ q : Nat, s.heap.size ≤ q → A0 q) (hsz : ls.size = 4) (hr : (rest.map fun v => v.category).sum ≤ 8) (hc : cells + 1 ≤ 726897) (hs : slots + 4 ≤ 6921558) {v : Int64} (hdg : decode cL_law pc = .ok (.invokevirtual 23, 3))
    (kk : ∀ (r : Int32) (H1 : Heap) (locs1 : List Loc), CW A0 D ad ca X H1 → va_S A0 s.heap H1 locs1 → W p l e room_1 s m #[Value.ref b] below meth c H1 locs1 (cells + 1) (slots + 4) Q (F0 m (pc + 3) ls (.int r :: rest))) : W p l e room_1 s m #[Value.ref b] below meth c H locs cells slots Q (F0 m pc ls (.long v :: .ref (ad 0) :: rest)) := by
  obtain ⟨tt, zz, nc, sd, tr, st, T, Wt, O, SA, KA, R, Ln, Ky, Ch, L, f, htt, hzz, hnc, hLn, hSt, hKp, hP, hD⟩ := hW
  refine nk_VI (As := [.long v]) (rest := rest) F (mX3_part l D ad ca sd (nI tt) (nI nc) tr st (nI zz) T Wt O SA KA R Ln Ky Ch (X ++ va_pl L f) v (nI_pos' (by omega))) (cwV 1 F.2.2.2.2 gL_law_X3_part rfl rfl rfl (by decide +kernel) ⟨Nat.le_of_ble_eq_true rfl, Nat.le_of_ble_eq_true rfl⟩) hK hP hD hS hA 0 3 rfl rfl rfl rfl hsz rfl hr hdg ⟨by show cells + 0 ≤ 726897; omega, by show slots + 0 ≤ 6921558; omega⟩ (fun r u H locs hw hP hD hS => ?_)
  obtain ⟨u1, u2⟩ := u
  obtain ⟨t', h1, h2⟩ := fPart_inv htt hw
  have h2 : u1 = nI t' := h2
  subst h2
  refine W.widen (k := cells + 1) (n := slots + 4) (by omega) (by omega) ?_
  exact kk r _ _ ⟨t', zz, nc, sd, tr, st, u2, Wt, O, SA, KA, R, Ln, Ky, Ch, L, f, h1, hzz, hnc, hLn, hSt, hKp, hP, hD⟩ hS
set_option maxHeartbeats 1000000 in
set_option maxRecDepth 100000 in
theorem sC_path (F : CallFix p m c cL_law 4 s #[Value.ref b] wsL_law RL) (hK : nkK D (tC ca) s) (hW : CW A0 D ad ca X H) (hS : va_S A0 s.heap H locs) (hA : ∀ q : Nat, s.heap.size ≤ q → A0 q) (hsz : ls.size = 4) (hr : (rest.map fun v => v.category).sum ≤ 8) (hc : cells + 1 ≤ 726897) (hs : slots + 4 ≤ 6921558) (hdg : decode cL_law pc = .ok (.invokevirtual 28, 3))
    (kk : ∀ (r : Int32) (H1 : Heap) (locs1 : List Loc), CW A0 D ad ca X H1 → va_S A0 s.heap H1 locs1 → W p l e room_1 s m #[Value.ref b] below meth c H1 locs1 (cells + 1) (slots + 4) Q (F0 m (pc + 3) ls (.int r :: rest))) : W p l e room_1 s m #[Value.ref b] below meth c H locs cells slots Q (F0 m pc ls (.ref (ad 0) :: rest)) := by
  obtain ⟨tt, zz, nc, sd, tr, st, T, Wt, O, SA, KA, R, Ln, Ky, Ch, L, f, htt, hzz, hnc, hLn, hSt, hKp, hP, hD⟩ := hW
  refine nk_VI (As := []) (rest := rest) F (mX3_path l D ad ca sd (nI nc) tr st T Wt O SA KA R Ln Ky Ch (X ++ va_pl L f) zz tt hzz htt) (cwV 0 F.2.2.2.2 gL_law_X3_path rfl rfl rfl (by decide +kernel) ⟨Nat.le_of_ble_eq_true rfl, Nat.le_of_ble_eq_true rfl⟩) hK hP hD hS hA 0 3 rfl rfl rfl rfl hsz rfl hr hdg ⟨by show cells + 0 ≤ 726897; omega, by show slots + 0 ≤ 6921558; omega⟩ (fun r u H locs hw hP hD hS => ?_)
  obtain ⟨u1, u2, u3, u4, u5⟩ := u
  obtain ⟨t', z', h1, h2, h3, h4, h5, h6⟩ := fPath_inv hzz htt hLn hw
  have h4 : u1 = nI t' := h4
  have h5 : u5 = nI z' := h5
  subst h4
  subst h5
  refine W.widen (k := cells + 1) (n := slots + 4) (by omega) (by omega) ?_
  exact kk r _ _ ⟨t', z', nc, sd, tr, st, T, Wt, O, SA, KA, u2, u3, u4, Ch, L, f, h1, h3, hnc, h6, (hSt.mono h2), hKp, hP, hD⟩ hS
set_option maxHeartbeats 1000000 in
set_option maxRecDepth 100000 in
theorem sC_key (F : CallFix p m c cL_law 4 s #[Value.ref b] wsL_law RL) (hK : nkK D (tC ca) s) (hW : CW A0 D ad ca X H) (hS : va_S A0 s.heap H locs) (hA : ∀ q : Nat, s.heap.size ≤ q → A0 q) (hsz : ls.size = 4) (hr : (rest.map fun v => v.category).sum ≤ 8) (hc : cells + 1 ≤ 726897) (hs : slots + 4 ≤ 6921558) {p0 : Int32} (hdg : decode cL_law pc = .ok (.invokevirtual 33, 3))
    (kk : ∀ (r : Int64) (H1 : Heap) (locs1 : List Loc), CW A0 D ad ca X H1 → va_S A0 s.heap H1 locs1 → W p l e room_1 s m #[Value.ref b] below meth c H1 locs1 (cells + 1) (slots + 4) Q (F0 m (pc + 3) ls (.long r :: rest))) : W p l e room_1 s m #[Value.ref b] below meth c H locs cells slots Q (F0 m pc ls (.int p0 :: .ref (ad 0) :: rest)) := by
  obtain ⟨tt, zz, nc, sd, tr, st, T, Wt, O, SA, KA, R, Ln, Ky, Ch, L, f, htt, hzz, hnc, hLn, hSt, hKp, hP, hD⟩ := hW
  refine nk_VL (As := [.int p0]) (rest := rest) F (mX3_key l D ad ca sd (nI tt) (nI nc) tr st (nI zz) T Wt O SA KA R Ln Ky Ch (X ++ va_pl L f) p0 (nI_le hzz (by decide))) (cwV 1 F.2.2.2.2 gL_law_X3_key rfl rfl rfl (by decide +kernel) ⟨Nat.le_of_ble_eq_true rfl, Nat.le_of_ble_eq_true rfl⟩) hK hP hD hS hA 0 3 rfl rfl rfl rfl hsz rfl hr hdg ⟨by show cells + 0 ≤ 726897; omega, by show slots + 0 ≤ 6921558; omega⟩ (fun r u H locs hw hP hD hS => ?_)
  refine W.widen (k := cells + 1) (n := slots + 4) (by omega) (by omega) ?_
  exact kk r _ _ ⟨tt, zz, nc, sd, tr, u, T, Wt, O, SA, KA, R, Ln, Ky, Ch, L, f, htt, hzz, hnc, hLn, hSt, hKp, hP, hD⟩ hS
set_option maxHeartbeats 1000000 in
set_option maxRecDepth 100000 in
theorem sC_word (F : CallFix p m c cL_law 4 s #[Value.ref b] wsL_law RL) (hK : nkK D (tC ca) s) (hW : CW A0 D ad ca X H) (hS : va_S A0 s.heap H locs) (hA : ∀ q : Nat, s.heap.size ≤ q → A0 q) (hsz : ls.size = 4) (hr : (rest.map fun v => v.category).sum ≤ 8) (hc : cells + 1 ≤ 726897) (hs : slots + 4 ≤ 6921558) {a0 : Int64} {p0 : Int32} {k0 : Int64} (hdg : decode cL_law pc = .ok (.invokevirtual 38, 3))
    (kk : ∀ (r : Int64) (H1 : Heap) (locs1 : List Loc), CW A0 D ad ca X H1 → va_S A0 s.heap H1 locs1 → W p l e room_1 s m #[Value.ref b] below meth c H1 locs1 (cells + 1) (slots + 4) Q (F0 m (pc + 3) ls (.long r :: rest))) : W p l e room_1 s m #[Value.ref b] below meth c H locs cells slots Q (F0 m pc ls (.long k0 :: .int p0 :: .long a0 :: .ref (ad 0) :: rest)) := by
  obtain ⟨tt, zz, nc, sd, tr, st, T, Wt, O, SA, KA, R, Ln, Ky, Ch, L, f, htt, hzz, hnc, hLn, hSt, hKp, hP, hD⟩ := hW
  refine nk_VL (As := [.long a0, .int p0, .long k0]) (rest := rest) F (mX3_word l D ad ca sd (nI tt) (nI nc) tr st (nI zz) T Wt O SA KA R Ln Ky Ch (X ++ va_pl L f) a0 p0 k0 (nI_le hzz (by decide))) (cwV 3 F.2.2.2.2 gL_law_X3_word rfl rfl rfl (by decide +kernel) ⟨Nat.le_of_ble_eq_true rfl, Nat.le_of_ble_eq_true rfl⟩) hK hP hD hS hA 0 3 rfl rfl rfl rfl hsz rfl hr hdg ⟨by show cells + 0 ≤ 726897; omega, by show slots + 0 ≤ 6921558; omega⟩ (fun r u H locs hw hP hD hS => ?_)
  refine W.widen (k := cells + 1) (n := slots + 4) (by omega) (by omega) ?_
  exact kk r _ _ ⟨tt, zz, nc, sd, tr, u, T, Wt, O, SA, KA, R, Ln, Ky, Ch, L, f, htt, hzz, hnc, hLn, hSt, hKp, hP, hD⟩ hS
set_option maxHeartbeats 1000000 in
set_option maxRecDepth 100000 in
theorem sC_span (F : CallFix p m c cL_law 4 s #[Value.ref b] wsL_law RL) (hK : nkK D (tC ca) s) (hW : CW A0 D ad ca X H) (hS : va_S A0 s.heap H locs) (hA : ∀ q : Nat, s.heap.size ≤ q → A0 q) (hsz : ls.size = 4) (hr : (rest.map fun v => v.category).sum ≤ 8) (hc : cells + 1 ≤ 726897) (hs : slots + 4 ≤ 6921558) {a0 : Int64} {p0 : Int32} {c0 : Int32} {n0 : Int64} (hdg : decode cL_law pc = .ok (.invokevirtual 43, 3))
    (kk : ∀ (r : Int64) (H1 : Heap) (locs1 : List Loc), CW A0 D ad ca X H1 → va_S A0 s.heap H1 locs1 → W p l e room_1 s m #[Value.ref b] below meth c H1 locs1 (cells + 1) (slots + 4) Q (F0 m (pc + 3) ls (.long r :: rest))) : W p l e room_1 s m #[Value.ref b] below meth c H locs cells slots Q (F0 m pc ls (.long n0 :: .int c0 :: .int p0 :: .long a0 :: .ref (ad 0) :: rest)) := by
  obtain ⟨tt, zz, nc, sd, tr, st, T, Wt, O, SA, KA, R, Ln, Ky, Ch, L, f, htt, hzz, hnc, hLn, hSt, hKp, hP, hD⟩ := hW
  refine nk_VL (As := [.long a0, .int p0, .int c0, .long n0]) (rest := rest) F (mX3_span l D ad ca sd (nI tt) (nI nc) tr st (nI zz) T Wt O SA KA R Ln Ky Ch (X ++ va_pl L f) a0 p0 c0 n0 (nI_le hzz (by decide))) (cwV 4 F.2.2.2.2 gL_law_X3_span rfl rfl rfl (by decide +kernel) ⟨Nat.le_of_ble_eq_true rfl, Nat.le_of_ble_eq_true rfl⟩) hK hP hD hS hA 0 3 rfl rfl rfl rfl hsz rfl hr hdg ⟨by show cells + 0 ≤ 726897; omega, by show slots + 0 ≤ 6921558; omega⟩ (fun r u H locs hw hP hD hS => ?_)
  refine W.widen (k := cells + 1) (n := slots + 4) (by omega) (by omega) ?_
  exact kk r _ _ ⟨tt, zz, nc, sd, u, st, T, Wt, O, SA, KA, R, Ln, Ky, Ch, L, f, htt, hzz, hnc, hLn, hSt, hKp, hP, hD⟩ hS
set_option maxHeartbeats 1000000 in
set_option maxRecDepth 100000 in
theorem sC_fraction (F : CallFix p m c cL_law 4 s #[Value.ref b] wsL_law RL) (hK : nkK D (tC ca) s) (hW : CW A0 D ad ca X H) (hS : va_S A0 s.heap H locs) (hA : ∀ q : Nat, s.heap.size ≤ q → A0 q) (hsz : ls.size = 4) (hr : (rest.map fun v => v.category).sum ≤ 8) (hc : cells + 1 ≤ 726897) (hs : slots + 4 ≤ 6921558) {a0 : Int64} {p0 : Int32} {c0 : Int32} {n0 : Int64} {k0 : Int64} (hdg : decode cL_law pc = .ok (.invokevirtual 48, 3))
    (kk : ∀ (r : Int32) (H1 : Heap) (locs1 : List Loc), CW A0 D ad ca X H1 → va_S A0 s.heap H1 locs1 → W p l e room_1 s m #[Value.ref b] below meth c H1 locs1 (cells + 1) (slots + 4) Q (F0 m (pc + 3) ls (.int r :: rest))) : W p l e room_1 s m #[Value.ref b] below meth c H locs cells slots Q (F0 m pc ls (.long k0 :: .long n0 :: .int c0 :: .int p0 :: .long a0 :: .ref (ad 0) :: rest)) := by
  obtain ⟨tt, zz, nc, sd, tr, st, T, Wt, O, SA, KA, R, Ln, Ky, Ch, L, f, htt, hzz, hnc, hLn, hSt, hKp, hP, hD⟩ := hW
  refine nk_VI (As := [.long a0, .int p0, .int c0, .long n0, .long k0]) (rest := rest) F (mX3_fraction l D ad ca sd (nI tt) (nI nc) tr st (nI zz) T Wt O SA KA R Ln Ky Ch (X ++ va_pl L f) a0 p0 c0 n0 k0 (nI_le hzz (by decide))) (cwV 5 F.2.2.2.2 gL_law_X3_fraction rfl rfl rfl (by decide +kernel) ⟨Nat.le_of_ble_eq_true rfl, Nat.le_of_ble_eq_true rfl⟩) hK hP hD hS hA 0 3 rfl rfl rfl rfl hsz rfl hr hdg ⟨by show cells + 0 ≤ 726897; omega, by show slots + 0 ≤ 6921558; omega⟩ (fun r u H locs hw hP hD hS => ?_)
  refine W.widen (k := cells + 1) (n := slots + 4) (by omega) (by omega) ?_
  exact kk r _ _ ⟨tt, zz, nc, sd, u, st, T, Wt, O, SA, KA, R, Ln, Ky, Ch, L, f, htt, hzz, hnc, hLn, hSt, hKp, hP, hD⟩ hS
set_option maxHeartbeats 1000000 in
set_option maxRecDepth 100000 in
theorem sC_weight (F : CallFix p m c cL_law 4 s #[Value.ref b] wsL_law RL) (hK : nkK D (tC ca) s) (hW : CW A0 D ad ca X H) (hS : va_S A0 s.heap H locs) (hA : ∀ q : Nat, s.heap.size ≤ q → A0 q) (hsz : ls.size = 4) (hr : (rest.map fun v => v.category).sum ≤ 8) (hc : cells + 1 ≤ 726897) (hs : slots + 4 ≤ 6921558) {k0 : Int32} {w0 : Int64} (hdg : decode cL_law pc = .ok (.invokevirtual 53, 3))
    (kk : ∀ (r : Int32) (H1 : Heap) (locs1 : List Loc), CW A0 D ad ca X H1 → va_S A0 s.heap H1 locs1 → W p l e room_1 s m #[Value.ref b] below meth c H1 locs1 (cells + 1) (slots + 4) Q (F0 m (pc + 3) ls (.int r :: rest))) : W p l e room_1 s m #[Value.ref b] below meth c H locs cells slots Q (F0 m pc ls (.long w0 :: .int k0 :: .ref (ad 0) :: rest)) := by
  obtain ⟨tt, zz, nc, sd, tr, st, T, Wt, O, SA, KA, R, Ln, Ky, Ch, L, f, htt, hzz, hnc, hLn, hSt, hKp, hP, hD⟩ := hW
  refine nk_VI (As := [.int k0, .long w0]) (rest := rest) F (mX3_weight l D ad ca sd (nI tt) (nI nc) tr st (nI zz) T Wt O SA KA R Ln Ky Ch (X ++ va_pl L f) k0 w0) (cwV 2 F.2.2.2.2 gL_law_X3_weight rfl rfl rfl (by decide +kernel) ⟨Nat.le_of_ble_eq_true rfl, Nat.le_of_ble_eq_true rfl⟩) hK hP hD hS hA 0 3 rfl rfl rfl rfl hsz rfl hr hdg ⟨by show cells + 0 ≤ 726897; omega, by show slots + 0 ≤ 6921558; omega⟩ (fun r u H locs hw hP hD hS => ?_)
  refine W.widen (k := cells + 1) (n := slots + 4) (by omega) (by omega) ?_
  exact kk r _ _ ⟨tt, zz, nc, sd, tr, st, T, u, O, SA, KA, R, Ln, Ky, Ch, L, f, htt, hzz, hnc, hLn, hSt, hKp, hP, hD⟩ hS
set_option maxHeartbeats 1000000 in
set_option maxRecDepth 100000 in
theorem sC_pick (F : CallFix p m c cL_law 4 s #[Value.ref b] wsL_law RL) (hK : nkK D (tC ca) s) (hW : CW A0 D ad ca X H) (hS : va_S A0 s.heap H locs) (hA : ∀ q : Nat, s.heap.size ≤ q → A0 q) (hsz : ls.size = 4) (hr : (rest.map fun v => v.category).sum ≤ 8) (hc : cells + 1 ≤ 726897) (hs : slots + 4 ≤ 6921558) {a0 : Int64} {p0 : Int32} {c0 : Int32} (hdg : decode cL_law pc = .ok (.invokevirtual 58, 3))
    (kk : ∀ (r : Int32) (H1 : Heap) (locs1 : List Loc), CW A0 D ad ca X H1 → va_S A0 s.heap H1 locs1 → W p l e room_1 s m #[Value.ref b] below meth c H1 locs1 (cells + 1) (slots + 4) Q (F0 m (pc + 3) ls (.int r :: rest))) : W p l e room_1 s m #[Value.ref b] below meth c H locs cells slots Q (F0 m pc ls (.int c0 :: .int p0 :: .long a0 :: .ref (ad 0) :: rest)) := by
  obtain ⟨tt, zz, nc, sd, tr, st, T, Wt, O, SA, KA, R, Ln, Ky, Ch, L, f, htt, hzz, hnc, hLn, hSt, hKp, hP, hD⟩ := hW
  refine nk_VI (As := [.long a0, .int p0, .int c0]) (rest := rest) F (mX3_pick l D ad ca sd (nI tt) (nI nc) tr st (nI zz) T Wt O SA KA R Ln Ky Ch (X ++ va_pl L f) a0 p0 c0 (nI_le hzz (by decide))) (cwV 3 F.2.2.2.2 gL_law_X3_pick rfl rfl rfl (by decide +kernel) ⟨Nat.le_of_ble_eq_true rfl, Nat.le_of_ble_eq_true rfl⟩) hK hP hD hS hA 0 3 rfl rfl rfl rfl hsz rfl hr hdg ⟨by show cells + 0 ≤ 726897; omega, by show slots + 0 ≤ 6921558; omega⟩ (fun r u H locs hw hP hD hS => ?_)
  refine W.widen (k := cells + 1) (n := slots + 4) (by omega) (by omega) ?_
  exact kk r _ _ ⟨tt, zz, nc, sd, u, st, T, Wt, O, SA, KA, R, Ln, Ky, Ch, L, f, htt, hzz, hnc, hLn, hSt, hKp, hP, hD⟩ hS
set_option maxHeartbeats 1000000 in
set_option maxRecDepth 100000 in
theorem sC_permuted (F : CallFix p m c cL_law 4 s #[Value.ref b] wsL_law RL) (hK : nkK D (tC ca) s) (hW : CW A0 D ad ca X H) (hS : va_S A0 s.heap H locs) (hA : ∀ q : Nat, s.heap.size ≤ q → A0 q) (hsz : ls.size = 4) (hr : (rest.map fun v => v.category).sum ≤ 8) (hc : cells + 1 ≤ 726897) (hs : slots + 4 ≤ 6921558) {a0 : Int64} {p0 : Int32} {c0 : Int32} {n0 : Int32} {k0 : Int32} (hdg : decode cL_law pc = .ok (.invokevirtual 63, 3))
    (kk : ∀ (r : Int32) (H1 : Heap) (locs1 : List Loc), CW A0 D ad ca X H1 → va_S A0 s.heap H1 locs1 → W p l e room_1 s m #[Value.ref b] below meth c H1 locs1 (cells + 1) (slots + 4) Q (F0 m (pc + 3) ls (.int r :: rest))) : W p l e room_1 s m #[Value.ref b] below meth c H locs cells slots Q (F0 m pc ls (.int k0 :: .int n0 :: .int c0 :: .int p0 :: .long a0 :: .ref (ad 0) :: rest)) := by
  obtain ⟨tt, zz, nc, sd, tr, st, T, Wt, O, SA, KA, R, Ln, Ky, Ch, L, f, htt, hzz, hnc, hLn, hSt, hKp, hP, hD⟩ := hW
  refine nk_VI (As := [.long a0, .int p0, .int c0, .int n0, .int k0]) (rest := rest) F (mX3_permuted l D ad ca sd (nI tt) (nI nc) tr st (nI zz) T Wt O SA KA R Ln Ky Ch (X ++ va_pl L f) a0 p0 c0 n0 k0 (nI_le hzz (by decide))) (cwV 5 F.2.2.2.2 gL_law_X3_permuted rfl rfl rfl (by decide +kernel) ⟨Nat.le_of_ble_eq_true rfl, Nat.le_of_ble_eq_true rfl⟩) hK hP hD hS hA 0 3 rfl rfl rfl rfl hsz rfl hr hdg ⟨by show cells + 0 ≤ 726897; omega, by show slots + 0 ≤ 6921558; omega⟩ (fun r u H locs hw hP hD hS => ?_)
  obtain ⟨u1, u2⟩ := u
  refine W.widen (k := cells + 1) (n := slots + 4) (by omega) (by omega) ?_
  exact kk r _ _ ⟨tt, zz, nc, sd, u2, st, T, Wt, u1, SA, KA, R, Ln, Ky, Ch, L, f, htt, hzz, hnc, hLn, hSt, hKp, hP, hD⟩ hS
set_option maxHeartbeats 1000000 in
set_option maxRecDepth 100000 in
theorem sC_tries (F : CallFix p m c cL_law 4 s #[Value.ref b] wsL_law RL) (hK : nkK D (tC ca) s) (hW : CW A0 D ad ca X H) (hS : va_S A0 s.heap H locs) (hA : ∀ q : Nat, s.heap.size ≤ q → A0 q) (hsz : ls.size = 4) (hr : (rest.map fun v => v.category).sum ≤ 8) (hc : cells + 1 ≤ 726897) (hs : slots + 4 ≤ 6921558) (hdg : decode cL_law pc = .ok (.invokevirtual 68, 3))
    (kk : ∀ (r : Int32) (H1 : Heap) (locs1 : List Loc), CW A0 D ad ca X H1 → va_S A0 s.heap H1 locs1 → W p l e room_1 s m #[Value.ref b] below meth c H1 locs1 (cells + 1) (slots + 4) Q (F0 m (pc + 3) ls (.int r :: rest))) : W p l e room_1 s m #[Value.ref b] below meth c H locs cells slots Q (F0 m pc ls (.ref (ad 0) :: rest)) := by
  obtain ⟨tt, zz, nc, sd, tr, st, T, Wt, O, SA, KA, R, Ln, Ky, Ch, L, f, htt, hzz, hnc, hLn, hSt, hKp, hP, hD⟩ := hW
  refine nk_VRI (As := []) (rest := rest) F (mX3_tries l D ad ca sd (nI tt) (nI nc) tr st (nI zz) T Wt O SA KA R Ln Ky Ch (X ++ va_pl L f) ) (cwV 0 F.2.2.2.2 gL_law_X3_tries rfl rfl rfl (by decide +kernel) ⟨Nat.le_of_ble_eq_true rfl, Nat.le_of_ble_eq_true rfl⟩) hK hP 0 3 rfl rfl rfl rfl hsz rfl hr hdg ⟨by show cells ≤ 726897; omega, by show slots ≤ 6921558; omega⟩ (fun r hw => ?_)
  refine W.widen (k := cells + 1) (n := slots + 4) (by omega) (by omega) ?_
  exact kk r _ _ ⟨tt, zz, nc, sd, tr, st, T, Wt, O, SA, KA, R, Ln, Ky, Ch, L, f, htt, hzz, hnc, hLn, hSt, hKp, hP, hD⟩ hS
set_option maxHeartbeats 1000000 in
set_option maxRecDepth 100000 in
theorem sC_status (F : CallFix p m c cL_law 4 s #[Value.ref b] wsL_law RL) (hK : nkK D (tC ca) s) (hW : CW A0 D ad ca X H) (hS : va_S A0 s.heap H locs) (hA : ∀ q : Nat, s.heap.size ≤ q → A0 q) (hsz : ls.size = 4) (hr : (rest.map fun v => v.category).sum ≤ 8) (hc : cells + 1 ≤ 726897) (hs : slots + 4 ≤ 6921558) (hdg : decode cL_law pc = .ok (.invokevirtual 72, 3))
    (kk : ∀ (r : Int32) (H1 : Heap) (locs1 : List Loc), CW A0 D ad ca X H1 → va_S A0 s.heap H1 locs1 → W p l e room_1 s m #[Value.ref b] below meth c H1 locs1 (cells + 1) (slots + 4) Q (F0 m (pc + 3) ls (.int r :: rest))) : W p l e room_1 s m #[Value.ref b] below meth c H locs cells slots Q (F0 m pc ls (.ref (ad 0) :: rest)) := by
  obtain ⟨tt, zz, nc, sd, tr, st, T, Wt, O, SA, KA, R, Ln, Ky, Ch, L, f, htt, hzz, hnc, hLn, hSt, hKp, hP, hD⟩ := hW
  refine nk_VRI (As := []) (rest := rest) F (mX3_status l D ad ca sd (nI tt) (nI nc) tr st (nI zz) T Wt O SA KA R Ln Ky Ch (X ++ va_pl L f) ) (cwV 0 F.2.2.2.2 gL_law_X3_status rfl rfl rfl (by decide +kernel) ⟨Nat.le_of_ble_eq_true rfl, Nat.le_of_ble_eq_true rfl⟩) hK hP 0 3 rfl rfl rfl rfl hsz rfl hr hdg ⟨by show cells ≤ 726897; omega, by show slots ≤ 6921558; omega⟩ (fun r hw => ?_)
  refine W.widen (k := cells + 1) (n := slots + 4) (by omega) (by omega) ?_
  exact kk r _ _ ⟨tt, zz, nc, sd, tr, st, T, Wt, O, SA, KA, R, Ln, Ky, Ch, L, f, htt, hzz, hnc, hLn, hSt, hKp, hP, hD⟩ hS
set_option maxHeartbeats 1000000 in
set_option maxRecDepth 100000 in
theorem sC_counted (F : CallFix p m c cL_law 4 s #[Value.ref b] wsL_law RL) (hK : nkK D (tC ca) s) (hW : CW A0 D ad ca X H) (hS : va_S A0 s.heap H locs) (hA : ∀ q : Nat, s.heap.size ≤ q → A0 q) (hsz : ls.size = 4) (hr : (rest.map fun v => v.category).sum ≤ 8) (hc : cells + 1 ≤ 726897) (hs : slots + 4 ≤ 6921558) {b0 : Int32} {n0 : Int32} {i0 : Int32} (hdg : decode cL_law pc = .ok (.invokevirtual 112, 3))
    (kk : ∀ (r : Int32) (H1 : Heap) (locs1 : List Loc), r = fCounted b0 n0 i0 → CW A0 D ad ca X H1 → va_S A0 s.heap H1 locs1 → W p l e room_1 s m #[Value.ref b] below meth c H1 locs1 (cells + 1) (slots + 4) Q (F0 m (pc + 3) ls (.int r :: rest))) : W p l e room_1 s m #[Value.ref b] below meth c H locs cells slots Q (F0 m pc ls (.int i0 :: .int n0 :: .int b0 :: .ref (ad 0) :: rest)) := by
  obtain ⟨tt, zz, nc, sd, tr, st, T, Wt, O, SA, KA, R, Ln, Ky, Ch, L, f, htt, hzz, hnc, hLn, hSt, hKp, hP, hD⟩ := hW
  refine nk_VRI (As := [.int b0, .int n0, .int i0]) (rest := rest) F (mX3_counted l D ad ca sd (nI tt) (nI nc) tr st (nI zz) T Wt O SA KA R Ln Ky Ch (X ++ va_pl L f) b0 n0 i0) (cwV 3 F.2.2.2.2 gL_law_X3_counted rfl rfl rfl (by decide +kernel) ⟨Nat.le_of_ble_eq_true rfl, Nat.le_of_ble_eq_true rfl⟩) hK hP 0 3 rfl rfl rfl rfl hsz rfl hr hdg ⟨by show cells ≤ 726897; omega, by show slots ≤ 6921558; omega⟩ (fun r hw => ?_)
  refine W.widen (k := cells + 1) (n := slots + 4) (by omega) (by omega) ?_
  exact kk r _ _ hw ⟨tt, zz, nc, sd, tr, st, T, Wt, O, SA, KA, R, Ln, Ky, Ch, L, f, htt, hzz, hnc, hLn, hSt, hKp, hP, hD⟩ hS
set_option maxHeartbeats 1000000 in
set_option maxRecDepth 100000 in
theorem sC_count (F : CallFix p m c cL_law 4 s #[Value.ref b] wsL_law RL) (hK : nkK D (tC ca) s) (hW : CW A0 D ad ca X H) (hS : va_S A0 s.heap H locs) (hA : ∀ q : Nat, s.heap.size ≤ q → A0 q) (hsz : ls.size = 4) (hr : (rest.map fun v => v.category).sum ≤ 8) (hc : cells + 1 ≤ 726897) (hs : slots + 4 ≤ 6921558) {x0 : Int32} (hdg : decode cL_law pc = .ok (.invokevirtual 117, 3))
    (kk : ∀ (r : Int32) (H1 : Heap) (locs1 : List Loc), CW A0 D ad ca X H1 → va_S A0 s.heap H1 locs1 → W p l e room_1 s m #[Value.ref b] below meth c H1 locs1 (cells + 1) (slots + 4) Q (F0 m (pc + 3) ls (.int r :: rest))) : W p l e room_1 s m #[Value.ref b] below meth c H locs cells slots Q (F0 m pc ls (.int x0 :: .ref (ad 0) :: rest)) := by
  obtain ⟨tt, zz, nc, sd, tr, st, T, Wt, O, SA, KA, R, Ln, Ky, Ch, L, f, htt, hzz, hnc, hLn, hSt, hKp, hP, hD⟩ := hW
  refine nk_VRI (As := [.int x0]) (rest := rest) F (mX3_count l D ad ca sd (nI tt) (nI nc) tr st (nI zz) T Wt O SA KA R Ln Ky Ch (X ++ va_pl L f) x0) (cwV 1 F.2.2.2.2 gL_law_X3_count rfl rfl rfl (by decide +kernel) ⟨Nat.le_of_ble_eq_true rfl, Nat.le_of_ble_eq_true rfl⟩) hK hP 0 3 rfl rfl rfl rfl hsz rfl hr hdg ⟨by show cells ≤ 726897; omega, by show slots ≤ 6921558; omega⟩ (fun r hw => ?_)
  refine W.widen (k := cells + 1) (n := slots + 4) (by omega) (by omega) ?_
  exact kk r _ _ ⟨tt, zz, nc, sd, tr, st, T, Wt, O, SA, KA, R, Ln, Ky, Ch, L, f, htt, hzz, hnc, hLn, hSt, hKp, hP, hD⟩ hS
set_option maxHeartbeats 1000000 in
set_option maxRecDepth 100000 in
theorem sC_next (F : CallFix p m c cL_law 4 s #[Value.ref b] wsL_law RL) (hK : nkK D (tC ca) s) (hW : CW A0 D ad ca X H) (hS : va_S A0 s.heap H locs) (hA : ∀ q : Nat, s.heap.size ≤ q → A0 q) (hsz : ls.size = 4) (hr : (rest.map fun v => v.category).sum ≤ 8) (hc : cells + 1 ≤ 726897) (hs : slots + 4 ≤ 6921558) {i0 : Int32} {n0 : Int64} (hdg : decode cL_law pc = .ok (.invokevirtual 81, 3))
    (kk : ∀ (r : Int64) (H1 : Heap) (locs1 : List Loc), CW A0 D ad ca X H1 → va_S A0 s.heap H1 locs1 → W p l e room_1 s m #[Value.ref b] below meth c H1 locs1 (cells + 1) (slots + 4) Q (F0 m (pc + 3) ls (.long r :: rest))) : W p l e room_1 s m #[Value.ref b] below meth c H locs cells slots Q (F0 m pc ls (.long n0 :: .int i0 :: .ref (ad 0) :: rest)) := by
  obtain ⟨tt, zz, nc, sd, tr, st, T, Wt, O, SA, KA, R, Ln, Ky, Ch, L, f, htt, hzz, hnc, hLn, hSt, hKp, hP, hD⟩ := hW
  rcases fAt_or i0 hnc hSt with hAt | ⟨j, a, rn, pp, pl, sp, hj, hij, hAt, haL, hpp, hfa⟩
  · skip
    refine nk_VL (As := [.int i0, .long n0]) (rest := rest) F (mX3_next_N l D ad ca sd (nI tt) (nI nc) tr st (nI zz) T Wt O SA KA R Ln Ky Ch X L f i0 n0 (nI_le hnc (by decide)) hAt) (cwV 2 F.2.2.2.2 gL_law_X3_next rfl rfl rfl (by decide +kernel) ⟨Nat.le_of_ble_eq_true rfl, Nat.le_of_ble_eq_true rfl⟩) hK hP hD hS hA 0 3 rfl rfl rfl rfl hsz rfl hr hdg ⟨by show cells + 0 ≤ 726897; omega, by show slots + 0 ≤ 6921558; omega⟩ (fun r u H locs hw hP hD hS => ?_)
    refine W.widen (k := cells + 1) (n := slots + 4) (by omega) (by omega) ?_
    exact kk r _ _ ⟨tt, zz, nc, sd, tr, st, T, Wt, O, SA, KA, R, Ln, Ky, Ch, L, f, htt, hzz, hnc, hLn, hSt, hKp, hP, hD⟩ hS
  · skip
    refine nk_VL (As := [.int i0, .long n0]) (rest := rest) F (mX3_next_S l D ad ca sd (nI tt) (nI nc) tr st (nI zz) T Wt O SA KA R Ln Ky Ch X L f i0 a rn (nI pp) pl sp hAt haL hfa n0 (nI_le hnc (by decide)) (vp_in_nI (by omega) (by decide))) (cwV 2 F.2.2.2.2 gL_law_X3_next rfl rfl rfl (by decide +kernel) ⟨Nat.le_of_ble_eq_true rfl, Nat.le_of_ble_eq_true rfl⟩) hK hP hD hS hA 0 3 rfl rfl rfl rfl hsz rfl hr hdg ⟨by show cells + 0 ≤ 726897; omega, by show slots + 0 ≤ 6921558; omega⟩ (fun r u H locs hw hP hD hS => ?_)
    obtain ⟨u1, u2⟩ := u
    have hu : u2 = f ∨ u2 = va_up f a (eSt rn (nI pp) (pl + 1) sp) := fNext_f hw
    have hSt : vSt nc zz SA L u2 := hu.elim (fun h => by rw [h]; exact hSt) (fun h => by rw [h]; exact vSt_upS hSt hpp)
    have hKp : vKp nc KA L u2 := hu.elim (fun h => by rw [h]; exact hKp) (fun h => by rw [h]; exact vKp_upS hfa hKp)
    refine W.widen (k := cells + 1) (n := slots + 4) (by omega) (by omega) ?_
    exact kk r _ _ ⟨tt, zz, nc, sd, u1, st, T, Wt, O, SA, KA, R, Ln, Ky, Ch, L, u2, htt, hzz, hnc, hLn, hSt, hKp, hP, hD⟩ hS
set_option maxHeartbeats 1000000 in
set_option maxRecDepth 100000 in
theorem sC_nextPick (F : CallFix p m c cL_law 4 s #[Value.ref b] wsL_law RL) (hK : nkK D (tC ca) s) (hW : CW A0 D ad ca X H) (hS : va_S A0 s.heap H locs) (hA : ∀ q : Nat, s.heap.size ≤ q → A0 q) (hsz : ls.size = 4) (hr : (rest.map fun v => v.category).sum ≤ 8) (hc : cells + 1 ≤ 726897) (hs : slots + 4 ≤ 6921558) {i0 : Int32} (hdg : decode cL_law pc = .ok (.invokevirtual 86, 3))
    (kk : ∀ (r : Int32) (H1 : Heap) (locs1 : List Loc), CW A0 D ad ca X H1 → va_S A0 s.heap H1 locs1 → W p l e room_1 s m #[Value.ref b] below meth c H1 locs1 (cells + 1) (slots + 4) Q (F0 m (pc + 3) ls (.int r :: rest))) : W p l e room_1 s m #[Value.ref b] below meth c H locs cells slots Q (F0 m pc ls (.int i0 :: .ref (ad 0) :: rest)) := by
  obtain ⟨tt, zz, nc, sd, tr, st, T, Wt, O, SA, KA, R, Ln, Ky, Ch, L, f, htt, hzz, hnc, hLn, hSt, hKp, hP, hD⟩ := hW
  rcases fAt_or i0 hnc hSt with hAt | ⟨j, a, rn, pp, pl, sp, hj, hij, hAt, haL, hpp, hfa⟩
  · skip
    refine nk_VI (As := [.int i0]) (rest := rest) F (mX3_nextPick_N l D ad ca sd (nI tt) (nI nc) tr st (nI zz) T Wt O SA KA R Ln Ky Ch X L f i0 (nI_le hnc (by decide)) hAt) (cwV 1 F.2.2.2.2 gL_law_X3_nextPick rfl rfl rfl (by decide +kernel) ⟨Nat.le_of_ble_eq_true rfl, Nat.le_of_ble_eq_true rfl⟩) hK hP hD hS hA 0 3 rfl rfl rfl rfl hsz rfl hr hdg ⟨by show cells + 0 ≤ 726897; omega, by show slots + 0 ≤ 6921558; omega⟩ (fun r u H locs hw hP hD hS => ?_)
    refine W.widen (k := cells + 1) (n := slots + 4) (by omega) (by omega) ?_
    exact kk r _ _ ⟨tt, zz, nc, sd, tr, st, T, Wt, O, SA, KA, R, Ln, Ky, Ch, L, f, htt, hzz, hnc, hLn, hSt, hKp, hP, hD⟩ hS
  · skip
    refine nk_VI (As := [.int i0]) (rest := rest) F (mX3_nextPick_S l D ad ca sd (nI tt) (nI nc) tr st (nI zz) T Wt O SA KA R Ln Ky Ch X L f i0 a rn (nI pp) pl sp hAt haL hfa (nI_le hnc (by decide)) (vp_in_nI (by omega) (by decide))) (cwV 1 F.2.2.2.2 gL_law_X3_nextPick rfl rfl rfl (by decide +kernel) ⟨Nat.le_of_ble_eq_true rfl, Nat.le_of_ble_eq_true rfl⟩) hK hP hD hS hA 0 3 rfl rfl rfl rfl hsz rfl hr hdg ⟨by show cells + 0 ≤ 726897; omega, by show slots + 0 ≤ 6921558; omega⟩ (fun r u H locs hw hP hD hS => ?_)
    obtain ⟨u1, u2⟩ := u
    have hu : u2 = f ∨ u2 = va_up f a (eSt rn (nI pp) (pl + 1) sp) := fNPick_f hw
    have hSt : vSt nc zz SA L u2 := hu.elim (fun h => by rw [h]; exact hSt) (fun h => by rw [h]; exact vSt_upS hSt hpp)
    have hKp : vKp nc KA L u2 := hu.elim (fun h => by rw [h]; exact hKp) (fun h => by rw [h]; exact vKp_upS hfa hKp)
    refine W.widen (k := cells + 1) (n := slots + 4) (by omega) (by omega) ?_
    exact kk r _ _ ⟨tt, zz, nc, sd, u1, st, T, Wt, O, SA, KA, R, Ln, Ky, Ch, L, u2, htt, hzz, hnc, hLn, hSt, hKp, hP, hD⟩ hS
set_option maxHeartbeats 1000000 in
set_option maxRecDepth 100000 in
theorem sC_skip (F : CallFix p m c cL_law 4 s #[Value.ref b] wsL_law RL) (hK : nkK D (tC ca) s) (hW : CW A0 D ad ca X H) (hS : va_S A0 s.heap H locs) (hA : ∀ q : Nat, s.heap.size ≤ q → A0 q) (hsz : ls.size = 4) (hr : (rest.map fun v => v.category).sum ≤ 8) (hc : cells + 1 ≤ 726897) (hs : slots + 4 ≤ 6921558) {i0 : Int32} {n0 : Int32} (hdg : decode cL_law pc = .ok (.invokevirtual 95, 3))
    (kk : ∀ (r : Int32) (H1 : Heap) (locs1 : List Loc), CW A0 D ad ca X H1 → va_S A0 s.heap H1 locs1 → W p l e room_1 s m #[Value.ref b] below meth c H1 locs1 (cells + 1) (slots + 4) Q (F0 m (pc + 3) ls (.int r :: rest))) : W p l e room_1 s m #[Value.ref b] below meth c H locs cells slots Q (F0 m pc ls (.int n0 :: .int i0 :: .ref (ad 0) :: rest)) := by
  obtain ⟨tt, zz, nc, sd, tr, st, T, Wt, O, SA, KA, R, Ln, Ky, Ch, L, f, htt, hzz, hnc, hLn, hSt, hKp, hP, hD⟩ := hW
  rcases fAt_or i0 hnc hSt with hAt | ⟨j, a, rn, pp, pl, sp, hj, hij, hAt, haL, hpp, hfa⟩
  · skip
    refine nk_VI (As := [.int i0, .int n0]) (rest := rest) F (mX3_skip_N l D ad ca sd (nI tt) (nI nc) tr st (nI zz) T Wt O SA KA R Ln Ky Ch X L f i0 n0 (nI_le hnc (by decide)) hAt) (cwV 2 F.2.2.2.2 gL_law_X3_skip rfl rfl rfl (by decide +kernel) ⟨Nat.le_of_ble_eq_true rfl, Nat.le_of_ble_eq_true rfl⟩) hK hP hD hS hA 0 3 rfl rfl rfl rfl hsz rfl hr hdg ⟨by show cells + 0 ≤ 726897; omega, by show slots + 0 ≤ 6921558; omega⟩ (fun r u H locs hw hP hD hS => ?_)
    refine W.widen (k := cells + 1) (n := slots + 4) (by omega) (by omega) ?_
    exact kk r _ _ ⟨tt, zz, nc, sd, tr, st, T, Wt, O, SA, KA, R, Ln, Ky, Ch, L, f, htt, hzz, hnc, hLn, hSt, hKp, hP, hD⟩ hS
  · skip
    refine nk_VI (As := [.int i0, .int n0]) (rest := rest) F (mX3_skip_S l D ad ca sd (nI tt) (nI nc) tr st (nI zz) T Wt O SA KA R Ln Ky Ch X L f i0 a rn (nI pp) pl sp hAt haL hfa n0 (nI_le hnc (by decide))) (cwV 2 F.2.2.2.2 gL_law_X3_skip rfl rfl rfl (by decide +kernel) ⟨Nat.le_of_ble_eq_true rfl, Nat.le_of_ble_eq_true rfl⟩) hK hP hD hS hA 0 3 rfl rfl rfl rfl hsz rfl hr hdg ⟨by show cells + 0 ≤ 726897; omega, by show slots + 0 ≤ 6921558; omega⟩ (fun r u H locs hw hP hD hS => ?_)
    have hu : u = f ∨ u = va_up f a (eSt rn (nI pp) (pl + n0) sp) := fSkip_f hw
    have hSt : vSt nc zz SA L u := hu.elim (fun h => by rw [h]; exact hSt) (fun h => by rw [h]; exact vSt_upS hSt hpp)
    have hKp : vKp nc KA L u := hu.elim (fun h => by rw [h]; exact hKp) (fun h => by rw [h]; exact vKp_upS hfa hKp)
    refine W.widen (k := cells + 1) (n := slots + 4) (by omega) (by omega) ?_
    exact kk r _ _ ⟨tt, zz, nc, sd, tr, st, T, Wt, O, SA, KA, R, Ln, Ky, Ch, L, u, htt, hzz, hnc, hLn, hSt, hKp, hP, hD⟩ hS
set_option maxHeartbeats 1000000 in
set_option maxRecDepth 100000 in
theorem sC_told (F : CallFix p m c cL_law 4 s #[Value.ref b] wsL_law RL) (hK : nkK D (tC ca) s) (hW : CW A0 D ad ca X H) (hS : va_S A0 s.heap H locs) (hA : ∀ q : Nat, s.heap.size ≤ q → A0 q) (hsz : ls.size = 4) (hr : (rest.map fun v => v.category).sum ≤ 8) (hc : cells + 1 ≤ 726897) (hs : slots + 4 ≤ 6921558) {i0 : Int32} {x0 : Int32} (hdg : decode cL_law pc = .ok (.invokevirtual 108, 3))
    (kk : ∀ (r : Int32) (H1 : Heap) (locs1 : List Loc), CW A0 D ad ca X H1 → va_S A0 s.heap H1 locs1 → W p l e room_1 s m #[Value.ref b] below meth c H1 locs1 (cells + 1) (slots + 4) Q (F0 m (pc + 3) ls (.int r :: rest))) : W p l e room_1 s m #[Value.ref b] below meth c H locs cells slots Q (F0 m pc ls (.int x0 :: .int i0 :: .ref (ad 0) :: rest)) := by
  obtain ⟨tt, zz, nc, sd, tr, st, T, Wt, O, SA, KA, R, Ln, Ky, Ch, L, f, htt, hzz, hnc, hLn, hSt, hKp, hP, hD⟩ := hW
  rcases fAt_or i0 hnc hSt with hAt | ⟨j, a, rn, pp, pl, sp, hj, hij, hAt, haL, hpp, hfa⟩
  · skip
    refine nk_VRI (As := [.int i0, .int x0]) (rest := rest) F (mX3_told_N l D ad ca sd (nI tt) (nI nc) tr st (nI zz) T Wt O SA KA R Ln Ky Ch X L f i0 x0 (nI_le hnc (by decide)) hAt) (cwV 2 F.2.2.2.2 gL_law_X3_told rfl rfl rfl (by decide +kernel) ⟨Nat.le_of_ble_eq_true rfl, Nat.le_of_ble_eq_true rfl⟩) hK hP 0 3 rfl rfl rfl rfl hsz rfl hr hdg ⟨by show cells ≤ 726897; omega, by show slots ≤ 6921558; omega⟩ (fun r hw => ?_)
    refine W.widen (k := cells + 1) (n := slots + 4) (by omega) (by omega) ?_
    exact kk r _ _ ⟨tt, zz, nc, sd, tr, st, T, Wt, O, SA, KA, R, Ln, Ky, Ch, L, f, htt, hzz, hnc, hLn, hSt, hKp, hP, hD⟩ hS
  · skip
    refine nk_VRI (As := [.int i0, .int x0]) (rest := rest) F (mX3_told_S l D ad ca sd (nI tt) (nI nc) tr st (nI zz) T Wt O SA KA R Ln Ky Ch X L f i0 a rn (nI pp) pl sp hAt haL hfa x0 (nI_le hnc (by decide))) (cwV 2 F.2.2.2.2 gL_law_X3_told rfl rfl rfl (by decide +kernel) ⟨Nat.le_of_ble_eq_true rfl, Nat.le_of_ble_eq_true rfl⟩) hK hP 0 3 rfl rfl rfl rfl hsz rfl hr hdg ⟨by show cells ≤ 726897; omega, by show slots ≤ 6921558; omega⟩ (fun r hw => ?_)
    refine W.widen (k := cells + 1) (n := slots + 4) (by omega) (by omega) ?_
    exact kk r _ _ ⟨tt, zz, nc, sd, tr, st, T, Wt, O, SA, KA, R, Ln, Ky, Ch, L, f, htt, hzz, hnc, hLn, hSt, hKp, hP, hD⟩ hS
set_option maxHeartbeats 1000000 in
set_option maxRecDepth 100000 in
theorem sC_open (F : CallFix p m c cL_law 4 s #[Value.ref b] wsL_law RL) (hK : nkK D (tC ca) s) (hW : CW A0 D ad ca X H) (hS : va_S A0 s.heap H locs) (hA : ∀ q : Nat, s.heap.size ≤ q → A0 q) (hsz : ls.size = 4) (hr : (rest.map fun v => v.category).sum ≤ 8) (hc : cells + 1 ≤ 726897) (hs : slots + 4 ≤ 6921558) {r0 : Int64} {p0 : Int32} (hdg : decode cL_law pc = .ok (.invokevirtual 76, 3))
    (kk : ∀ (r : Int32) (H1 : Heap) (locs1 : List Loc), CW A0 D ad ca X H1 → va_S A0 s.heap H1 locs1 → W p l e room_1 s m #[Value.ref b] below meth c H1 locs1 (cells + 1) (slots + 4) Q (F0 m (pc + 3) ls (.int r :: rest))) : W p l e room_1 s m #[Value.ref b] below meth c H locs cells slots Q (F0 m pc ls (.int p0 :: .long r0 :: .ref (ad 0) :: rest)) := by
  obtain ⟨tt, zz, nc, sd, tr, st, T, Wt, O, SA, KA, R, Ln, Ky, Ch, L, f, htt, hzz, hnc, hLn, hSt, hKp, hP, hD⟩ := hW
  by_cases hB : fHas (nI zz) p0 = 0 ∨ ¬ nI nc < 8
  · skip
    refine nk_VI (As := [.long r0, .int p0]) (rest := rest) F (mX3_open_B l D ad ca sd (nI tt) (nI nc) tr st (nI zz) T Wt O SA KA R Ln Ky Ch X L f r0 p0 hB) (cwV 2 F.2.2.2.2 gL_law_X3_open rfl rfl rfl (by decide +kernel) ⟨Nat.le_of_ble_eq_true rfl, Nat.le_of_ble_eq_true rfl⟩) hK hP hD hS hA 0 3 rfl rfl rfl rfl hsz rfl hr hdg ⟨by show cells + 0 ≤ 726897; omega, by show slots + 0 ≤ 6921558; omega⟩ (fun r u H locs hw hP hD hS => ?_)
    refine W.widen (k := cells + 1) (n := slots + 4) (by omega) (by omega) ?_
    exact kk r _ _ ⟨tt, zz, nc, sd, tr, st, T, Wt, O, SA, KA, R, Ln, Ky, Ch, L, f, htt, hzz, hnc, hLn, hSt, hKp, hP, hD⟩ hS
  · skip
    have hB1 : ¬ fHas (nI zz) p0 = 0 := fun h => hB (Or.inl h)
    have hB2 : nI nc < 8 := Decidable.byContradiction (fun h => hB (Or.inr h))
    have hn8 := ns_lt_of (n := 8) hB2 rfl (by omega) (by decide)
    obtain ⟨pp, hpp, hpE⟩ := fHas_p hB1 hzz
    refine nk_VI (As := [.long r0, .int p0]) (rest := rest) F (mX3_open_A l D ad ca sd (nI tt) (nI nc) tr st (nI zz) T Wt O SA KA R Ln Ky Ch X L f r0 p0 hB1 (nI_pos' (by omega)) hB2) (cwV 2 F.2.2.2.2 gL_law_X3_open rfl rfl rfl (by decide +kernel) ⟨Nat.le_of_ble_eq_true rfl, Nat.le_of_ble_eq_true rfl⟩) hK hP hD hS hA 0 3 rfl rfl rfl rfl hsz rfl hr hdg ⟨by show cells + 1 ≤ 726897; omega, by show slots + 4 ≤ 6921558; omega⟩ (fun r u H locs hw hP hD hS => ?_)
    obtain ⟨q, s9⟩ := u
    obtain ⟨-, hq, hs9⟩ := hw
    have hs9 : nI (nc + 1) = s9 := by rw [← nI_1]; exact hs9
    subst hs9
    subst hpE
    refine W.widen (k := cells + 1) (n := slots + 4) (by omega) (by omega) ?_
    exact kk r _ _ ⟨tt, zz, (nc + 1), sd, tr, st, T, Wt, O, _, KA, R, Ln, Ky, Ch, _, _, htt, hzz, (by omega), hLn, (vSt_push hnc hSt hq hpp), (vKp_push hKp hq (by omega)), hP, hD⟩ hS
set_option maxHeartbeats 1000000 in
set_option maxRecDepth 100000 in
theorem sC_keep (F : CallFix p m c cL_law 4 s #[Value.ref b] wsL_law RL) (hK : nkK D (tC ca) s) (hW : CW A0 D ad ca X H) (hS : va_S A0 s.heap H locs) (hA : ∀ q : Nat, s.heap.size ≤ q → A0 q) (hsz : ls.size = 4) (hr : (rest.map fun v => v.category).sum ≤ 8) (hc : cells + 1 ≤ 726897) (hs : slots + 4 ≤ 6921558) {k0 : Int32} {i0 : Int32} (hdg : decode cL_law pc = .ok (.invokevirtual 100, 3))
    (kk : ∀ (r : Int32) (H1 : Heap) (locs1 : List Loc), CW A0 D ad ca X H1 → va_S A0 s.heap H1 locs1 → W p l e room_1 s m #[Value.ref b] below meth c H1 locs1 (cells + 1) (slots + 4) Q (F0 m (pc + 3) ls (.int r :: rest))) : W p l e room_1 s m #[Value.ref b] below meth c H locs cells slots Q (F0 m pc ls (.int i0 :: .int k0 :: .ref (ad 0) :: rest)) := by
  obtain ⟨tt, zz, nc, sd, tr, st, T, Wt, O, SA, KA, R, Ln, Ky, Ch, L, f, htt, hzz, hnc, hLn, hSt, hKp, hP, hD⟩ := hW
  rcases fAt_or i0 hnc hSt with hAt | ⟨j, a, rn, pp, pl, sp, hj, hij, hAt, haL, hpp, hfa⟩
  · skip
    refine nk_VI (As := [.int k0, .int i0]) (rest := rest) F (mX3_keep_N l D ad ca sd (nI tt) (nI nc) tr st (nI zz) T Wt O SA KA R Ln Ky Ch X L f i0 k0 (nI_le hnc (by decide)) hAt) (cwV 2 F.2.2.2.2 gL_law_X3_keep rfl rfl rfl (by decide +kernel) ⟨Nat.le_of_ble_eq_true rfl, Nat.le_of_ble_eq_true rfl⟩) hK hP hD hS hA 0 3 rfl rfl rfl rfl hsz rfl hr hdg ⟨by show cells + 0 ≤ 726897; omega, by show slots + 0 ≤ 6921558; omega⟩ (fun r u H locs hw hP hD hS => ?_)
    refine W.widen (k := cells + 1) (n := slots + 4) (by omega) (by omega) ?_
    exact kk r _ _ ⟨tt, zz, nc, sd, tr, st, T, Wt, O, SA, KA, R, Ln, Ky, Ch, L, f, htt, hzz, hnc, hLn, hSt, hKp, hP, hD⟩ hS
  · skip
    by_cases hk : k0 < 0 ∨ 4 ≤ k0
    · skip
      refine nk_VI (As := [.int k0, .int i0]) (rest := rest) F (mX3_keep_B l D ad ca sd (nI tt) (nI nc) tr st (nI zz) T Wt O SA KA R Ln Ky Ch X L f i0 a rn (nI pp) pl sp hAt haL hfa k0 (nI_le hnc (by decide)) hk) (cwV 2 F.2.2.2.2 gL_law_X3_keep rfl rfl rfl (by decide +kernel) ⟨Nat.le_of_ble_eq_true rfl, Nat.le_of_ble_eq_true rfl⟩) hK hP hD hS hA 0 3 rfl rfl rfl rfl hsz rfl hr hdg ⟨by show cells + 0 ≤ 726897; omega, by show slots + 0 ≤ 6921558; omega⟩ (fun r u H locs hw hP hD hS => ?_)
      refine W.widen (k := cells + 1) (n := slots + 4) (by omega) (by omega) ?_
      exact kk r _ _ ⟨tt, zz, nc, sd, tr, st, T, Wt, O, SA, KA, R, Ln, Ky, Ch, L, f, htt, hzz, hnc, hLn, hSt, hKp, hP, hD⟩ hS
    · skip
      have hk1 : ¬ k0 < 0 := fun h => hk (Or.inl h)
      have hk2 : ¬ 4 ≤ k0 := fun h => hk (Or.inr h)
      rcases hKp _ (k4 hk1 hk2) with hKA | ⟨kb, kj, kp, kc, hKA, hbL, hkj, hfb⟩
      · skip
        refine nk_VI (As := [.int k0, .int i0]) (rest := rest) F (mX3_keep_W l D ad ca sd (nI tt) (nI nc) tr st (nI zz) T Wt O SA KA R Ln Ky Ch X L f i0 a rn (nI pp) pl sp hAt haL hfa k0 hKA (nI_le hnc (by decide)) hk1 hk2) (cwV 2 F.2.2.2.2 gL_law_X3_keep rfl rfl rfl (by decide +kernel) ⟨Nat.le_of_ble_eq_true rfl, Nat.le_of_ble_eq_true rfl⟩) hK hP hD hS hA 0 3 rfl rfl rfl rfl hsz rfl hr hdg ⟨by show cells + 1 ≤ 726897; omega, by show slots + 3 ≤ 6921558; omega⟩ (fun r u H locs hw hP hD hS => ?_)
        obtain ⟨q, u2⟩ := u
        obtain ⟨-, hq, hu⟩ := hw
        have hu : u2 = va_up f q (eKp i0 pl sp) := hu
        subst hu
        subst hij
        refine W.widen (k := cells + 1) (n := slots + 4) (by omega) (by omega) ?_
        exact kk r _ _ ⟨tt, zz, nc, sd, tr, st, T, Wt, O, SA, _, R, Ln, Ky, Ch, _, _, htt, hzz, hnc, hLn, (vSt_old hSt hq), (vKp_new hKp hq hj), hP, hD⟩ hS
      · skip
        refine nk_VI (As := [.int k0, .int i0]) (rest := rest) F (mX3_keep_E l D ad ca sd (nI tt) (nI nc) tr st (nI zz) T Wt O SA KA R Ln Ky Ch X L f i0 a rn (nI pp) pl sp hAt haL hfa k0 kb (nI kj) kp kc hKA hbL hfb (nI_le hnc (by decide)) hk1 hk2) (cwV 2 F.2.2.2.2 gL_law_X3_keep rfl rfl rfl (by decide +kernel) ⟨Nat.le_of_ble_eq_true rfl, Nat.le_of_ble_eq_true rfl⟩) hK hP hD hS hA 0 3 rfl rfl rfl rfl hsz rfl hr hdg ⟨by show cells + 0 ≤ 726897; omega, by show slots + 0 ≤ 6921558; omega⟩ (fun r u H locs hw hP hD hS => ?_)
        obtain ⟨-, hu⟩ := hw
        subst hu
        subst hij
        refine W.widen (k := cells + 1) (n := slots + 4) (by omega) (by omega) ?_
        exact kk r _ _ ⟨tt, zz, nc, sd, tr, st, T, Wt, O, SA, KA, R, Ln, Ky, Ch, L, _, htt, hzz, hnc, hLn, (vSt_upK hfb hSt), (vKp_upK hj hKp), hP, hD⟩ hS
set_option maxHeartbeats 1000000 in
set_option maxRecDepth 100000 in
theorem sC_back (F : CallFix p m c cL_law 4 s #[Value.ref b] wsL_law RL) (hK : nkK D (tC ca) s) (hW : CW A0 D ad ca X H) (hS : va_S A0 s.heap H locs) (hA : ∀ q : Nat, s.heap.size ≤ q → A0 q) (hsz : ls.size = 4) (hr : (rest.map fun v => v.category).sum ≤ 8) (hc : cells + 1 ≤ 726897) (hs : slots + 4 ≤ 6921558) {k0 : Int32} (hdg : decode cL_law pc = .ok (.invokevirtual 104, 3))
    (kk : ∀ (r : Int32) (H1 : Heap) (locs1 : List Loc), CW A0 D ad ca X H1 → va_S A0 s.heap H1 locs1 → W p l e room_1 s m #[Value.ref b] below meth c H1 locs1 (cells + 1) (slots + 4) Q (F0 m (pc + 3) ls (.int r :: rest))) : W p l e room_1 s m #[Value.ref b] below meth c H locs cells slots Q (F0 m pc ls (.int k0 :: .ref (ad 0) :: rest)) := by
  obtain ⟨tt, zz, nc, sd, tr, st, T, Wt, O, SA, KA, R, Ln, Ky, Ch, L, f, htt, hzz, hnc, hLn, hSt, hKp, hP, hD⟩ := hW
  by_cases hk : k0 < 0 ∨ 4 ≤ k0
  · skip
    refine nk_VI (As := [.int k0]) (rest := rest) F (mX3_back_B l D ad ca sd (nI tt) (nI nc) tr st (nI zz) T Wt O SA KA R Ln Ky Ch X L f k0 hk) (cwV 1 F.2.2.2.2 gL_law_X3_back rfl rfl rfl (by decide +kernel) ⟨Nat.le_of_ble_eq_true rfl, Nat.le_of_ble_eq_true rfl⟩) hK hP hD hS hA 0 3 rfl rfl rfl rfl hsz rfl hr hdg ⟨by show cells + 0 ≤ 726897; omega, by show slots + 0 ≤ 6921558; omega⟩ (fun r u H locs hw hP hD hS => ?_)
    refine W.widen (k := cells + 1) (n := slots + 4) (by omega) (by omega) ?_
    exact kk r _ _ ⟨tt, zz, nc, sd, tr, st, T, Wt, O, SA, KA, R, Ln, Ky, Ch, L, f, htt, hzz, hnc, hLn, hSt, hKp, hP, hD⟩ hS
  · skip
    have hk1 : ¬ k0 < 0 := fun h => hk (Or.inl h)
    have hk2 : ¬ 4 ≤ k0 := fun h => hk (Or.inr h)
    rcases hKp _ (k4 hk1 hk2) with hKA | ⟨kb, kj, kp, kc, hKA, hbL, hkj, hfb⟩
    · skip
      refine nk_VI (As := [.int k0]) (rest := rest) F (mX3_back_0 l D ad ca sd (nI tt) (nI nc) tr st (nI zz) T Wt O SA KA R Ln Ky Ch X L f k0 hKA hk1 hk2) (cwV 1 F.2.2.2.2 gL_law_X3_back rfl rfl rfl (by decide +kernel) ⟨Nat.le_of_ble_eq_true rfl, Nat.le_of_ble_eq_true rfl⟩) hK hP hD hS hA 0 3 rfl rfl rfl rfl hsz rfl hr hdg ⟨by show cells + 0 ≤ 726897; omega, by show slots + 0 ≤ 6921558; omega⟩ (fun r u H locs hw hP hD hS => ?_)
      refine W.widen (k := cells + 1) (n := slots + 4) (by omega) (by omega) ?_
      exact kk r _ _ ⟨tt, zz, nc, sd, tr, st, T, Wt, O, SA, KA, R, Ln, Ky, Ch, L, f, htt, hzz, hnc, hLn, hSt, hKp, hP, hD⟩ hS
    · skip
      obtain ⟨a, rn, pp, pl, sp, hAt, haL, hpp, hfa⟩ := fAt_nI hnc hSt hkj
      refine nk_VI (As := [.int k0]) (rest := rest) F (mX3_back_S l D ad ca sd (nI tt) (nI nc) tr st (nI zz) T Wt O SA KA R Ln Ky Ch X L f k0 kb (nI kj) kp kc hKA hbL hfb a rn (nI pp) pl sp hAt haL hfa (nI_le hnc (by decide)) hk1 hk2) (cwV 1 F.2.2.2.2 gL_law_X3_back rfl rfl rfl (by decide +kernel) ⟨Nat.le_of_ble_eq_true rfl, Nat.le_of_ble_eq_true rfl⟩) hK hP hD hS hA 0 3 rfl rfl rfl rfl hsz rfl hr hdg ⟨by show cells + 0 ≤ 726897; omega, by show slots + 0 ≤ 6921558; omega⟩ (fun r u H locs hw hP hD hS => ?_)
      obtain ⟨-, hu⟩ := hw
      subst hu
      refine W.widen (k := cells + 1) (n := slots + 4) (by omega) (by omega) ?_
      exact kk r _ _ ⟨tt, zz, nc, sd, tr, st, T, Wt, O, SA, KA, R, Ln, Ky, Ch, L, _, htt, hzz, hnc, hLn, (vSt_upS hSt hpp), (vKp_upS hfa hKp), hP, hD⟩ hS
end LAWS
