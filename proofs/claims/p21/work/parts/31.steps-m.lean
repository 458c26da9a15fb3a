theorem spl_P {D : va_G} {ad : Nat → Nat} {ca : Nat → ClassId} {sd : Int64} {tc sc tr st pz : Int32} {T Wt : Nat → Int64} {O : Nat → Int32} {SA KA : Nat → Option Nat} {R : Nat → Int64} {Ln : Nat → Int32} {Ky Ch : Nat → Int64} {X : va_W} {L : List Nat} {g : Nat → va_E} {q : Nat} {rn : Int64} {x : Int32} {H : Heap} {j z : Nat} (hx : x = nI j) (hz : pz = nI z) (h : va_P D vwCl (wC ad ca sd tc sc tr st pz T Wt O SA KA R Ln Ky Ch (X ++ va_pl L (va_up g q (eSt rn x 0 0)))) H) : va_P D vwCl (wC ad ca sd tc sc tr st (nI z) T Wt O SA KA R Ln Ky Ch (X ++ va_pl L (va_up g q (eSt rn (nI j) 0 0)))) H := by
  subst hx
  subst hz
  exact h
theorem spl_D {A : Nat → Prop} {ad : Nat → Nat} {ca : Nat → ClassId} {sd : Int64} {tc sc tr st pz : Int32} {T Wt : Nat → Int64} {O : Nat → Int32} {SA KA : Nat → Option Nat} {R : Nat → Int64} {Ln : Nat → Int32} {Ky Ch : Nat → Int64} {X : va_W} {L : List Nat} {g : Nat → va_E} {q : Nat} {rn : Int64} {x : Int32} {j z : Nat} (hx : x = nI j) (hz : pz = nI z) (h : va_D A (wC ad ca sd tc sc tr st pz T Wt O SA KA R Ln Ky Ch (X ++ va_pl L (va_up g q (eSt rn x 0 0))))) : va_D A (wC ad ca sd tc sc tr st (nI z) T Wt O SA KA R Ln Ky Ch (X ++ va_pl L (va_up g q (eSt rn (nI j) 0 0)))) := by
  subst hx
  subst hz
  exact h
theorem mSplit_inv {P : Nat → Int64} {Mn : Nat → Int32} {T As Rn : Nat → Int64} {Po Pl Sp : Nat → Int32} {nc zz pp ll z' : Nat} {i r u5 u6 : Int32} {u1 u2 u3 u7 : Nat → Int64} {u4 u8 u9 u10 : Nat → Int32} (hw : mSplit P Mn T As Rn Po Pl Sp nc zz pp ll i = (r, u1, u2, (u3, u4, u5), (u6, u7, u8, u9, u10))) (hn : nc < 8)
    (h3 : (mTake P (mT1 P T Sp pp ll i) Mn zz (ll + 1)).2.2.2 = nI z') (h4 : vLn z' (mTake P (mT1 P T Sp pp ll i) Mn zz (ll + 1)).2.2.1) (h5 : (mTake P (mT1 P T Sp pp ll i) Mn zz (ll + 1)).1 = -2 ∨ ∃ j, j < z' ∧ (mTake P (mT1 P T Sp pp ll i) Mn zz (ll + 1)).1 = nI j) (hP : vPo nc z' Po) :
    u5 = nI z' ∧ vLn z' u4 ∧ ∃ n', nc ≤ n' ∧ n' ≤ 8 ∧ u6 = nI n' ∧ vPo n' z' u8 := by
  unfold mSplit at hw
  generalize mTake P (mT1 P T Sp pp ll i) Mn zz (ll + 1) = E at hw h3 h4 h5
  obtain ⟨e1, e3, e4, e5⟩ := E
  have h3 : e5 = nI z' := h3
  have h4 : vLn z' e4 := h4
  by_cases c : 0 ≤ e1
  · rw [if_pos c] at hw
    rcases h5 with h5 | ⟨j, hj, h5⟩
    · have h5 : e1 = -2 := h5
      rw [h5] at c
      exact absurd c (by decide)
    · have h5 : e1 = nI j := h5
      subst h5
      cases hw
      exact ⟨h3, h4, nc + 1, by omega, by omega, nI_1 nc, vPo_up (by omega) hP hj⟩
  · rw [if_neg c] at hw
    cases hw
    exact ⟨h3, h4, nc, Nat.le_refl _, by omega, rfl, hP⟩
section LAWS
variable {p : Program} {l : Launch} {e : Env} {s : State} {m : MethodId} {below : List Frame} {meth : Method} {c : Code} {b : Nat} {Q : State → Prop} {H : Heap} {locs : List Loc} {cells slots pc : Nat} {ls : Array Slot} {rest : List Value} {D : va_G} {ad bd : Nat → Nat} {ca cb : Nat → ClassId} {X Y : va_W} {A0 : Nat → Prop}
set_option maxHeartbeats 1000000 in
set_option maxRecDepth 100000 in
theorem sC_split (F : CallFix p m c cL_law 4 s #[Value.ref b] wsL_law RL) (hK : nkK D (tC ca) s) (hW : CW A0 D ad ca X H) (hS : va_S A0 s.heap H locs) (hA : ∀ q : Nat, s.heap.size ≤ q → A0 q) (hsz : ls.size = 4) (hr : (rest.map fun v => v.category).sum ≤ 8) (hc : cells + 1 ≤ 726897) (hs : slots + 4 ≤ 6921558) {i0 : Int32} (hdg : decode cL_law pc = .ok (.invokevirtual 91, 3))
    (kk : ∀ (r : Int32) (H1 : Heap) (locs1 : List Loc), CW A0 D ad ca X H1 → va_S A0 s.heap H1 locs1 → W p l e room_1 s m #[Value.ref b] below meth c H1 locs1 (cells + 1) (slots + 4) Q (F0 m (pc + 3) ls (.int r :: rest))) : W p l e room_1 s m #[Value.ref b] below meth c H locs cells slots Q (F0 m pc ls (.int i0 :: .ref (ad 0) :: rest)) := by
  obtain ⟨tt, zz, nc, sd, tr, st, T, Wt, O, SA, KA, R, Ln, Ky, Ch, L, f, htt, hzz, hnc, hLn, hSt, hKp, hP, hD⟩ := hW
  rcases fAt_or i0 hnc hSt with hAt | ⟨j, a, rn, pp, pl, sp, hj, hij, hAt, haL, hpp, hfa⟩
  · skip
    refine nk_VI (As := [.int i0]) (rest := rest) F (mX3_split_N l D ad ca sd (nI tt) (nI nc) tr st (nI zz) T Wt O SA KA R Ln Ky Ch X L f i0 (nI_le hnc (by decide)) hAt) (cwV 1 F.2.2.2.2 gL_law_X3_split rfl rfl rfl (by decide +kernel) ⟨Nat.le_of_ble_eq_true rfl, Nat.le_of_ble_eq_true rfl⟩) hK hP hD hS hA 0 3 rfl rfl rfl rfl hsz rfl hr hdg ⟨by show cells + 0 ≤ 726897; omega, by show slots + 0 ≤ 6921558; omega⟩ (fun r u H locs hw hP hD hS => ?_)
    refine W.widen (k := cells + 1) (n := slots + 4) (by omega) (by omega) ?_
    exact kk r _ _ ⟨tt, zz, nc, sd, tr, st, T, Wt, O, SA, KA, R, Ln, Ky, Ch, L, f, htt, hzz, hnc, hLn, hSt, hKp, hP, hD⟩ hS
  · skip
    by_cases h8 : nI nc < 8
    · skip
      have hn8 := ns_lt_of (n := 8) h8 rfl (by omega) (by decide)
      obtain ⟨ll, hl1, hl0⟩ := hLn pp hpp
      have hl0 : Ln (Int32.toNatClampNeg (nI pp)) = nI ll := by rw [nI_clamp (by omega)]; exact hl0
      obtain ⟨z', h1, h2, h3, h4, h5⟩ := fEntC_inv (R := R) (Ch := Ch) (Ky := Ky) (p := nI pp) (v := Int32.toInt64 sp) hzz hLn hl1
      by_cases hE : (fEntC R Ch Ln Ky zz (nI pp) ll (Int32.toInt64 sp)).1 = -2
      · skip
        refine nk_VI (As := [.int i0]) (rest := rest) F (mX3_split_E l D ad ca sd (nI tt) (nI nc) tr st T Wt O SA KA R Ln Ky Ch X L f zz pp ll i0 a rn pl sp hAt haL hfa hzz hpp hl0 hl1 h8 hE) (cwV 1 F.2.2.2.2 gL_law_X3_split rfl rfl rfl (by decide +kernel) ⟨Nat.le_of_ble_eq_true rfl, Nat.le_of_ble_eq_true rfl⟩) hK hP hD hS hA 0 3 rfl rfl rfl rfl hsz rfl hr hdg ⟨by show cells + 0 ≤ 726897; omega, by show slots + 0 ≤ 6921558; omega⟩ (fun r u H locs hw hP hD hS => ?_)
        obtain ⟨u1, u2, u3, u4, u5⟩ := u
        rw [hw] at h3 h4
        have h3 : u5 = nI z' := h3
        subst h3
        refine W.widen (k := cells + 1) (n := slots + 4) (by omega) (by omega) ?_
        exact kk r _ _ ⟨tt, z', nc, sd, tr, st, T, Wt, O, SA, KA, u2, u3, u4, u1, L, f, htt, h2, hnc, h4, (hSt.mono h1), hKp, hP, hD⟩ hS
      · skip
        obtain ⟨j2, hj2, hE2⟩ := h5.resolve_left hE
        refine nk_VI (As := [.int i0]) (rest := rest) F (mX3_split_A l D ad ca sd (nI tt) (nI nc) tr st T Wt O SA KA R Ln Ky Ch X L f zz pp ll i0 a rn pl sp hAt haL hfa hzz hpp hl0 hl1 (nI_pos' (by omega)) h8 hE) (cwV 1 F.2.2.2.2 gL_law_X3_split rfl rfl rfl (by decide +kernel) ⟨Nat.le_of_ble_eq_true rfl, Nat.le_of_ble_eq_true rfl⟩) hK hP hD hS hA 0 3 rfl rfl rfl rfl hsz rfl hr hdg ⟨by show cells + 1 ≤ 726897; omega, by show slots + 4 ≤ 6921558; omega⟩ (fun r u H locs hw hP hD hS => ?_)
        obtain ⟨q, s9⟩ := u
        obtain ⟨-, hq, hs9⟩ := hw
        have hs9 : nI (nc + 1) = s9 := by rw [← nI_1]; exact hs9
        subst hs9
        have hP := spl_P hE2 h3 hP
        have hD := spl_D hE2 h3 hD
        refine W.widen (k := cells + 1) (n := slots + 4) (by omega) (by omega) ?_
        exact kk r _ _ ⟨tt, z', (nc + 1), sd, tr, st, T, Wt, O, _, KA, _, _, _, _, _, _, htt, h2, (by omega), h4, (vSt_push hnc (vSt_upS (hSt.mono h1) (by omega)) hq hj2), (vKp_push (vKp_upS hfa hKp) hq (by omega)), hP, hD⟩ hS
    · skip
      refine nk_VI (As := [.int i0]) (rest := rest) F (mX3_split_F l D ad ca sd (nI tt) (nI nc) tr st (nI zz) T Wt O SA KA R Ln Ky Ch X L f i0 a rn (nI pp) pl sp hAt haL hfa (nI_le hnc (by decide)) h8) (cwV 1 F.2.2.2.2 gL_law_X3_split rfl rfl rfl (by decide +kernel) ⟨Nat.le_of_ble_eq_true rfl, Nat.le_of_ble_eq_true rfl⟩) hK hP hD hS hA 0 3 rfl rfl rfl rfl hsz rfl hr hdg ⟨by show cells + 0 ≤ 726897; omega, by show slots + 0 ≤ 6921558; omega⟩ (fun r u H locs hw hP hD hS => ?_)
      refine W.widen (k := cells + 1) (n := slots + 4) (by omega) (by omega) ?_
      exact kk r _ _ ⟨tt, zz, nc, sd, tr, st, T, Wt, O, SA, KA, R, Ln, Ky, Ch, L, f, htt, hzz, hnc, hLn, hSt, hKp, hP, hD⟩ hS
set_option maxHeartbeats 1000000 in
set_option maxRecDepth 100000 in
theorem sM_part (F : CallFix p m c cL_law 4 s #[Value.ref b] wsL_law RL) (hK : nkK D (tM cb) s) (hW : MW A0 D bd cb Y H) (hS : va_S A0 s.heap H locs) (hA : ∀ q : Nat, s.heap.size ≤ q → A0 q) (hsz : ls.size = 4) (hr : (rest.map fun v => v.category).sum ≤ 8) (hc : cells + 1 ≤ 726897) (hs : slots + 4 ≤ 6921558) {v : Int64} (hdg : decode cL_law pc = .ok (.invokevirtual 27, 3))
    (kk : ∀ (r : Int32) (H1 : Heap) (locs1 : List Loc), MW A0 D bd cb Y H1 → va_S A0 s.heap H1 locs1 → W p l e room_1 s m #[Value.ref b] below meth c H1 locs1 (cells) (slots) Q (F0 m (pc + 3) ls (.int r :: rest))) : W p l e room_1 s m #[Value.ref b] below meth c H locs cells slots Q (F0 m pc ls (.long v :: .ref (bd 0) :: rest)) := by
  obtain ⟨tm, zm, nm, sd, st, tr, gr, P, Mn, T, Wt, Rn, Po, Pl, Sp, Ks, Kp, Kc, Ik, O, As, htm, hzm, hnm, hMn, hPo, hKs, hP, hD⟩ := hW
  refine nk_VI (As := [.long v]) (rest := rest) F (mX4_part l D bd cb sd (nI zm) st tr (nI nm) gr P Mn T Wt Rn Po Pl Sp Ks Kp Kc Ik O As Y tm v htm) (cwV 1 F.2.2.2.2 gL_law_X4_part rfl rfl rfl (by decide +kernel) ⟨Nat.le_of_ble_eq_true rfl, Nat.le_of_ble_eq_true rfl⟩) hK hP hD hS hA 0 4 rfl rfl rfl rfl hsz rfl hr hdg ⟨by show cells + 0 ≤ 726897; omega, by show slots + 0 ≤ 6921558; omega⟩ (fun r u H locs hw hP hD hS => ?_)
  obtain ⟨u1, u2⟩ := u
  obtain ⟨t', h1, h2⟩ := mPart_inv htm hw
  have h2 : u1 = nI t' := h2
  subst h2
  exact kk r _ _ ⟨t', zm, nm, sd, st, tr, gr, P, Mn, u2, Wt, Rn, Po, Pl, Sp, Ks, Kp, Kc, Ik, O, As, h1, hzm, hnm, hMn, hPo, hKs, hP, hD⟩ hS
set_option maxHeartbeats 1000000 in
set_option maxRecDepth 100000 in
theorem sM_path (F : CallFix p m c cL_law 4 s #[Value.ref b] wsL_law RL) (hK : nkK D (tM cb) s) (hW : MW A0 D bd cb Y H) (hS : va_S A0 s.heap H locs) (hA : ∀ q : Nat, s.heap.size ≤ q → A0 q) (hsz : ls.size = 4) (hr : (rest.map fun v => v.category).sum ≤ 8) (hc : cells + 1 ≤ 726897) (hs : slots + 4 ≤ 6921558) (hdg : decode cL_law pc = .ok (.invokevirtual 32, 3))
    (kk : ∀ (r : Int32) (H1 : Heap) (locs1 : List Loc), MW A0 D bd cb Y H1 → va_S A0 s.heap H1 locs1 → W p l e room_1 s m #[Value.ref b] below meth c H1 locs1 (cells) (slots) Q (F0 m (pc + 3) ls (.int r :: rest))) : W p l e room_1 s m #[Value.ref b] below meth c H locs cells slots Q (F0 m pc ls (.ref (bd 0) :: rest)) := by
  obtain ⟨tm, zm, nm, sd, st, tr, gr, P, Mn, T, Wt, Rn, Po, Pl, Sp, Ks, Kp, Kc, Ik, O, As, htm, hzm, hnm, hMn, hPo, hKs, hP, hD⟩ := hW
  refine nk_VI (As := []) (rest := rest) F (mX4_path l D bd cb sd st tr (nI nm) gr P Mn T Wt Rn Po Pl Sp Ks Kp Kc Ik O As Y zm tm hzm htm) (cwV 0 F.2.2.2.2 gL_law_X4_path rfl rfl rfl (by decide +kernel) ⟨Nat.le_of_ble_eq_true rfl, Nat.le_of_ble_eq_true rfl⟩) hK hP hD hS hA 0 4 rfl rfl rfl rfl hsz rfl hr hdg ⟨by show cells + 0 ≤ 726897; omega, by show slots + 0 ≤ 6921558; omega⟩ (fun r u H locs hw hP hD hS => ?_)
  obtain ⟨u1, u2, u3, u4⟩ := u
  obtain ⟨t', z', h1, h2, h3, h4, h5, h6⟩ := mPath_inv hzm htm hMn hw
  have h4 : u1 = nI t' := h4
  have h5 : u4 = nI z' := h5
  subst h4
  subst h5
  exact kk r _ _ ⟨t', z', nm, sd, st, tr, gr, u2, u3, T, Wt, Rn, Po, Pl, Sp, Ks, Kp, Kc, Ik, O, As, h1, h3, hnm, h6, (hPo.mono h2), hKs, hP, hD⟩ hS
set_option maxHeartbeats 1000000 in
set_option maxRecDepth 100000 in
theorem sM_key (F : CallFix p m c cL_law 4 s #[Value.ref b] wsL_law RL) (hK : nkK D (tM cb) s) (hW : MW A0 D bd cb Y H) (hS : va_S A0 s.heap H locs) (hA : ∀ q : Nat, s.heap.size ≤ q → A0 q) (hsz : ls.size = 4) (hr : (rest.map fun v => v.category).sum ≤ 8) (hc : cells + 1 ≤ 726897) (hs : slots + 4 ≤ 6921558) {p0 : Int32} (hdg : decode cL_law pc = .ok (.invokevirtual 37, 3))
    (kk : ∀ (r : Int64) (H1 : Heap) (locs1 : List Loc), MW A0 D bd cb Y H1 → va_S A0 s.heap H1 locs1 → W p l e room_1 s m #[Value.ref b] below meth c H1 locs1 (cells) (slots) Q (F0 m (pc + 3) ls (.long r :: rest))) : W p l e room_1 s m #[Value.ref b] below meth c H locs cells slots Q (F0 m pc ls (.int p0 :: .ref (bd 0) :: rest)) := by
  obtain ⟨tm, zm, nm, sd, st, tr, gr, P, Mn, T, Wt, Rn, Po, Pl, Sp, Ks, Kp, Kc, Ik, O, As, htm, hzm, hnm, hMn, hPo, hKs, hP, hD⟩ := hW
  refine nk_VL (As := [.int p0]) (rest := rest) F (mX4_key l D bd cb sd (nI zm) (nI tm) st tr (nI nm) gr P Mn T Wt Rn Po Pl Sp Ks Kp Kc Ik O As Y p0 (mWp hzm hMn)) (cwV 1 F.2.2.2.2 gL_law_X4_key rfl rfl rfl (by decide +kernel) ⟨Nat.le_of_ble_eq_true rfl, Nat.le_of_ble_eq_true rfl⟩) hK hP hD hS hA 0 4 rfl rfl rfl rfl hsz rfl hr hdg ⟨by show cells + 0 ≤ 726897; omega, by show slots + 0 ≤ 6921558; omega⟩ (fun r u H locs hw hP hD hS => ?_)
  exact kk r _ _ ⟨tm, zm, nm, sd, u, tr, gr, P, Mn, T, Wt, Rn, Po, Pl, Sp, Ks, Kp, Kc, Ik, O, As, htm, hzm, hnm, hMn, hPo, hKs, hP, hD⟩ hS
set_option maxHeartbeats 1000000 in
set_option maxRecDepth 100000 in
theorem sM_word (F : CallFix p m c cL_law 4 s #[Value.ref b] wsL_law RL) (hK : nkK D (tM cb) s) (hW : MW A0 D bd cb Y H) (hS : va_S A0 s.heap H locs) (hA : ∀ q : Nat, s.heap.size ≤ q → A0 q) (hsz : ls.size = 4) (hr : (rest.map fun v => v.category).sum ≤ 8) (hc : cells + 1 ≤ 726897) (hs : slots + 4 ≤ 6921558) {a0 : Int64} {p0 : Int32} {k0 : Int64} (hdg : decode cL_law pc = .ok (.invokevirtual 42, 3))
    (kk : ∀ (r : Int64) (H1 : Heap) (locs1 : List Loc), MW A0 D bd cb Y H1 → va_S A0 s.heap H1 locs1 → W p l e room_1 s m #[Value.ref b] below meth c H1 locs1 (cells) (slots) Q (F0 m (pc + 3) ls (.long r :: rest))) : W p l e room_1 s m #[Value.ref b] below meth c H locs cells slots Q (F0 m pc ls (.long k0 :: .int p0 :: .long a0 :: .ref (bd 0) :: rest)) := by
  obtain ⟨tm, zm, nm, sd, st, tr, gr, P, Mn, T, Wt, Rn, Po, Pl, Sp, Ks, Kp, Kc, Ik, O, As, htm, hzm, hnm, hMn, hPo, hKs, hP, hD⟩ := hW
  refine nk_VL (As := [.long a0, .int p0, .long k0]) (rest := rest) F (mX4_word l D bd cb sd (nI zm) (nI tm) st tr (nI nm) gr P Mn T Wt Rn Po Pl Sp Ks Kp Kc Ik O As Y a0 p0 k0 (mWp hzm hMn)) (cwV 3 F.2.2.2.2 gL_law_X4_word rfl rfl rfl (by decide +kernel) ⟨Nat.le_of_ble_eq_true rfl, Nat.le_of_ble_eq_true rfl⟩) hK hP hD hS hA 0 4 rfl rfl rfl rfl hsz rfl hr hdg ⟨by show cells + 0 ≤ 726897; omega, by show slots + 0 ≤ 6921558; omega⟩ (fun r u H locs hw hP hD hS => ?_)
  exact kk r _ _ ⟨tm, zm, nm, sd, u, tr, gr, P, Mn, T, Wt, Rn, Po, Pl, Sp, Ks, Kp, Kc, Ik, O, As, htm, hzm, hnm, hMn, hPo, hKs, hP, hD⟩ hS
set_option maxHeartbeats 1000000 in
set_option maxRecDepth 100000 in
theorem sM_span (F : CallFix p m c cL_law 4 s #[Value.ref b] wsL_law RL) (hK : nkK D (tM cb) s) (hW : MW A0 D bd cb Y H) (hS : va_S A0 s.heap H locs) (hA : ∀ q : Nat, s.heap.size ≤ q → A0 q) (hsz : ls.size = 4) (hr : (rest.map fun v => v.category).sum ≤ 8) (hc : cells + 1 ≤ 726897) (hs : slots + 4 ≤ 6921558) {a0 : Int64} {p0 : Int32} {c0 : Int32} {n0 : Int64} (hdg : decode cL_law pc = .ok (.invokevirtual 47, 3))
    (kk : ∀ (r : Int64) (H1 : Heap) (locs1 : List Loc), MW A0 D bd cb Y H1 → va_S A0 s.heap H1 locs1 → W p l e room_1 s m #[Value.ref b] below meth c H1 locs1 (cells) (slots) Q (F0 m (pc + 3) ls (.long r :: rest))) : W p l e room_1 s m #[Value.ref b] below meth c H locs cells slots Q (F0 m pc ls (.long n0 :: .int c0 :: .int p0 :: .long a0 :: .ref (bd 0) :: rest)) := by
  obtain ⟨tm, zm, nm, sd, st, tr, gr, P, Mn, T, Wt, Rn, Po, Pl, Sp, Ks, Kp, Kc, Ik, O, As, htm, hzm, hnm, hMn, hPo, hKs, hP, hD⟩ := hW
  refine nk_VL (As := [.long a0, .int p0, .int c0, .long n0]) (rest := rest) F (mX4_span l D bd cb sd (nI zm) (nI tm) st tr (nI nm) gr P Mn T Wt Rn Po Pl Sp Ks Kp Kc Ik O As Y a0 p0 c0 n0 (mWp hzm hMn)) (cwV 4 F.2.2.2.2 gL_law_X4_span rfl rfl rfl (by decide +kernel) ⟨Nat.le_of_ble_eq_true rfl, Nat.le_of_ble_eq_true rfl⟩) hK hP hD hS hA 0 4 rfl rfl rfl rfl hsz rfl hr hdg ⟨by show cells + 0 ≤ 726897; omega, by show slots + 0 ≤ 6921558; omega⟩ (fun r u H locs hw hP hD hS => ?_)
  exact kk r _ _ ⟨tm, zm, nm, sd, st, u, gr, P, Mn, T, Wt, Rn, Po, Pl, Sp, Ks, Kp, Kc, Ik, O, As, htm, hzm, hnm, hMn, hPo, hKs, hP, hD⟩ hS
set_option maxHeartbeats 1000000 in
set_option maxRecDepth 100000 in
theorem sM_fraction (F : CallFix p m c cL_law 4 s #[Value.ref b] wsL_law RL) (hK : nkK D (tM cb) s) (hW : MW A0 D bd cb Y H) (hS : va_S A0 s.heap H locs) (hA : ∀ q : Nat, s.heap.size ≤ q → A0 q) (hsz : ls.size = 4) (hr : (rest.map fun v => v.category).sum ≤ 8) (hc : cells + 1 ≤ 726897) (hs : slots + 4 ≤ 6921558) {a0 : Int64} {p0 : Int32} {c0 : Int32} {n0 : Int64} {k0 : Int64} (hdg : decode cL_law pc = .ok (.invokevirtual 52, 3))
    (kk : ∀ (r : Int32) (H1 : Heap) (locs1 : List Loc), MW A0 D bd cb Y H1 → va_S A0 s.heap H1 locs1 → W p l e room_1 s m #[Value.ref b] below meth c H1 locs1 (cells) (slots) Q (F0 m (pc + 3) ls (.int r :: rest))) : W p l e room_1 s m #[Value.ref b] below meth c H locs cells slots Q (F0 m pc ls (.long k0 :: .long n0 :: .int c0 :: .int p0 :: .long a0 :: .ref (bd 0) :: rest)) := by
  obtain ⟨tm, zm, nm, sd, st, tr, gr, P, Mn, T, Wt, Rn, Po, Pl, Sp, Ks, Kp, Kc, Ik, O, As, htm, hzm, hnm, hMn, hPo, hKs, hP, hD⟩ := hW
  refine nk_VI (As := [.long a0, .int p0, .int c0, .long n0, .long k0]) (rest := rest) F (mX4_fraction l D bd cb sd (nI zm) (nI tm) st tr (nI nm) gr P Mn T Wt Rn Po Pl Sp Ks Kp Kc Ik O As Y a0 p0 c0 n0 k0 (mWp hzm hMn)) (cwV 5 F.2.2.2.2 gL_law_X4_fraction rfl rfl rfl (by decide +kernel) ⟨Nat.le_of_ble_eq_true rfl, Nat.le_of_ble_eq_true rfl⟩) hK hP hD hS hA 0 4 rfl rfl rfl rfl hsz rfl hr hdg ⟨by show cells + 0 ≤ 726897; omega, by show slots + 0 ≤ 6921558; omega⟩ (fun r u H locs hw hP hD hS => ?_)
  exact kk r _ _ ⟨tm, zm, nm, sd, st, u, gr, P, Mn, T, Wt, Rn, Po, Pl, Sp, Ks, Kp, Kc, Ik, O, As, htm, hzm, hnm, hMn, hPo, hKs, hP, hD⟩ hS
set_option maxHeartbeats 1000000 in
set_option maxRecDepth 100000 in
theorem sM_weight (F : CallFix p m c cL_law 4 s #[Value.ref b] wsL_law RL) (hK : nkK D (tM cb) s) (hW : MW A0 D bd cb Y H) (hS : va_S A0 s.heap H locs) (hA : ∀ q : Nat, s.heap.size ≤ q → A0 q) (hsz : ls.size = 4) (hr : (rest.map fun v => v.category).sum ≤ 8) (hc : cells + 1 ≤ 726897) (hs : slots + 4 ≤ 6921558) {k0 : Int32} {w0 : Int64} (hdg : decode cL_law pc = .ok (.invokevirtual 57, 3))
    (kk : ∀ (r : Int32) (H1 : Heap) (locs1 : List Loc), MW A0 D bd cb Y H1 → va_S A0 s.heap H1 locs1 → W p l e room_1 s m #[Value.ref b] below meth c H1 locs1 (cells) (slots) Q (F0 m (pc + 3) ls (.int r :: rest))) : W p l e room_1 s m #[Value.ref b] below meth c H locs cells slots Q (F0 m pc ls (.long w0 :: .int k0 :: .ref (bd 0) :: rest)) := by
  obtain ⟨tm, zm, nm, sd, st, tr, gr, P, Mn, T, Wt, Rn, Po, Pl, Sp, Ks, Kp, Kc, Ik, O, As, htm, hzm, hnm, hMn, hPo, hKs, hP, hD⟩ := hW
  refine nk_VI (As := [.int k0, .long w0]) (rest := rest) F (mX4_weight l D bd cb sd (nI zm) (nI tm) st tr (nI nm) gr P Mn T Wt Rn Po Pl Sp Ks Kp Kc Ik O As Y k0 w0) (cwV 2 F.2.2.2.2 gL_law_X4_weight rfl rfl rfl (by decide +kernel) ⟨Nat.le_of_ble_eq_true rfl, Nat.le_of_ble_eq_true rfl⟩) hK hP hD hS hA 0 4 rfl rfl rfl rfl hsz rfl hr hdg ⟨by show cells + 0 ≤ 726897; omega, by show slots + 0 ≤ 6921558; omega⟩ (fun r u H locs hw hP hD hS => ?_)
  exact kk r _ _ ⟨tm, zm, nm, sd, st, tr, gr, P, Mn, T, u, Rn, Po, Pl, Sp, Ks, Kp, Kc, Ik, O, As, htm, hzm, hnm, hMn, hPo, hKs, hP, hD⟩ hS
set_option maxHeartbeats 1000000 in
set_option maxRecDepth 100000 in
theorem sM_pick (F : CallFix p m c cL_law 4 s #[Value.ref b] wsL_law RL) (hK : nkK D (tM cb) s) (hW : MW A0 D bd cb Y H) (hS : va_S A0 s.heap H locs) (hA : ∀ q : Nat, s.heap.size ≤ q → A0 q) (hsz : ls.size = 4) (hr : (rest.map fun v => v.category).sum ≤ 8) (hc : cells + 1 ≤ 726897) (hs : slots + 4 ≤ 6921558) {a0 : Int64} {p0 : Int32} {c0 : Int32} (hdg : decode cL_law pc = .ok (.invokevirtual 62, 3))
    (kk : ∀ (r : Int32) (H1 : Heap) (locs1 : List Loc), MW A0 D bd cb Y H1 → va_S A0 s.heap H1 locs1 → W p l e room_1 s m #[Value.ref b] below meth c H1 locs1 (cells) (slots) Q (F0 m (pc + 3) ls (.int r :: rest))) : W p l e room_1 s m #[Value.ref b] below meth c H locs cells slots Q (F0 m pc ls (.int c0 :: .int p0 :: .long a0 :: .ref (bd 0) :: rest)) := by
  obtain ⟨tm, zm, nm, sd, st, tr, gr, P, Mn, T, Wt, Rn, Po, Pl, Sp, Ks, Kp, Kc, Ik, O, As, htm, hzm, hnm, hMn, hPo, hKs, hP, hD⟩ := hW
  refine nk_VI (As := [.long a0, .int p0, .int c0]) (rest := rest) F (mX4_pick l D bd cb sd (nI zm) (nI tm) st tr (nI nm) gr P Mn T Wt Rn Po Pl Sp Ks Kp Kc Ik O As Y a0 p0 c0 (mWp hzm hMn)) (cwV 3 F.2.2.2.2 gL_law_X4_pick rfl rfl rfl (by decide +kernel) ⟨Nat.le_of_ble_eq_true rfl, Nat.le_of_ble_eq_true rfl⟩) hK hP hD hS hA 0 4 rfl rfl rfl rfl hsz rfl hr hdg ⟨by show cells + 0 ≤ 726897; omega, by show slots + 0 ≤ 6921558; omega⟩ (fun r u H locs hw hP hD hS => ?_)
  obtain ⟨u1, u2⟩ := u
  exact kk r _ _ ⟨tm, zm, nm, sd, st, u1, u2, P, Mn, T, Wt, Rn, Po, Pl, Sp, Ks, Kp, Kc, Ik, O, As, htm, hzm, hnm, hMn, hPo, hKs, hP, hD⟩ hS
set_option maxHeartbeats 1000000 in
set_option maxRecDepth 100000 in
theorem sM_permuted (F : CallFix p m c cL_law 4 s #[Value.ref b] wsL_law RL) (hK : nkK D (tM cb) s) (hW : MW A0 D bd cb Y H) (hS : va_S A0 s.heap H locs) (hA : ∀ q : Nat, s.heap.size ≤ q → A0 q) (hsz : ls.size = 4) (hr : (rest.map fun v => v.category).sum ≤ 8) (hc : cells + 1 ≤ 726897) (hs : slots + 4 ≤ 6921558) {a0 : Int64} {p0 : Int32} {c0 : Int32} {n0 : Int32} {k0 : Int32} (hdg : decode cL_law pc = .ok (.invokevirtual 67, 3))
    (kk : ∀ (r : Int32) (H1 : Heap) (locs1 : List Loc), MW A0 D bd cb Y H1 → va_S A0 s.heap H1 locs1 → W p l e room_1 s m #[Value.ref b] below meth c H1 locs1 (cells) (slots) Q (F0 m (pc + 3) ls (.int r :: rest))) : W p l e room_1 s m #[Value.ref b] below meth c H locs cells slots Q (F0 m pc ls (.int k0 :: .int n0 :: .int c0 :: .int p0 :: .long a0 :: .ref (bd 0) :: rest)) := by
  obtain ⟨tm, zm, nm, sd, st, tr, gr, P, Mn, T, Wt, Rn, Po, Pl, Sp, Ks, Kp, Kc, Ik, O, As, htm, hzm, hnm, hMn, hPo, hKs, hP, hD⟩ := hW
  refine nk_VI (As := [.long a0, .int p0, .int c0, .int n0, .int k0]) (rest := rest) F (mX4_permuted l D bd cb sd (nI zm) (nI tm) st tr (nI nm) gr P Mn T Wt Rn Po Pl Sp Ks Kp Kc Ik O As Y a0 p0 c0 n0 k0 (mWp hzm hMn)) (cwV 5 F.2.2.2.2 gL_law_X4_permuted rfl rfl rfl (by decide +kernel) ⟨Nat.le_of_ble_eq_true rfl, Nat.le_of_ble_eq_true rfl⟩) hK hP hD hS hA 0 4 rfl rfl rfl rfl hsz rfl hr hdg ⟨by show cells + 0 ≤ 726897; omega, by show slots + 0 ≤ 6921558; omega⟩ (fun r u H locs hw hP hD hS => ?_)
  obtain ⟨u1, u2⟩ := u
  exact kk r _ _ ⟨tm, zm, nm, sd, st, u2, gr, P, Mn, T, Wt, Rn, Po, Pl, Sp, Ks, Kp, Kc, Ik, u1, As, htm, hzm, hnm, hMn, hPo, hKs, hP, hD⟩ hS
set_option maxHeartbeats 1000000 in
set_option maxRecDepth 100000 in
theorem sM_tries (F : CallFix p m c cL_law 4 s #[Value.ref b] wsL_law RL) (hK : nkK D (tM cb) s) (hW : MW A0 D bd cb Y H) (hS : va_S A0 s.heap H locs) (hA : ∀ q : Nat, s.heap.size ≤ q → A0 q) (hsz : ls.size = 4) (hr : (rest.map fun v => v.category).sum ≤ 8) (hc : cells + 1 ≤ 726897) (hs : slots + 4 ≤ 6921558) (hdg : decode cL_law pc = .ok (.invokevirtual 71, 3))
    (kk : ∀ (r : Int32) (H1 : Heap) (locs1 : List Loc), MW A0 D bd cb Y H1 → va_S A0 s.heap H1 locs1 → W p l e room_1 s m #[Value.ref b] below meth c H1 locs1 (cells) (slots) Q (F0 m (pc + 3) ls (.int r :: rest))) : W p l e room_1 s m #[Value.ref b] below meth c H locs cells slots Q (F0 m pc ls (.ref (bd 0) :: rest)) := by
  obtain ⟨tm, zm, nm, sd, st, tr, gr, P, Mn, T, Wt, Rn, Po, Pl, Sp, Ks, Kp, Kc, Ik, O, As, htm, hzm, hnm, hMn, hPo, hKs, hP, hD⟩ := hW
  refine nk_VRI (As := []) (rest := rest) F (mX4_tries l D bd cb sd (nI zm) (nI tm) st tr (nI nm) gr P Mn T Wt Rn Po Pl Sp Ks Kp Kc Ik O As Y ) (cwV 0 F.2.2.2.2 gL_law_X4_tries rfl rfl rfl (by decide +kernel) ⟨Nat.le_of_ble_eq_true rfl, Nat.le_of_ble_eq_true rfl⟩) hK hP 0 4 rfl rfl rfl rfl hsz rfl hr hdg ⟨by show cells ≤ 726897; omega, by show slots ≤ 6921558; omega⟩ (fun r hw => ?_)
  exact kk r _ _ ⟨tm, zm, nm, sd, st, tr, gr, P, Mn, T, Wt, Rn, Po, Pl, Sp, Ks, Kp, Kc, Ik, O, As, htm, hzm, hnm, hMn, hPo, hKs, hP, hD⟩ hS
set_option maxHeartbeats 1000000 in
set_option maxRecDepth 100000 in
theorem sM_status (F : CallFix p m c cL_law 4 s #[Value.ref b] wsL_law RL) (hK : nkK D (tM cb) s) (hW : MW A0 D bd cb Y H) (hS : va_S A0 s.heap H locs) (hA : ∀ q : Nat, s.heap.size ≤ q → A0 q) (hsz : ls.size = 4) (hr : (rest.map fun v => v.category).sum ≤ 8) (hc : cells + 1 ≤ 726897) (hs : slots + 4 ≤ 6921558) (hdg : decode cL_law pc = .ok (.invokevirtual 75, 3))
    (kk : ∀ (r : Int32) (H1 : Heap) (locs1 : List Loc), MW A0 D bd cb Y H1 → va_S A0 s.heap H1 locs1 → W p l e room_1 s m #[Value.ref b] below meth c H1 locs1 (cells) (slots) Q (F0 m (pc + 3) ls (.int r :: rest))) : W p l e room_1 s m #[Value.ref b] below meth c H locs cells slots Q (F0 m pc ls (.ref (bd 0) :: rest)) := by
  obtain ⟨tm, zm, nm, sd, st, tr, gr, P, Mn, T, Wt, Rn, Po, Pl, Sp, Ks, Kp, Kc, Ik, O, As, htm, hzm, hnm, hMn, hPo, hKs, hP, hD⟩ := hW
  refine nk_VRI (As := []) (rest := rest) F (mX4_status l D bd cb sd (nI zm) (nI tm) st tr (nI nm) gr P Mn T Wt Rn Po Pl Sp Ks Kp Kc Ik O As Y ) (cwV 0 F.2.2.2.2 gL_law_X4_status rfl rfl rfl (by decide +kernel) ⟨Nat.le_of_ble_eq_true rfl, Nat.le_of_ble_eq_true rfl⟩) hK hP 0 4 rfl rfl rfl rfl hsz rfl hr hdg ⟨by show cells ≤ 726897; omega, by show slots ≤ 6921558; omega⟩ (fun r hw => ?_)
  exact kk r _ _ ⟨tm, zm, nm, sd, st, tr, gr, P, Mn, T, Wt, Rn, Po, Pl, Sp, Ks, Kp, Kc, Ik, O, As, htm, hzm, hnm, hMn, hPo, hKs, hP, hD⟩ hS
set_option maxHeartbeats 1000000 in
set_option maxRecDepth 100000 in
theorem sM_counted (F : CallFix p m c cL_law 4 s #[Value.ref b] wsL_law RL) (hK : nkK D (tM cb) s) (hW : MW A0 D bd cb Y H) (hS : va_S A0 s.heap H locs) (hA : ∀ q : Nat, s.heap.size ≤ q → A0 q) (hsz : ls.size = 4) (hr : (rest.map fun v => v.category).sum ≤ 8) (hc : cells + 1 ≤ 726897) (hs : slots + 4 ≤ 6921558) {b0 : Int32} {n0 : Int32} {i0 : Int32} (hdg : decode cL_law pc = .ok (.invokevirtual 116, 3))
    (kk : ∀ (r : Int32) (H1 : Heap) (locs1 : List Loc), r = mCounted b0 n0 i0 → MW A0 D bd cb Y H1 → va_S A0 s.heap H1 locs1 → W p l e room_1 s m #[Value.ref b] below meth c H1 locs1 (cells) (slots) Q (F0 m (pc + 3) ls (.int r :: rest))) : W p l e room_1 s m #[Value.ref b] below meth c H locs cells slots Q (F0 m pc ls (.int i0 :: .int n0 :: .int b0 :: .ref (bd 0) :: rest)) := by
  obtain ⟨tm, zm, nm, sd, st, tr, gr, P, Mn, T, Wt, Rn, Po, Pl, Sp, Ks, Kp, Kc, Ik, O, As, htm, hzm, hnm, hMn, hPo, hKs, hP, hD⟩ := hW
  refine nk_VRI (As := [.int b0, .int n0, .int i0]) (rest := rest) F (mX4_counted l D bd cb sd (nI zm) (nI tm) st tr (nI nm) gr P Mn T Wt Rn Po Pl Sp Ks Kp Kc Ik O As Y b0 n0 i0) (cwV 3 F.2.2.2.2 gL_law_X4_counted rfl rfl rfl (by decide +kernel) ⟨Nat.le_of_ble_eq_true rfl, Nat.le_of_ble_eq_true rfl⟩) hK hP 0 4 rfl rfl rfl rfl hsz rfl hr hdg ⟨by show cells ≤ 726897; omega, by show slots ≤ 6921558; omega⟩ (fun r hw => ?_)
  exact kk r _ _ hw ⟨tm, zm, nm, sd, st, tr, gr, P, Mn, T, Wt, Rn, Po, Pl, Sp, Ks, Kp, Kc, Ik, O, As, htm, hzm, hnm, hMn, hPo, hKs, hP, hD⟩ hS
set_option maxHeartbeats 1000000 in
set_option maxRecDepth 100000 in
theorem sM_count (F : CallFix p m c cL_law 4 s #[Value.ref b] wsL_law RL) (hK : nkK D (tM cb) s) (hW : MW A0 D bd cb Y H) (hS : va_S A0 s.heap H locs) (hA : ∀ q : Nat, s.heap.size ≤ q → A0 q) (hsz : ls.size = 4) (hr : (rest.map fun v => v.category).sum ≤ 8) (hc : cells + 1 ≤ 726897) (hs : slots + 4 ≤ 6921558) {x0 : Int32} (hdg : decode cL_law pc = .ok (.invokevirtual 120, 3))
    (kk : ∀ (r : Int32) (H1 : Heap) (locs1 : List Loc), MW A0 D bd cb Y H1 → va_S A0 s.heap H1 locs1 → W p l e room_1 s m #[Value.ref b] below meth c H1 locs1 (cells) (slots) Q (F0 m (pc + 3) ls (.int r :: rest))) : W p l e room_1 s m #[Value.ref b] below meth c H locs cells slots Q (F0 m pc ls (.int x0 :: .ref (bd 0) :: rest)) := by
  obtain ⟨tm, zm, nm, sd, st, tr, gr, P, Mn, T, Wt, Rn, Po, Pl, Sp, Ks, Kp, Kc, Ik, O, As, htm, hzm, hnm, hMn, hPo, hKs, hP, hD⟩ := hW
  refine nk_VRI (As := [.int x0]) (rest := rest) F (mX4_count l D bd cb sd (nI zm) (nI tm) st tr (nI nm) gr P Mn T Wt Rn Po Pl Sp Ks Kp Kc Ik O As Y x0) (cwV 1 F.2.2.2.2 gL_law_X4_count rfl rfl rfl (by decide +kernel) ⟨Nat.le_of_ble_eq_true rfl, Nat.le_of_ble_eq_true rfl⟩) hK hP 0 4 rfl rfl rfl rfl hsz rfl hr hdg ⟨by show cells ≤ 726897; omega, by show slots ≤ 6921558; omega⟩ (fun r hw => ?_)
  exact kk r _ _ ⟨tm, zm, nm, sd, st, tr, gr, P, Mn, T, Wt, Rn, Po, Pl, Sp, Ks, Kp, Kc, Ik, O, As, htm, hzm, hnm, hMn, hPo, hKs, hP, hD⟩ hS
set_option maxHeartbeats 1000000 in
set_option maxRecDepth 100000 in
theorem sM_told (F : CallFix p m c cL_law 4 s #[Value.ref b] wsL_law RL) (hK : nkK D (tM cb) s) (hW : MW A0 D bd cb Y H) (hS : va_S A0 s.heap H locs) (hA : ∀ q : Nat, s.heap.size ≤ q → A0 q) (hsz : ls.size = 4) (hr : (rest.map fun v => v.category).sum ≤ 8) (hc : cells + 1 ≤ 726897) (hs : slots + 4 ≤ 6921558) {i0 : Int32} {x0 : Int32} (hdg : decode cL_law pc = .ok (.invokevirtual 111, 3))
    (kk : ∀ (r : Int32) (H1 : Heap) (locs1 : List Loc), MW A0 D bd cb Y H1 → va_S A0 s.heap H1 locs1 → W p l e room_1 s m #[Value.ref b] below meth c H1 locs1 (cells) (slots) Q (F0 m (pc + 3) ls (.int r :: rest))) : W p l e room_1 s m #[Value.ref b] below meth c H locs cells slots Q (F0 m pc ls (.int x0 :: .int i0 :: .ref (bd 0) :: rest)) := by
  obtain ⟨tm, zm, nm, sd, st, tr, gr, P, Mn, T, Wt, Rn, Po, Pl, Sp, Ks, Kp, Kc, Ik, O, As, htm, hzm, hnm, hMn, hPo, hKs, hP, hD⟩ := hW
  refine nk_VRI (As := [.int i0, .int x0]) (rest := rest) F (mX4_told l D bd cb sd (nI zm) (nI tm) st tr gr P Mn T Wt Rn Po Pl Sp Ks Kp Kc Ik O As Y nm i0 x0 hnm) (cwV 2 F.2.2.2.2 gL_law_X4_told rfl rfl rfl (by decide +kernel) ⟨Nat.le_of_ble_eq_true rfl, Nat.le_of_ble_eq_true rfl⟩) hK hP 0 4 rfl rfl rfl rfl hsz rfl hr hdg ⟨by show cells ≤ 726897; omega, by show slots ≤ 6921558; omega⟩ (fun r hw => ?_)
  exact kk r _ _ ⟨tm, zm, nm, sd, st, tr, gr, P, Mn, T, Wt, Rn, Po, Pl, Sp, Ks, Kp, Kc, Ik, O, As, htm, hzm, hnm, hMn, hPo, hKs, hP, hD⟩ hS
set_option maxHeartbeats 1000000 in
set_option maxRecDepth 100000 in
theorem sM_open (F : CallFix p m c cL_law 4 s #[Value.ref b] wsL_law RL) (hK : nkK D (tM cb) s) (hW : MW A0 D bd cb Y H) (hS : va_S A0 s.heap H locs) (hA : ∀ q : Nat, s.heap.size ≤ q → A0 q) (hsz : ls.size = 4) (hr : (rest.map fun v => v.category).sum ≤ 8) (hc : cells + 1 ≤ 726897) (hs : slots + 4 ≤ 6921558) {r0 : Int64} {p0 : Int32} (hdg : decode cL_law pc = .ok (.invokevirtual 80, 3))
    (kk : ∀ (r : Int32) (H1 : Heap) (locs1 : List Loc), MW A0 D bd cb Y H1 → va_S A0 s.heap H1 locs1 → W p l e room_1 s m #[Value.ref b] below meth c H1 locs1 (cells) (slots) Q (F0 m (pc + 3) ls (.int r :: rest))) : W p l e room_1 s m #[Value.ref b] below meth c H locs cells slots Q (F0 m pc ls (.int p0 :: .long r0 :: .ref (bd 0) :: rest)) := by
  obtain ⟨tm, zm, nm, sd, st, tr, gr, P, Mn, T, Wt, Rn, Po, Pl, Sp, Ks, Kp, Kc, Ik, O, As, htm, hzm, hnm, hMn, hPo, hKs, hP, hD⟩ := hW
  refine nk_VI (As := [.long r0, .int p0]) (rest := rest) F (mX4_open l D bd cb sd (nI zm) (nI tm) st tr gr P Mn T Wt Rn Po Pl Sp Ks Kp Kc Ik O As Y nm r0 p0 hnm) (cwV 2 F.2.2.2.2 gL_law_X4_open rfl rfl rfl (by decide +kernel) ⟨Nat.le_of_ble_eq_true rfl, Nat.le_of_ble_eq_true rfl⟩) hK hP hD hS hA 0 4 rfl rfl rfl rfl hsz rfl hr hdg ⟨by show cells + 0 ≤ 726897; omega, by show slots + 0 ≤ 6921558; omega⟩ (fun r u H locs hw hP hD hS => ?_)
  obtain ⟨u1, u2, u3, u4, u5⟩ := u
  obtain ⟨n', h1, h2, h3, h4⟩ := mOpen_inv hzm hnm hPo hw
  have h3 : u1 = nI n' := h3
  subst h3
  exact kk r _ _ ⟨tm, zm, n', sd, st, tr, gr, P, Mn, T, Wt, u2, u3, u4, u5, Ks, Kp, Kc, Ik, O, As, htm, hzm, h2, hMn, h4, (hKs.mono h1), hP, hD⟩ hS
set_option maxHeartbeats 1000000 in
set_option maxRecDepth 100000 in
theorem sM_next (F : CallFix p m c cL_law 4 s #[Value.ref b] wsL_law RL) (hK : nkK D (tM cb) s) (hW : MW A0 D bd cb Y H) (hS : va_S A0 s.heap H locs) (hA : ∀ q : Nat, s.heap.size ≤ q → A0 q) (hsz : ls.size = 4) (hr : (rest.map fun v => v.category).sum ≤ 8) (hc : cells + 1 ≤ 726897) (hs : slots + 4 ≤ 6921558) {i0 : Int32} {n0 : Int64} (hdg : decode cL_law pc = .ok (.invokevirtual 85, 3))
    (kk : ∀ (r : Int64) (H1 : Heap) (locs1 : List Loc), MW A0 D bd cb Y H1 → va_S A0 s.heap H1 locs1 → W p l e room_1 s m #[Value.ref b] below meth c H1 locs1 (cells) (slots) Q (F0 m (pc + 3) ls (.long r :: rest))) : W p l e room_1 s m #[Value.ref b] below meth c H locs cells slots Q (F0 m pc ls (.long n0 :: .int i0 :: .ref (bd 0) :: rest)) := by
  obtain ⟨tm, zm, nm, sd, st, tr, gr, P, Mn, T, Wt, Rn, Po, Pl, Sp, Ks, Kp, Kc, Ik, O, As, htm, hzm, hnm, hMn, hPo, hKs, hP, hD⟩ := hW
  refine nk_VL (As := [.int i0, .long n0]) (rest := rest) F (mX4_next l D bd cb sd (nI zm) (nI tm) st tr gr P Mn T Wt Rn Po Pl Sp Ks Kp Kc Ik O As Y nm i0 n0 hnm (mWs2 hnm hzm hMn hPo)) (cwV 2 F.2.2.2.2 gL_law_X4_next rfl rfl rfl (by decide +kernel) ⟨Nat.le_of_ble_eq_true rfl, Nat.le_of_ble_eq_true rfl⟩) hK hP hD hS hA 0 4 rfl rfl rfl rfl hsz rfl hr hdg ⟨by show cells + 0 ≤ 726897; omega, by show slots + 0 ≤ 6921558; omega⟩ (fun r u H locs hw hP hD hS => ?_)
  obtain ⟨u1, u2⟩ := u
  exact kk r _ _ ⟨tm, zm, nm, sd, st, u1, gr, P, Mn, T, Wt, Rn, Po, u2, Sp, Ks, Kp, Kc, Ik, O, As, htm, hzm, hnm, hMn, hPo, hKs, hP, hD⟩ hS
set_option maxHeartbeats 1000000 in
set_option maxRecDepth 100000 in
theorem sM_nextPick (F : CallFix p m c cL_law 4 s #[Value.ref b] wsL_law RL) (hK : nkK D (tM cb) s) (hW : MW A0 D bd cb Y H) (hS : va_S A0 s.heap H locs) (hA : ∀ q : Nat, s.heap.size ≤ q → A0 q) (hsz : ls.size = 4) (hr : (rest.map fun v => v.category).sum ≤ 8) (hc : cells + 1 ≤ 726897) (hs : slots + 4 ≤ 6921558) {i0 : Int32} (hdg : decode cL_law pc = .ok (.invokevirtual 90, 3))
    (kk : ∀ (r : Int32) (H1 : Heap) (locs1 : List Loc), MW A0 D bd cb Y H1 → va_S A0 s.heap H1 locs1 → W p l e room_1 s m #[Value.ref b] below meth c H1 locs1 (cells) (slots) Q (F0 m (pc + 3) ls (.int r :: rest))) : W p l e room_1 s m #[Value.ref b] below meth c H locs cells slots Q (F0 m pc ls (.int i0 :: .ref (bd 0) :: rest)) := by
  obtain ⟨tm, zm, nm, sd, st, tr, gr, P, Mn, T, Wt, Rn, Po, Pl, Sp, Ks, Kp, Kc, Ik, O, As, htm, hzm, hnm, hMn, hPo, hKs, hP, hD⟩ := hW
  refine nk_VI (As := [.int i0]) (rest := rest) F (mX4_nextPick l D bd cb sd (nI zm) (nI tm) st tr gr P Mn T Wt Rn Po Pl Sp Ks Kp Kc Ik O As Y nm i0 hnm (mWs2 hnm hzm hMn hPo)) (cwV 1 F.2.2.2.2 gL_law_X4_nextPick rfl rfl rfl (by decide +kernel) ⟨Nat.le_of_ble_eq_true rfl, Nat.le_of_ble_eq_true rfl⟩) hK hP hD hS hA 0 4 rfl rfl rfl rfl hsz rfl hr hdg ⟨by show cells + 0 ≤ 726897; omega, by show slots + 0 ≤ 6921558; omega⟩ (fun r u H locs hw hP hD hS => ?_)
  obtain ⟨u1, u2, u3⟩ := u
  exact kk r _ _ ⟨tm, zm, nm, sd, st, u1, u2, P, Mn, T, Wt, Rn, Po, u3, Sp, Ks, Kp, Kc, Ik, O, As, htm, hzm, hnm, hMn, hPo, hKs, hP, hD⟩ hS
set_option maxHeartbeats 1000000 in
set_option maxRecDepth 100000 in
theorem sM_skip (F : CallFix p m c cL_law 4 s #[Value.ref b] wsL_law RL) (hK : nkK D (tM cb) s) (hW : MW A0 D bd cb Y H) (hS : va_S A0 s.heap H locs) (hA : ∀ q : Nat, s.heap.size ≤ q → A0 q) (hsz : ls.size = 4) (hr : (rest.map fun v => v.category).sum ≤ 8) (hc : cells + 1 ≤ 726897) (hs : slots + 4 ≤ 6921558) {i0 : Int32} {n0 : Int32} (hdg : decode cL_law pc = .ok (.invokevirtual 99, 3))
    (kk : ∀ (r : Int32) (H1 : Heap) (locs1 : List Loc), MW A0 D bd cb Y H1 → va_S A0 s.heap H1 locs1 → W p l e room_1 s m #[Value.ref b] below meth c H1 locs1 (cells) (slots) Q (F0 m (pc + 3) ls (.int r :: rest))) : W p l e room_1 s m #[Value.ref b] below meth c H locs cells slots Q (F0 m pc ls (.int n0 :: .int i0 :: .ref (bd 0) :: rest)) := by
  obtain ⟨tm, zm, nm, sd, st, tr, gr, P, Mn, T, Wt, Rn, Po, Pl, Sp, Ks, Kp, Kc, Ik, O, As, htm, hzm, hnm, hMn, hPo, hKs, hP, hD⟩ := hW
  refine nk_VI (As := [.int i0, .int n0]) (rest := rest) F (mX4_skip l D bd cb sd (nI zm) (nI tm) st tr gr P Mn T Wt Rn Po Pl Sp Ks Kp Kc Ik O As Y nm i0 n0 hnm) (cwV 2 F.2.2.2.2 gL_law_X4_skip rfl rfl rfl (by decide +kernel) ⟨Nat.le_of_ble_eq_true rfl, Nat.le_of_ble_eq_true rfl⟩) hK hP hD hS hA 0 4 rfl rfl rfl rfl hsz rfl hr hdg ⟨by show cells + 0 ≤ 726897; omega, by show slots + 0 ≤ 6921558; omega⟩ (fun r u H locs hw hP hD hS => ?_)
  exact kk r _ _ ⟨tm, zm, nm, sd, st, tr, gr, P, Mn, T, Wt, Rn, Po, u, Sp, Ks, Kp, Kc, Ik, O, As, htm, hzm, hnm, hMn, hPo, hKs, hP, hD⟩ hS
set_option maxHeartbeats 1000000 in
set_option maxRecDepth 100000 in
theorem sM_keep (F : CallFix p m c cL_law 4 s #[Value.ref b] wsL_law RL) (hK : nkK D (tM cb) s) (hW : MW A0 D bd cb Y H) (hS : va_S A0 s.heap H locs) (hA : ∀ q : Nat, s.heap.size ≤ q → A0 q) (hsz : ls.size = 4) (hr : (rest.map fun v => v.category).sum ≤ 8) (hc : cells + 1 ≤ 726897) (hs : slots + 4 ≤ 6921558) {k0 : Int32} {i0 : Int32} (hdg : decode cL_law pc = .ok (.invokevirtual 103, 3))
    (kk : ∀ (r : Int32) (H1 : Heap) (locs1 : List Loc), MW A0 D bd cb Y H1 → va_S A0 s.heap H1 locs1 → W p l e room_1 s m #[Value.ref b] below meth c H1 locs1 (cells) (slots) Q (F0 m (pc + 3) ls (.int r :: rest))) : W p l e room_1 s m #[Value.ref b] below meth c H locs cells slots Q (F0 m pc ls (.int i0 :: .int k0 :: .ref (bd 0) :: rest)) := by
  obtain ⟨tm, zm, nm, sd, st, tr, gr, P, Mn, T, Wt, Rn, Po, Pl, Sp, Ks, Kp, Kc, Ik, O, As, htm, hzm, hnm, hMn, hPo, hKs, hP, hD⟩ := hW
  refine nk_VI (As := [.int k0, .int i0]) (rest := rest) F (mX4_keep l D bd cb sd (nI zm) (nI tm) st tr gr P Mn T Wt Rn Po Pl Sp Ks Kp Kc Ik O As Y nm k0 i0 hnm) (cwV 2 F.2.2.2.2 gL_law_X4_keep rfl rfl rfl (by decide +kernel) ⟨Nat.le_of_ble_eq_true rfl, Nat.le_of_ble_eq_true rfl⟩) hK hP hD hS hA 0 4 rfl rfl rfl rfl hsz rfl hr hdg ⟨by show cells + 0 ≤ 726897; omega, by show slots + 0 ≤ 6921558; omega⟩ (fun r u H locs hw hP hD hS => ?_)
  obtain ⟨u1, u2, u3, u4⟩ := u
  have hKs := mKeep_inv hnm hKs hw
  exact kk r _ _ ⟨tm, zm, nm, sd, st, tr, gr, P, Mn, T, Wt, Rn, Po, Pl, Sp, u2, u3, u4, u1, O, As, htm, hzm, hnm, hMn, hPo, hKs, hP, hD⟩ hS
set_option maxHeartbeats 1000000 in
set_option maxRecDepth 100000 in
theorem sM_back (F : CallFix p m c cL_law 4 s #[Value.ref b] wsL_law RL) (hK : nkK D (tM cb) s) (hW : MW A0 D bd cb Y H) (hS : va_S A0 s.heap H locs) (hA : ∀ q : Nat, s.heap.size ≤ q → A0 q) (hsz : ls.size = 4) (hr : (rest.map fun v => v.category).sum ≤ 8) (hc : cells + 1 ≤ 726897) (hs : slots + 4 ≤ 6921558) {k0 : Int32} (hdg : decode cL_law pc = .ok (.invokevirtual 107, 3))
    (kk : ∀ (r : Int32) (H1 : Heap) (locs1 : List Loc), MW A0 D bd cb Y H1 → va_S A0 s.heap H1 locs1 → W p l e room_1 s m #[Value.ref b] below meth c H1 locs1 (cells) (slots) Q (F0 m (pc + 3) ls (.int r :: rest))) : W p l e room_1 s m #[Value.ref b] below meth c H locs cells slots Q (F0 m pc ls (.int k0 :: .ref (bd 0) :: rest)) := by
  obtain ⟨tm, zm, nm, sd, st, tr, gr, P, Mn, T, Wt, Rn, Po, Pl, Sp, Ks, Kp, Kc, Ik, O, As, htm, hzm, hnm, hMn, hPo, hKs, hP, hD⟩ := hW
  refine nk_VI (As := [.int k0]) (rest := rest) F (mX4_back l D bd cb sd (nI zm) (nI tm) st tr (nI nm) gr P Mn T Wt Rn Po Pl Sp Ks Kp Kc Ik O As Y k0 (mKs_in hnm hKs)) (cwV 1 F.2.2.2.2 gL_law_X4_back rfl rfl rfl (by decide +kernel) ⟨Nat.le_of_ble_eq_true rfl, Nat.le_of_ble_eq_true rfl⟩) hK hP hD hS hA 0 4 rfl rfl rfl rfl hsz rfl hr hdg ⟨by show cells + 0 ≤ 726897; omega, by show slots + 0 ≤ 6921558; omega⟩ (fun r u H locs hw hP hD hS => ?_)
  obtain ⟨u1, u2⟩ := u
  exact kk r _ _ ⟨tm, zm, nm, sd, st, tr, gr, P, Mn, T, Wt, Rn, Po, u1, u2, Ks, Kp, Kc, Ik, O, As, htm, hzm, hnm, hMn, hPo, hKs, hP, hD⟩ hS
set_option maxHeartbeats 1000000 in
set_option maxRecDepth 100000 in
theorem sM_split (F : CallFix p m c cL_law 4 s #[Value.ref b] wsL_law RL) (hK : nkK D (tM cb) s) (hW : MW A0 D bd cb Y H) (hS : va_S A0 s.heap H locs) (hA : ∀ q : Nat, s.heap.size ≤ q → A0 q) (hsz : ls.size = 4) (hr : (rest.map fun v => v.category).sum ≤ 8) (hc : cells + 1 ≤ 726897) (hs : slots + 4 ≤ 6921558) {i0 : Int32} (hdg : decode cL_law pc = .ok (.invokevirtual 94, 3))
    (kk : ∀ (r : Int32) (H1 : Heap) (locs1 : List Loc), MW A0 D bd cb Y H1 → va_S A0 s.heap H1 locs1 → W p l e room_1 s m #[Value.ref b] below meth c H1 locs1 (cells) (slots) Q (F0 m (pc + 3) ls (.int r :: rest))) : W p l e room_1 s m #[Value.ref b] below meth c H locs cells slots Q (F0 m pc ls (.int i0 :: .ref (bd 0) :: rest)) := by
  obtain ⟨tm, zm, nm, sd, st, tr, gr, P, Mn, T, Wt, Rn, Po, Pl, Sp, Ks, Kp, Kc, Ik, O, As, htm, hzm, hnm, hMn, hPo, hKs, hP, hD⟩ := hW
  by_cases hI : mIs (nI nm) i0 = 0
  · skip
    refine nk_VI (As := [.int i0]) (rest := rest) F (mX4_split_N l D bd cb sd (nI zm) (nI tm) st tr gr P Mn T Wt Rn Po Pl Sp Ks Kp Kc Ik O As Y nm i0 hI) (cwV 1 F.2.2.2.2 gL_law_X4_split rfl rfl rfl (by decide +kernel) ⟨Nat.le_of_ble_eq_true rfl, Nat.le_of_ble_eq_true rfl⟩) hK hP hD hS hA 0 4 rfl rfl rfl rfl hsz rfl hr hdg ⟨by show cells + 0 ≤ 726897; omega, by show slots + 0 ≤ 6921558; omega⟩ (fun r u H locs hw hP hD hS => ?_)
    exact kk r _ _ ⟨tm, zm, nm, sd, st, tr, gr, P, Mn, T, Wt, Rn, Po, Pl, Sp, Ks, Kp, Kc, Ik, O, As, htm, hzm, hnm, hMn, hPo, hKs, hP, hD⟩ hS
  · skip
    obtain ⟨j, pp, ll, hj, hij, hpp, hPp, hl1, hl0⟩ := mWs hnm hzm hMn hPo hI
    by_cases hF : nI nm = 8 ∨ Mn (nI pp).toNatClampNeg = 4
    · skip
      refine nk_VI (As := [.int i0]) (rest := rest) F (mX4_split_F l D bd cb sd (nI zm) (nI tm) st tr gr P Mn T Wt Rn Po Pl Sp Ks Kp Kc Ik O As Y nm pp i0 hnm hI hPp (by omega) hF) (cwV 1 F.2.2.2.2 gL_law_X4_split rfl rfl rfl (by decide +kernel) ⟨Nat.le_of_ble_eq_true rfl, Nat.le_of_ble_eq_true rfl⟩) hK hP hD hS hA 0 4 rfl rfl rfl rfl hsz rfl hr hdg ⟨by show cells + 0 ≤ 726897; omega, by show slots + 0 ≤ 6921558; omega⟩ (fun r u H locs hw hP hD hS => ?_)
      exact kk r _ _ ⟨tm, zm, nm, sd, st, tr, gr, P, Mn, T, Wt, Rn, Po, Pl, Sp, Ks, Kp, Kc, Ik, O, As, htm, hzm, hnm, hMn, hPo, hKs, hP, hD⟩ hS
    · skip
      have hn8 := ns_neLt (n := 8) (fun h => hF (Or.inl h)) rfl hnm (by decide)
      have hl4 : ll < 4 := ns_neLt (n := 4) (fun h => hF (Or.inr (by rw [hl0]; exact h))) rfl hl1 (by decide)
      obtain ⟨z', h1, h2, h3, h4, h5⟩ := mTake_inv (P := P) (T := mT1 P T Sp pp ll i0) hzm (show ll + 1 ≤ 4 by omega) hMn
      refine nk_VI (As := [.int i0]) (rest := rest) F (mX4_split_M l D bd cb sd st tr gr P Mn T Wt Rn Po Pl Sp Ks Kp Kc Ik O As Y nm zm tm pp ll i0 hn8 hzm htm hI hPp (by omega) hl0 hl4) (cwV 1 F.2.2.2.2 gL_law_X4_split rfl rfl rfl (by decide +kernel) ⟨Nat.le_of_ble_eq_true rfl, Nat.le_of_ble_eq_true rfl⟩) hK hP hD hS hA 0 4 rfl rfl rfl rfl hsz rfl hr hdg ⟨by show cells + 0 ≤ 726897; omega, by show slots + 0 ≤ 6921558; omega⟩ (fun r u H locs hw hP hD hS => ?_)
      obtain ⟨u1, u2, ⟨u3, u4, u5⟩, ⟨u6, u7, u8, u9, u10⟩⟩ := u
      obtain ⟨hz5, hv4, n', g1, g2, g3, g4⟩ := mSplit_inv hw hn8 h3 h4 h5 (hPo.mono h1)
      subst hz5
      subst g3
      exact kk r _ _ ⟨tm, z', n', sd, st, tr, gr, u3, u4, u1, Wt, u7, u8, u9, u10, Ks, Kp, Kc, Ik, O, u2, htm, h2, g2, hv4, g4, (hKs.mono g1), hP, hD⟩ hS
end LAWS
