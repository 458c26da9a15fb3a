theorem mPickM_gr (sd : Int64) (P : Nat → Int64) (Mn : Nat → Int32) (pz : Int32) (Wt : Nat → Int64) (a : Int64) (p c tr gr : Int32) : (mPickM sd P Mn pz Wt a p c tr gr).1 = (mPickM sd P Mn pz Wt a p c tr 0).1 ∧ (mPickM sd P Mn pz Wt a p c tr gr).2.1 = (mPickM sd P Mn pz Wt a p c tr 0).2.1 := by
  unfold mPickM
  by_cases h1 : mIs pz p = 0
  · simp only [if_pos h1, and_self]
  · by_cases h2 : 0 ≤ c
    · simp only [if_neg h1, if_pos h2, and_self]
    · simp only [if_neg h1, if_neg h2, and_self]
theorem mNPick_gr (sd : Int64) (P : Nat → Int64) (Mn : Nat → Int32) (sc : Int32) (Wt Rn : Nat → Int64) (Po Pl : Nat → Int32) (i tr gr : Int32) : (mNPick sd P Mn sc Wt Rn Po Pl i tr gr).1 = (mNPick sd P Mn sc Wt Rn Po Pl i tr 0).1 ∧ (mNPick sd P Mn sc Wt Rn Po Pl i tr gr).2.1 = (mNPick sd P Mn sc Wt Rn Po Pl i tr 0).2.1 ∧ (mNPick sd P Mn sc Wt Rn Po Pl i tr gr).2.2.2 = (mNPick sd P Mn sc Wt Rn Po Pl i tr 0).2.2.2 := by
  unfold mNPick
  by_cases h1 : mIs sc i = 0
  · simp only [if_pos h1, and_self]
  · by_cases h2 : Pl i.toNatClampNeg = 2147483647
    · simp only [if_neg h1, if_pos h2, and_self]
    · simp only [if_neg h1, if_neg h2, and_self]
section RELS
variable {p : Program} {l : Launch} {e : Env} {s : State} {m : MethodId} {below : List Frame} {meth : Method} {c : Code} {b : Nat} {Q : State → Prop} {H : Heap} {locs : List Loc} {cells slots pc : Nat} {ls : Array Slot} {rest : List Value} {D : va_G} {ad bd : Nat → Nat} {ca cb : Nat → ClassId} {X Y : va_W} {A0 : Nat → Prop}
variable {sd : Int64} {pz : Int32} {tc : Int32} {st : Int32} {tr : Int32} {sc : Int32} {P : Nat → Int64} {Mn : Nat → Int32} {T : Nat → Int64} {Wt : Nat → Int64} {Rn : Nat → Int64} {Po : Nat → Int32} {Pl : Nat → Int32} {Sp : Nat → Int32} {Ks : Nat → Int32} {Kp : Nat → Int32} {Kc : Nat → Int32} {Ik : Nat → Int32} {O : Nat → Int32}
set_option maxHeartbeats 1000000 in
set_option maxRecDepth 100000 in
theorem rM_part (F : CallFix p m c cL_law 4 s #[Value.ref b] wsL_law RL) (hK : nkK D (tM cb) s) (hI : aI pz tc sc Mn Po Ik Ks Wt) (hW : MA A0 D bd cb Y sd pz tc st tr sc P Mn T Wt Rn Po Pl Sp Ks Kp Kc Ik O H) (hS : va_S A0 s.heap H locs) (hA : ∀ q : Nat, s.heap.size ≤ q → A0 q) (hsz : ls.size = 4) (hr : (rest.map fun v => v.category).sum ≤ 8) (hc : cells + 1 ≤ 726897) (hs : slots + 4 ≤ 6921558) {v : Int64} (hdg : decode cL_law pc = .ok (.invokevirtual 27, 3))
    (kk : ∀ (r : Int32) (H1 : Heap) (locs1 : List Loc), r = (mPart tc.toNatClampNeg T v).1 → MA A0 D bd cb Y sd pz ((mPart tc.toNatClampNeg T v).2.1) st tr sc P Mn ((mPart tc.toNatClampNeg T v).2.2) Wt Rn Po Pl Sp Ks Kp Kc Ik O H1 → va_S A0 s.heap H1 locs1 → W p l e room_1 s m #[Value.ref b] below meth c H1 locs1 (cells) (slots) Q (F0 m (pc + 3) ls (.int r :: rest))) : W p l e room_1 s m #[Value.ref b] below meth c H locs cells slots Q (F0 m pc ls (.long v :: .ref (bd 0) :: rest)) := by
  obtain ⟨tt, zz, nc, htt, hzz, hnc, rfl, rfl, rfl, hLn, hPo, hKs, hWt⟩ := hI
  have hEt : (nI tt).toNatClampNeg = tt := nI_clamp (by omega)
  have hEz : (nI zz).toNatClampNeg = zz := nI_clamp (by omega)
  have hEn : (nI nc).toNatClampNeg = nc := nI_clamp (by omega)
  try simp only [hEt, hEz, hEn] at kk
  obtain ⟨gr, As, hP, hD⟩ := hW
  refine nk_VI (As := [.long v]) (rest := rest) F (mX4_part l D bd cb sd (nI zz) st tr (nI nc) gr P Mn T Wt Rn Po Pl Sp Ks Kp Kc Ik O As Y tt v htt) (cwV 1 F.2.2.2.2 gL_law_X4_part rfl rfl rfl (by decide +kernel) ⟨Nat.le_of_ble_eq_true rfl, Nat.le_of_ble_eq_true rfl⟩) hK hP hD hS hA 0 4 rfl rfl rfl rfl hsz rfl hr hdg ⟨by show cells + 0 ≤ 726897; omega, by show slots + 0 ≤ 6921558; omega⟩ (fun r u H locs hw hP hD hS => ?_)
  obtain rfl : r = (mPart tt T v).1 := by rw [hw]
  obtain rfl : u = (mPart tt T v).2 := by rw [hw]
  exact kk _ _ _ rfl ⟨_, _, hP, hD⟩ hS
set_option maxHeartbeats 1000000 in
set_option maxRecDepth 100000 in
theorem rM_path (F : CallFix p m c cL_law 4 s #[Value.ref b] wsL_law RL) (hK : nkK D (tM cb) s) (hI : aI pz tc sc Mn Po Ik Ks Wt) (hW : MA A0 D bd cb Y sd pz tc st tr sc P Mn T Wt Rn Po Pl Sp Ks Kp Kc Ik O H) (hS : va_S A0 s.heap H locs) (hA : ∀ q : Nat, s.heap.size ≤ q → A0 q) (hsz : ls.size = 4) (hr : (rest.map fun v => v.category).sum ≤ 8) (hc : cells + 1 ≤ 726897) (hs : slots + 4 ≤ 6921558) (hdg : decode cL_law pc = .ok (.invokevirtual 32, 3))
    (kk : ∀ (r : Int32) (H1 : Heap) (locs1 : List Loc), r = (mPath P T Mn pz.toNatClampNeg tc.toNatClampNeg).1 → MA A0 D bd cb Y sd ((mPath P T Mn pz.toNatClampNeg tc.toNatClampNeg).2.2.2.2) ((mPath P T Mn pz.toNatClampNeg tc.toNatClampNeg).2.1) st tr sc ((mPath P T Mn pz.toNatClampNeg tc.toNatClampNeg).2.2.1) ((mPath P T Mn pz.toNatClampNeg tc.toNatClampNeg).2.2.2.1) T Wt Rn Po Pl Sp Ks Kp Kc Ik O H1 → va_S A0 s.heap H1 locs1 → W p l e room_1 s m #[Value.ref b] below meth c H1 locs1 (cells) (slots) Q (F0 m (pc + 3) ls (.int r :: rest))) : W p l e room_1 s m #[Value.ref b] below meth c H locs cells slots Q (F0 m pc ls (.ref (bd 0) :: rest)) := by
  obtain ⟨tt, zz, nc, htt, hzz, hnc, rfl, rfl, rfl, hLn, hPo, hKs, hWt⟩ := hI
  have hEt : (nI tt).toNatClampNeg = tt := nI_clamp (by omega)
  have hEz : (nI zz).toNatClampNeg = zz := nI_clamp (by omega)
  have hEn : (nI nc).toNatClampNeg = nc := nI_clamp (by omega)
  try simp only [hEt, hEz, hEn] at kk
  obtain ⟨gr, As, hP, hD⟩ := hW
  refine nk_VI (As := []) (rest := rest) F (mX4_path l D bd cb sd st tr (nI nc) gr P Mn T Wt Rn Po Pl Sp Ks Kp Kc Ik O As Y zz tt hzz htt) (cwV 0 F.2.2.2.2 gL_law_X4_path rfl rfl rfl (by decide +kernel) ⟨Nat.le_of_ble_eq_true rfl, Nat.le_of_ble_eq_true rfl⟩) hK hP hD hS hA 0 4 rfl rfl rfl rfl hsz rfl hr hdg ⟨by show cells + 0 ≤ 726897; omega, by show slots + 0 ≤ 6921558; omega⟩ (fun r u H locs hw hP hD hS => ?_)
  obtain rfl : r = (mPath P T Mn zz tt).1 := by rw [hw]
  obtain rfl : u = (mPath P T Mn zz tt).2 := by rw [hw]
  exact kk _ _ _ rfl ⟨_, _, hP, hD⟩ hS
set_option maxHeartbeats 1000000 in
set_option maxRecDepth 100000 in
theorem rM_key (F : CallFix p m c cL_law 4 s #[Value.ref b] wsL_law RL) (hK : nkK D (tM cb) s) (hI : aI pz tc sc Mn Po Ik Ks Wt) (hW : MA A0 D bd cb Y sd pz tc st tr sc P Mn T Wt Rn Po Pl Sp Ks Kp Kc Ik O H) (hS : va_S A0 s.heap H locs) (hA : ∀ q : Nat, s.heap.size ≤ q → A0 q) (hsz : ls.size = 4) (hr : (rest.map fun v => v.category).sum ≤ 8) (hc : cells + 1 ≤ 726897) (hs : slots + 4 ≤ 6921558) {p0 : Int32} (hdg : decode cL_law pc = .ok (.invokevirtual 37, 3))
    (kk : ∀ (r : Int64) (H1 : Heap) (locs1 : List Loc), r = (mKeyM P Mn pz p0).1 → MA A0 D bd cb Y sd pz tc ((mKeyM P Mn pz p0).2) tr sc P Mn T Wt Rn Po Pl Sp Ks Kp Kc Ik O H1 → va_S A0 s.heap H1 locs1 → W p l e room_1 s m #[Value.ref b] below meth c H1 locs1 (cells) (slots) Q (F0 m (pc + 3) ls (.long r :: rest))) : W p l e room_1 s m #[Value.ref b] below meth c H locs cells slots Q (F0 m pc ls (.int p0 :: .ref (bd 0) :: rest)) := by
  obtain ⟨tt, zz, nc, htt, hzz, hnc, rfl, rfl, rfl, hLn, hPo, hKs, hWt⟩ := hI
  have hEt : (nI tt).toNatClampNeg = tt := nI_clamp (by omega)
  have hEz : (nI zz).toNatClampNeg = zz := nI_clamp (by omega)
  have hEn : (nI nc).toNatClampNeg = nc := nI_clamp (by omega)
  try simp only [hEt, hEz, hEn] at kk
  obtain ⟨gr, As, hP, hD⟩ := hW
  refine nk_VL (As := [.int p0]) (rest := rest) F (mX4_key l D bd cb sd (nI zz) (nI tt) st tr (nI nc) gr P Mn T Wt Rn Po Pl Sp Ks Kp Kc Ik O As Y p0 (mWp hzz hLn)) (cwV 1 F.2.2.2.2 gL_law_X4_key rfl rfl rfl (by decide +kernel) ⟨Nat.le_of_ble_eq_true rfl, Nat.le_of_ble_eq_true rfl⟩) hK hP hD hS hA 0 4 rfl rfl rfl rfl hsz rfl hr hdg ⟨by show cells + 0 ≤ 726897; omega, by show slots + 0 ≤ 6921558; omega⟩ (fun r u H locs hw hP hD hS => ?_)
  obtain rfl : r = (mKeyM P Mn (nI zz) p0).1 := by rw [hw]
  obtain rfl : u = (mKeyM P Mn (nI zz) p0).2 := by rw [hw]
  exact kk _ _ _ rfl ⟨_, _, hP, hD⟩ hS
set_option maxHeartbeats 1000000 in
set_option maxRecDepth 100000 in
theorem rM_word (F : CallFix p m c cL_law 4 s #[Value.ref b] wsL_law RL) (hK : nkK D (tM cb) s) (hI : aI pz tc sc Mn Po Ik Ks Wt) (hW : MA A0 D bd cb Y sd pz tc st tr sc P Mn T Wt Rn Po Pl Sp Ks Kp Kc Ik O H) (hS : va_S A0 s.heap H locs) (hA : ∀ q : Nat, s.heap.size ≤ q → A0 q) (hsz : ls.size = 4) (hr : (rest.map fun v => v.category).sum ≤ 8) (hc : cells + 1 ≤ 726897) (hs : slots + 4 ≤ 6921558) {a0 : Int64} {p0 : Int32} {k0 : Int64} (hdg : decode cL_law pc = .ok (.invokevirtual 42, 3))
    (kk : ∀ (r : Int64) (H1 : Heap) (locs1 : List Loc), r = (mWd sd P Mn pz a0 p0 k0).1 → MA A0 D bd cb Y sd pz tc ((mWd sd P Mn pz a0 p0 k0).2) tr sc P Mn T Wt Rn Po Pl Sp Ks Kp Kc Ik O H1 → va_S A0 s.heap H1 locs1 → W p l e room_1 s m #[Value.ref b] below meth c H1 locs1 (cells) (slots) Q (F0 m (pc + 3) ls (.long r :: rest))) : W p l e room_1 s m #[Value.ref b] below meth c H locs cells slots Q (F0 m pc ls (.long k0 :: .int p0 :: .long a0 :: .ref (bd 0) :: rest)) := by
  obtain ⟨tt, zz, nc, htt, hzz, hnc, rfl, rfl, rfl, hLn, hPo, hKs, hWt⟩ := hI
  have hEt : (nI tt).toNatClampNeg = tt := nI_clamp (by omega)
  have hEz : (nI zz).toNatClampNeg = zz := nI_clamp (by omega)
  have hEn : (nI nc).toNatClampNeg = nc := nI_clamp (by omega)
  try simp only [hEt, hEz, hEn] at kk
  obtain ⟨gr, As, hP, hD⟩ := hW
  refine nk_VL (As := [.long a0, .int p0, .long k0]) (rest := rest) F (mX4_word l D bd cb sd (nI zz) (nI tt) st tr (nI nc) gr P Mn T Wt Rn Po Pl Sp Ks Kp Kc Ik O As Y a0 p0 k0 (mWp hzz hLn)) (cwV 3 F.2.2.2.2 gL_law_X4_word rfl rfl rfl (by decide +kernel) ⟨Nat.le_of_ble_eq_true rfl, Nat.le_of_ble_eq_true rfl⟩) hK hP hD hS hA 0 4 rfl rfl rfl rfl hsz rfl hr hdg ⟨by show cells + 0 ≤ 726897; omega, by show slots + 0 ≤ 6921558; omega⟩ (fun r u H locs hw hP hD hS => ?_)
  obtain rfl : r = (mWd sd P Mn (nI zz) a0 p0 k0).1 := by rw [hw]
  obtain rfl : u = (mWd sd P Mn (nI zz) a0 p0 k0).2 := by rw [hw]
  exact kk _ _ _ rfl ⟨_, _, hP, hD⟩ hS
set_option maxHeartbeats 1000000 in
set_option maxRecDepth 100000 in
theorem rM_span (F : CallFix p m c cL_law 4 s #[Value.ref b] wsL_law RL) (hK : nkK D (tM cb) s) (hI : aI pz tc sc Mn Po Ik Ks Wt) (hW : MA A0 D bd cb Y sd pz tc st tr sc P Mn T Wt Rn Po Pl Sp Ks Kp Kc Ik O H) (hS : va_S A0 s.heap H locs) (hA : ∀ q : Nat, s.heap.size ≤ q → A0 q) (hsz : ls.size = 4) (hr : (rest.map fun v => v.category).sum ≤ 8) (hc : cells + 1 ≤ 726897) (hs : slots + 4 ≤ 6921558) {a0 : Int64} {p0 : Int32} {c0 : Int32} {n0 : Int64} (hdg : decode cL_law pc = .ok (.invokevirtual 47, 3))
    (kk : ∀ (r : Int64) (H1 : Heap) (locs1 : List Loc), r = (mSpanM sd P Mn pz a0 p0 c0 n0 tr).1 → MA A0 D bd cb Y sd pz tc st ((mSpanM sd P Mn pz a0 p0 c0 n0 tr).2) sc P Mn T Wt Rn Po Pl Sp Ks Kp Kc Ik O H1 → va_S A0 s.heap H1 locs1 → W p l e room_1 s m #[Value.ref b] below meth c H1 locs1 (cells) (slots) Q (F0 m (pc + 3) ls (.long r :: rest))) : W p l e room_1 s m #[Value.ref b] below meth c H locs cells slots Q (F0 m pc ls (.long n0 :: .int c0 :: .int p0 :: .long a0 :: .ref (bd 0) :: rest)) := by
  obtain ⟨tt, zz, nc, htt, hzz, hnc, rfl, rfl, rfl, hLn, hPo, hKs, hWt⟩ := hI
  have hEt : (nI tt).toNatClampNeg = tt := nI_clamp (by omega)
  have hEz : (nI zz).toNatClampNeg = zz := nI_clamp (by omega)
  have hEn : (nI nc).toNatClampNeg = nc := nI_clamp (by omega)
  try simp only [hEt, hEz, hEn] at kk
  obtain ⟨gr, As, hP, hD⟩ := hW
  refine nk_VL (As := [.long a0, .int p0, .int c0, .long n0]) (rest := rest) F (mX4_span l D bd cb sd (nI zz) (nI tt) st tr (nI nc) gr P Mn T Wt Rn Po Pl Sp Ks Kp Kc Ik O As Y a0 p0 c0 n0 (mWp hzz hLn)) (cwV 4 F.2.2.2.2 gL_law_X4_span rfl rfl rfl (by decide +kernel) ⟨Nat.le_of_ble_eq_true rfl, Nat.le_of_ble_eq_true rfl⟩) hK hP hD hS hA 0 4 rfl rfl rfl rfl hsz rfl hr hdg ⟨by show cells + 0 ≤ 726897; omega, by show slots + 0 ≤ 6921558; omega⟩ (fun r u H locs hw hP hD hS => ?_)
  obtain rfl : r = (mSpanM sd P Mn (nI zz) a0 p0 c0 n0 tr).1 := by rw [hw]
  obtain rfl : u = (mSpanM sd P Mn (nI zz) a0 p0 c0 n0 tr).2 := by rw [hw]
  exact kk _ _ _ rfl ⟨_, _, hP, hD⟩ hS
set_option maxHeartbeats 1000000 in
set_option maxRecDepth 100000 in
theorem rM_fraction (F : CallFix p m c cL_law 4 s #[Value.ref b] wsL_law RL) (hK : nkK D (tM cb) s) (hI : aI pz tc sc Mn Po Ik Ks Wt) (hW : MA A0 D bd cb Y sd pz tc st tr sc P Mn T Wt Rn Po Pl Sp Ks Kp Kc Ik O H) (hS : va_S A0 s.heap H locs) (hA : ∀ q : Nat, s.heap.size ≤ q → A0 q) (hsz : ls.size = 4) (hr : (rest.map fun v => v.category).sum ≤ 8) (hc : cells + 1 ≤ 726897) (hs : slots + 4 ≤ 6921558) {a0 : Int64} {p0 : Int32} {c0 : Int32} {n0 : Int64} {k0 : Int64} (hdg : decode cL_law pc = .ok (.invokevirtual 52, 3))
    (kk : ∀ (r : Int32) (H1 : Heap) (locs1 : List Loc), r = (mFracM sd P Mn pz a0 p0 c0 n0 k0 tr).1 → MA A0 D bd cb Y sd pz tc st ((mFracM sd P Mn pz a0 p0 c0 n0 k0 tr).2) sc P Mn T Wt Rn Po Pl Sp Ks Kp Kc Ik O H1 → va_S A0 s.heap H1 locs1 → W p l e room_1 s m #[Value.ref b] below meth c H1 locs1 (cells) (slots) Q (F0 m (pc + 3) ls (.int r :: rest))) : W p l e room_1 s m #[Value.ref b] below meth c H locs cells slots Q (F0 m pc ls (.long k0 :: .long n0 :: .int c0 :: .int p0 :: .long a0 :: .ref (bd 0) :: rest)) := by
  obtain ⟨tt, zz, nc, htt, hzz, hnc, rfl, rfl, rfl, hLn, hPo, hKs, hWt⟩ := hI
  have hEt : (nI tt).toNatClampNeg = tt := nI_clamp (by omega)
  have hEz : (nI zz).toNatClampNeg = zz := nI_clamp (by omega)
  have hEn : (nI nc).toNatClampNeg = nc := nI_clamp (by omega)
  try simp only [hEt, hEz, hEn] at kk
  obtain ⟨gr, As, hP, hD⟩ := hW
  refine nk_VI (As := [.long a0, .int p0, .int c0, .long n0, .long k0]) (rest := rest) F (mX4_fraction l D bd cb sd (nI zz) (nI tt) st tr (nI nc) gr P Mn T Wt Rn Po Pl Sp Ks Kp Kc Ik O As Y a0 p0 c0 n0 k0 (mWp hzz hLn)) (cwV 5 F.2.2.2.2 gL_law_X4_fraction rfl rfl rfl (by decide +kernel) ⟨Nat.le_of_ble_eq_true rfl, Nat.le_of_ble_eq_true rfl⟩) hK hP hD hS hA 0 4 rfl rfl rfl rfl hsz rfl hr hdg ⟨by show cells + 0 ≤ 726897; omega, by show slots + 0 ≤ 6921558; omega⟩ (fun r u H locs hw hP hD hS => ?_)
  obtain rfl : r = (mFracM sd P Mn (nI zz) a0 p0 c0 n0 k0 tr).1 := by rw [hw]
  obtain rfl : u = (mFracM sd P Mn (nI zz) a0 p0 c0 n0 k0 tr).2 := by rw [hw]
  exact kk _ _ _ rfl ⟨_, _, hP, hD⟩ hS
set_option maxHeartbeats 1000000 in
set_option maxRecDepth 100000 in
theorem rM_weight (F : CallFix p m c cL_law 4 s #[Value.ref b] wsL_law RL) (hK : nkK D (tM cb) s) (hI : aI pz tc sc Mn Po Ik Ks Wt) (hW : MA A0 D bd cb Y sd pz tc st tr sc P Mn T Wt Rn Po Pl Sp Ks Kp Kc Ik O H) (hS : va_S A0 s.heap H locs) (hA : ∀ q : Nat, s.heap.size ≤ q → A0 q) (hsz : ls.size = 4) (hr : (rest.map fun v => v.category).sum ≤ 8) (hc : cells + 1 ≤ 726897) (hs : slots + 4 ≤ 6921558) {k0 : Int32} {w0 : Int64} (hdg : decode cL_law pc = .ok (.invokevirtual 57, 3))
    (kk : ∀ (r : Int32) (H1 : Heap) (locs1 : List Loc), r = (mWeight Wt k0 w0).1 → MA A0 D bd cb Y sd pz tc st tr sc P Mn T ((mWeight Wt k0 w0).2) Rn Po Pl Sp Ks Kp Kc Ik O H1 → va_S A0 s.heap H1 locs1 → W p l e room_1 s m #[Value.ref b] below meth c H1 locs1 (cells) (slots) Q (F0 m (pc + 3) ls (.int r :: rest))) : W p l e room_1 s m #[Value.ref b] below meth c H locs cells slots Q (F0 m pc ls (.long w0 :: .int k0 :: .ref (bd 0) :: rest)) := by
  obtain ⟨tt, zz, nc, htt, hzz, hnc, rfl, rfl, rfl, hLn, hPo, hKs, hWt⟩ := hI
  have hEt : (nI tt).toNatClampNeg = tt := nI_clamp (by omega)
  have hEz : (nI zz).toNatClampNeg = zz := nI_clamp (by omega)
  have hEn : (nI nc).toNatClampNeg = nc := nI_clamp (by omega)
  try simp only [hEt, hEz, hEn] at kk
  obtain ⟨gr, As, hP, hD⟩ := hW
  refine nk_VI (As := [.int k0, .long w0]) (rest := rest) F (mX4_weight l D bd cb sd (nI zz) (nI tt) st tr (nI nc) gr P Mn T Wt Rn Po Pl Sp Ks Kp Kc Ik O As Y k0 w0) (cwV 2 F.2.2.2.2 gL_law_X4_weight rfl rfl rfl (by decide +kernel) ⟨Nat.le_of_ble_eq_true rfl, Nat.le_of_ble_eq_true rfl⟩) hK hP hD hS hA 0 4 rfl rfl rfl rfl hsz rfl hr hdg ⟨by show cells + 0 ≤ 726897; omega, by show slots + 0 ≤ 6921558; omega⟩ (fun r u H locs hw hP hD hS => ?_)
  obtain rfl : r = (mWeight Wt k0 w0).1 := by rw [hw]
  obtain rfl : u = (mWeight Wt k0 w0).2 := by rw [hw]
  exact kk _ _ _ rfl ⟨_, _, hP, hD⟩ hS
set_option maxHeartbeats 1000000 in
set_option maxRecDepth 100000 in
theorem rM_pick (F : CallFix p m c cL_law 4 s #[Value.ref b] wsL_law RL) (hK : nkK D (tM cb) s) (hI : aI pz tc sc Mn Po Ik Ks Wt) (hW : MA A0 D bd cb Y sd pz tc st tr sc P Mn T Wt Rn Po Pl Sp Ks Kp Kc Ik O H) (hS : va_S A0 s.heap H locs) (hA : ∀ q : Nat, s.heap.size ≤ q → A0 q) (hsz : ls.size = 4) (hr : (rest.map fun v => v.category).sum ≤ 8) (hc : cells + 1 ≤ 726897) (hs : slots + 4 ≤ 6921558) {a0 : Int64} {p0 : Int32} {c0 : Int32} (hdg : decode cL_law pc = .ok (.invokevirtual 62, 3))
    (kk : ∀ (r : Int32) (H1 : Heap) (locs1 : List Loc), r = (mPickM sd P Mn pz Wt a0 p0 c0 tr 0).1 → MA A0 D bd cb Y sd pz tc st ((mPickM sd P Mn pz Wt a0 p0 c0 tr 0).2.1) sc P Mn T Wt Rn Po Pl Sp Ks Kp Kc Ik O H1 → va_S A0 s.heap H1 locs1 → W p l e room_1 s m #[Value.ref b] below meth c H1 locs1 (cells) (slots) Q (F0 m (pc + 3) ls (.int r :: rest))) : W p l e room_1 s m #[Value.ref b] below meth c H locs cells slots Q (F0 m pc ls (.int c0 :: .int p0 :: .long a0 :: .ref (bd 0) :: rest)) := by
  obtain ⟨tt, zz, nc, htt, hzz, hnc, rfl, rfl, rfl, hLn, hPo, hKs, hWt⟩ := hI
  have hEt : (nI tt).toNatClampNeg = tt := nI_clamp (by omega)
  have hEz : (nI zz).toNatClampNeg = zz := nI_clamp (by omega)
  have hEn : (nI nc).toNatClampNeg = nc := nI_clamp (by omega)
  try simp only [hEt, hEz, hEn] at kk
  obtain ⟨gr, As, hP, hD⟩ := hW
  refine nk_VI (As := [.long a0, .int p0, .int c0]) (rest := rest) F (mX4_pick l D bd cb sd (nI zz) (nI tt) st tr (nI nc) gr P Mn T Wt Rn Po Pl Sp Ks Kp Kc Ik O As Y a0 p0 c0 (mWp hzz hLn)) (cwV 3 F.2.2.2.2 gL_law_X4_pick rfl rfl rfl (by decide +kernel) ⟨Nat.le_of_ble_eq_true rfl, Nat.le_of_ble_eq_true rfl⟩) hK hP hD hS hA 0 4 rfl rfl rfl rfl hsz rfl hr hdg ⟨by show cells + 0 ≤ 726897; omega, by show slots + 0 ≤ 6921558; omega⟩ (fun r u H locs hw hP hD hS => ?_)
  obtain ⟨hg1, hg2⟩ := mPickM_gr sd P Mn (nI zz) Wt a0 p0 c0 tr gr
  rw [hw] at hg1 hg2
  obtain ⟨u1, u2⟩ := u
  have hg1 : r = (mPickM sd P Mn (nI zz) Wt a0 p0 c0 tr 0).1 := hg1
  have hg2 : u1 = (mPickM sd P Mn (nI zz) Wt a0 p0 c0 tr 0).2.1 := hg2
  subst hg1
  subst hg2
  exact kk _ _ _ rfl ⟨_, _, hP, hD⟩ hS
set_option maxHeartbeats 1000000 in
set_option maxRecDepth 100000 in
theorem rM_permuted (F : CallFix p m c cL_law 4 s #[Value.ref b] wsL_law RL) (hK : nkK D (tM cb) s) (hI : aI pz tc sc Mn Po Ik Ks Wt) (hW : MA A0 D bd cb Y sd pz tc st tr sc P Mn T Wt Rn Po Pl Sp Ks Kp Kc Ik O H) (hS : va_S A0 s.heap H locs) (hA : ∀ q : Nat, s.heap.size ≤ q → A0 q) (hsz : ls.size = 4) (hr : (rest.map fun v => v.category).sum ≤ 8) (hc : cells + 1 ≤ 726897) (hs : slots + 4 ≤ 6921558) {a0 : Int64} {p0 : Int32} {c0 : Int32} {n0 : Int32} {k0 : Int32} (hdg : decode cL_law pc = .ok (.invokevirtual 67, 3))
    (kk : ∀ (r : Int32) (H1 : Heap) (locs1 : List Loc), r = (mPermM sd P Mn pz O a0 p0 c0 n0 k0 tr).1 → MA A0 D bd cb Y sd pz tc st ((mPermM sd P Mn pz O a0 p0 c0 n0 k0 tr).2.2) sc P Mn T Wt Rn Po Pl Sp Ks Kp Kc Ik ((mPermM sd P Mn pz O a0 p0 c0 n0 k0 tr).2.1) H1 → va_S A0 s.heap H1 locs1 → W p l e room_1 s m #[Value.ref b] below meth c H1 locs1 (cells) (slots) Q (F0 m (pc + 3) ls (.int r :: rest))) : W p l e room_1 s m #[Value.ref b] below meth c H locs cells slots Q (F0 m pc ls (.int k0 :: .int n0 :: .int c0 :: .int p0 :: .long a0 :: .ref (bd 0) :: rest)) := by
  obtain ⟨tt, zz, nc, htt, hzz, hnc, rfl, rfl, rfl, hLn, hPo, hKs, hWt⟩ := hI
  have hEt : (nI tt).toNatClampNeg = tt := nI_clamp (by omega)
  have hEz : (nI zz).toNatClampNeg = zz := nI_clamp (by omega)
  have hEn : (nI nc).toNatClampNeg = nc := nI_clamp (by omega)
  try simp only [hEt, hEz, hEn] at kk
  obtain ⟨gr, As, hP, hD⟩ := hW
  refine nk_VI (As := [.long a0, .int p0, .int c0, .int n0, .int k0]) (rest := rest) F (mX4_permuted l D bd cb sd (nI zz) (nI tt) st tr (nI nc) gr P Mn T Wt Rn Po Pl Sp Ks Kp Kc Ik O As Y a0 p0 c0 n0 k0 (mWp hzz hLn)) (cwV 5 F.2.2.2.2 gL_law_X4_permuted rfl rfl rfl (by decide +kernel) ⟨Nat.le_of_ble_eq_true rfl, Nat.le_of_ble_eq_true rfl⟩) hK hP hD hS hA 0 4 rfl rfl rfl rfl hsz rfl hr hdg ⟨by show cells + 0 ≤ 726897; omega, by show slots + 0 ≤ 6921558; omega⟩ (fun r u H locs hw hP hD hS => ?_)
  obtain rfl : r = (mPermM sd P Mn (nI zz) O a0 p0 c0 n0 k0 tr).1 := by rw [hw]
  obtain rfl : u = (mPermM sd P Mn (nI zz) O a0 p0 c0 n0 k0 tr).2 := by rw [hw]
  exact kk _ _ _ rfl ⟨_, _, hP, hD⟩ hS
set_option maxHeartbeats 1000000 in
set_option maxRecDepth 100000 in
theorem rM_tries (F : CallFix p m c cL_law 4 s #[Value.ref b] wsL_law RL) (hK : nkK D (tM cb) s) (hI : aI pz tc sc Mn Po Ik Ks Wt) (hW : MA A0 D bd cb Y sd pz tc st tr sc P Mn T Wt Rn Po Pl Sp Ks Kp Kc Ik O H) (hS : va_S A0 s.heap H locs) (hA : ∀ q : Nat, s.heap.size ≤ q → A0 q) (hsz : ls.size = 4) (hr : (rest.map fun v => v.category).sum ≤ 8) (hc : cells + 1 ≤ 726897) (hs : slots + 4 ≤ 6921558) (hdg : decode cL_law pc = .ok (.invokevirtual 71, 3))
    (kk : ∀ (r : Int32) (H1 : Heap) (locs1 : List Loc), r = tr → MA A0 D bd cb Y sd pz tc st tr sc P Mn T Wt Rn Po Pl Sp Ks Kp Kc Ik O H1 → va_S A0 s.heap H1 locs1 → W p l e room_1 s m #[Value.ref b] below meth c H1 locs1 (cells) (slots) Q (F0 m (pc + 3) ls (.int r :: rest))) : W p l e room_1 s m #[Value.ref b] below meth c H locs cells slots Q (F0 m pc ls (.ref (bd 0) :: rest)) := by
  obtain ⟨tt, zz, nc, htt, hzz, hnc, rfl, rfl, rfl, hLn, hPo, hKs, hWt⟩ := hI
  have hEt : (nI tt).toNatClampNeg = tt := nI_clamp (by omega)
  have hEz : (nI zz).toNatClampNeg = zz := nI_clamp (by omega)
  have hEn : (nI nc).toNatClampNeg = nc := nI_clamp (by omega)
  try simp only [hEt, hEz, hEn] at kk
  obtain ⟨gr, As, hP, hD⟩ := hW
  refine nk_VRI (As := []) (rest := rest) F (mX4_tries l D bd cb sd (nI zz) (nI tt) st tr (nI nc) gr P Mn T Wt Rn Po Pl Sp Ks Kp Kc Ik O As Y ) (cwV 0 F.2.2.2.2 gL_law_X4_tries rfl rfl rfl (by decide +kernel) ⟨Nat.le_of_ble_eq_true rfl, Nat.le_of_ble_eq_true rfl⟩) hK hP 0 4 rfl rfl rfl rfl hsz rfl hr hdg ⟨by show cells ≤ 726897; omega, by show slots ≤ 6921558; omega⟩ (fun r hw => ?_)
  exact kk _ _ _ hw ⟨_, _, hP, hD⟩ hS
set_option maxHeartbeats 1000000 in
set_option maxRecDepth 100000 in
theorem rM_status (F : CallFix p m c cL_law 4 s #[Value.ref b] wsL_law RL) (hK : nkK D (tM cb) s) (hI : aI pz tc sc Mn Po Ik Ks Wt) (hW : MA A0 D bd cb Y sd pz tc st tr sc P Mn T Wt Rn Po Pl Sp Ks Kp Kc Ik O H) (hS : va_S A0 s.heap H locs) (hA : ∀ q : Nat, s.heap.size ≤ q → A0 q) (hsz : ls.size = 4) (hr : (rest.map fun v => v.category).sum ≤ 8) (hc : cells + 1 ≤ 726897) (hs : slots + 4 ≤ 6921558) (hdg : decode cL_law pc = .ok (.invokevirtual 75, 3))
    (kk : ∀ (r : Int32) (H1 : Heap) (locs1 : List Loc), r = st → MA A0 D bd cb Y sd pz tc st tr sc P Mn T Wt Rn Po Pl Sp Ks Kp Kc Ik O H1 → va_S A0 s.heap H1 locs1 → W p l e room_1 s m #[Value.ref b] below meth c H1 locs1 (cells) (slots) Q (F0 m (pc + 3) ls (.int r :: rest))) : W p l e room_1 s m #[Value.ref b] below meth c H locs cells slots Q (F0 m pc ls (.ref (bd 0) :: rest)) := by
  obtain ⟨tt, zz, nc, htt, hzz, hnc, rfl, rfl, rfl, hLn, hPo, hKs, hWt⟩ := hI
  have hEt : (nI tt).toNatClampNeg = tt := nI_clamp (by omega)
  have hEz : (nI zz).toNatClampNeg = zz := nI_clamp (by omega)
  have hEn : (nI nc).toNatClampNeg = nc := nI_clamp (by omega)
  try simp only [hEt, hEz, hEn] at kk
  obtain ⟨gr, As, hP, hD⟩ := hW
  refine nk_VRI (As := []) (rest := rest) F (mX4_status l D bd cb sd (nI zz) (nI tt) st tr (nI nc) gr P Mn T Wt Rn Po Pl Sp Ks Kp Kc Ik O As Y ) (cwV 0 F.2.2.2.2 gL_law_X4_status rfl rfl rfl (by decide +kernel) ⟨Nat.le_of_ble_eq_true rfl, Nat.le_of_ble_eq_true rfl⟩) hK hP 0 4 rfl rfl rfl rfl hsz rfl hr hdg ⟨by show cells ≤ 726897; omega, by show slots ≤ 6921558; omega⟩ (fun r hw => ?_)
  exact kk _ _ _ hw ⟨_, _, hP, hD⟩ hS
set_option maxHeartbeats 1000000 in
set_option maxRecDepth 100000 in
theorem rM_counted (F : CallFix p m c cL_law 4 s #[Value.ref b] wsL_law RL) (hK : nkK D (tM cb) s) (hI : aI pz tc sc Mn Po Ik Ks Wt) (hW : MA A0 D bd cb Y sd pz tc st tr sc P Mn T Wt Rn Po Pl Sp Ks Kp Kc Ik O H) (hS : va_S A0 s.heap H locs) (hA : ∀ q : Nat, s.heap.size ≤ q → A0 q) (hsz : ls.size = 4) (hr : (rest.map fun v => v.category).sum ≤ 8) (hc : cells + 1 ≤ 726897) (hs : slots + 4 ≤ 6921558) {b0 : Int32} {n0 : Int32} {i0 : Int32} (hdg : decode cL_law pc = .ok (.invokevirtual 116, 3))
    (kk : ∀ (r : Int32) (H1 : Heap) (locs1 : List Loc), r = (mCounted b0 n0 i0) → MA A0 D bd cb Y sd pz tc st tr sc P Mn T Wt Rn Po Pl Sp Ks Kp Kc Ik O H1 → va_S A0 s.heap H1 locs1 → W p l e room_1 s m #[Value.ref b] below meth c H1 locs1 (cells) (slots) Q (F0 m (pc + 3) ls (.int r :: rest))) : W p l e room_1 s m #[Value.ref b] below meth c H locs cells slots Q (F0 m pc ls (.int i0 :: .int n0 :: .int b0 :: .ref (bd 0) :: rest)) := by
  obtain ⟨tt, zz, nc, htt, hzz, hnc, rfl, rfl, rfl, hLn, hPo, hKs, hWt⟩ := hI
  have hEt : (nI tt).toNatClampNeg = tt := nI_clamp (by omega)
  have hEz : (nI zz).toNatClampNeg = zz := nI_clamp (by omega)
  have hEn : (nI nc).toNatClampNeg = nc := nI_clamp (by omega)
  try simp only [hEt, hEz, hEn] at kk
  obtain ⟨gr, As, hP, hD⟩ := hW
  refine nk_VRI (As := [.int b0, .int n0, .int i0]) (rest := rest) F (mX4_counted l D bd cb sd (nI zz) (nI tt) st tr (nI nc) gr P Mn T Wt Rn Po Pl Sp Ks Kp Kc Ik O As Y b0 n0 i0) (cwV 3 F.2.2.2.2 gL_law_X4_counted rfl rfl rfl (by decide +kernel) ⟨Nat.le_of_ble_eq_true rfl, Nat.le_of_ble_eq_true rfl⟩) hK hP 0 4 rfl rfl rfl rfl hsz rfl hr hdg ⟨by show cells ≤ 726897; omega, by show slots ≤ 6921558; omega⟩ (fun r hw => ?_)
  exact kk _ _ _ hw ⟨_, _, hP, hD⟩ hS
set_option maxHeartbeats 1000000 in
set_option maxRecDepth 100000 in
theorem rM_count (F : CallFix p m c cL_law 4 s #[Value.ref b] wsL_law RL) (hK : nkK D (tM cb) s) (hI : aI pz tc sc Mn Po Ik Ks Wt) (hW : MA A0 D bd cb Y sd pz tc st tr sc P Mn T Wt Rn Po Pl Sp Ks Kp Kc Ik O H) (hS : va_S A0 s.heap H locs) (hA : ∀ q : Nat, s.heap.size ≤ q → A0 q) (hsz : ls.size = 4) (hr : (rest.map fun v => v.category).sum ≤ 8) (hc : cells + 1 ≤ 726897) (hs : slots + 4 ≤ 6921558) {x0 : Int32} (hdg : decode cL_law pc = .ok (.invokevirtual 120, 3))
    (kk : ∀ (r : Int32) (H1 : Heap) (locs1 : List Loc), r = (mCount pz sc tc x0) → MA A0 D bd cb Y sd pz tc st tr sc P Mn T Wt Rn Po Pl Sp Ks Kp Kc Ik O H1 → va_S A0 s.heap H1 locs1 → W p l e room_1 s m #[Value.ref b] below meth c H1 locs1 (cells) (slots) Q (F0 m (pc + 3) ls (.int r :: rest))) : W p l e room_1 s m #[Value.ref b] below meth c H locs cells slots Q (F0 m pc ls (.int x0 :: .ref (bd 0) :: rest)) := by
  obtain ⟨tt, zz, nc, htt, hzz, hnc, rfl, rfl, rfl, hLn, hPo, hKs, hWt⟩ := hI
  have hEt : (nI tt).toNatClampNeg = tt := nI_clamp (by omega)
  have hEz : (nI zz).toNatClampNeg = zz := nI_clamp (by omega)
  have hEn : (nI nc).toNatClampNeg = nc := nI_clamp (by omega)
  try simp only [hEt, hEz, hEn] at kk
  obtain ⟨gr, As, hP, hD⟩ := hW
  refine nk_VRI (As := [.int x0]) (rest := rest) F (mX4_count l D bd cb sd (nI zz) (nI tt) st tr (nI nc) gr P Mn T Wt Rn Po Pl Sp Ks Kp Kc Ik O As Y x0) (cwV 1 F.2.2.2.2 gL_law_X4_count rfl rfl rfl (by decide +kernel) ⟨Nat.le_of_ble_eq_true rfl, Nat.le_of_ble_eq_true rfl⟩) hK hP 0 4 rfl rfl rfl rfl hsz rfl hr hdg ⟨by show cells ≤ 726897; omega, by show slots ≤ 6921558; omega⟩ (fun r hw => ?_)
  exact kk _ _ _ hw ⟨_, _, hP, hD⟩ hS
set_option maxHeartbeats 1000000 in
set_option maxRecDepth 100000 in
theorem rM_told (F : CallFix p m c cL_law 4 s #[Value.ref b] wsL_law RL) (hK : nkK D (tM cb) s) (hI : aI pz tc sc Mn Po Ik Ks Wt) (hW : MA A0 D bd cb Y sd pz tc st tr sc P Mn T Wt Rn Po Pl Sp Ks Kp Kc Ik O H) (hS : va_S A0 s.heap H locs) (hA : ∀ q : Nat, s.heap.size ≤ q → A0 q) (hsz : ls.size = 4) (hr : (rest.map fun v => v.category).sum ≤ 8) (hc : cells + 1 ≤ 726897) (hs : slots + 4 ≤ 6921558) {i0 : Int32} {x0 : Int32} (hdg : decode cL_law pc = .ok (.invokevirtual 111, 3))
    (kk : ∀ (r : Int32) (H1 : Heap) (locs1 : List Loc), r = (mTold sc Po Pl Sp i0 x0) → MA A0 D bd cb Y sd pz tc st tr sc P Mn T Wt Rn Po Pl Sp Ks Kp Kc Ik O H1 → va_S A0 s.heap H1 locs1 → W p l e room_1 s m #[Value.ref b] below meth c H1 locs1 (cells) (slots) Q (F0 m (pc + 3) ls (.int r :: rest))) : W p l e room_1 s m #[Value.ref b] below meth c H locs cells slots Q (F0 m pc ls (.int x0 :: .int i0 :: .ref (bd 0) :: rest)) := by
  obtain ⟨tt, zz, nc, htt, hzz, hnc, rfl, rfl, rfl, hLn, hPo, hKs, hWt⟩ := hI
  have hEt : (nI tt).toNatClampNeg = tt := nI_clamp (by omega)
  have hEz : (nI zz).toNatClampNeg = zz := nI_clamp (by omega)
  have hEn : (nI nc).toNatClampNeg = nc := nI_clamp (by omega)
  try simp only [hEt, hEz, hEn] at kk
  obtain ⟨gr, As, hP, hD⟩ := hW
  refine nk_VRI (As := [.int i0, .int x0]) (rest := rest) F (mX4_told l D bd cb sd (nI zz) (nI tt) st tr gr P Mn T Wt Rn Po Pl Sp Ks Kp Kc Ik O As Y nc i0 x0 hnc) (cwV 2 F.2.2.2.2 gL_law_X4_told rfl rfl rfl (by decide +kernel) ⟨Nat.le_of_ble_eq_true rfl, Nat.le_of_ble_eq_true rfl⟩) hK hP 0 4 rfl rfl rfl rfl hsz rfl hr hdg ⟨by show cells ≤ 726897; omega, by show slots ≤ 6921558; omega⟩ (fun r hw => ?_)
  exact kk _ _ _ hw ⟨_, _, hP, hD⟩ hS
set_option maxHeartbeats 1000000 in
set_option maxRecDepth 100000 in
theorem rM_open (F : CallFix p m c cL_law 4 s #[Value.ref b] wsL_law RL) (hK : nkK D (tM cb) s) (hI : aI pz tc sc Mn Po Ik Ks Wt) (hW : MA A0 D bd cb Y sd pz tc st tr sc P Mn T Wt Rn Po Pl Sp Ks Kp Kc Ik O H) (hS : va_S A0 s.heap H locs) (hA : ∀ q : Nat, s.heap.size ≤ q → A0 q) (hsz : ls.size = 4) (hr : (rest.map fun v => v.category).sum ≤ 8) (hc : cells + 1 ≤ 726897) (hs : slots + 4 ≤ 6921558) {r0 : Int64} {p0 : Int32} (hdg : decode cL_law pc = .ok (.invokevirtual 80, 3))
    (kk : ∀ (r : Int32) (H1 : Heap) (locs1 : List Loc), r = (mOpen pz sc Rn Po Pl Sp r0 p0).1 → MA A0 D bd cb Y sd pz tc st tr ((mOpen pz sc Rn Po Pl Sp r0 p0).2.1) P Mn T Wt ((mOpen pz sc Rn Po Pl Sp r0 p0).2.2.1) ((mOpen pz sc Rn Po Pl Sp r0 p0).2.2.2.1) ((mOpen pz sc Rn Po Pl Sp r0 p0).2.2.2.2.1) ((mOpen pz sc Rn Po Pl Sp r0 p0).2.2.2.2.2) Ks Kp Kc Ik O H1 → va_S A0 s.heap H1 locs1 → W p l e room_1 s m #[Value.ref b] below meth c H1 locs1 (cells) (slots) Q (F0 m (pc + 3) ls (.int r :: rest))) : W p l e room_1 s m #[Value.ref b] below meth c H locs cells slots Q (F0 m pc ls (.int p0 :: .long r0 :: .ref (bd 0) :: rest)) := by
  obtain ⟨tt, zz, nc, htt, hzz, hnc, rfl, rfl, rfl, hLn, hPo, hKs, hWt⟩ := hI
  have hEt : (nI tt).toNatClampNeg = tt := nI_clamp (by omega)
  have hEz : (nI zz).toNatClampNeg = zz := nI_clamp (by omega)
  have hEn : (nI nc).toNatClampNeg = nc := nI_clamp (by omega)
  try simp only [hEt, hEz, hEn] at kk
  obtain ⟨gr, As, hP, hD⟩ := hW
  refine nk_VI (As := [.long r0, .int p0]) (rest := rest) F (mX4_open l D bd cb sd (nI zz) (nI tt) st tr gr P Mn T Wt Rn Po Pl Sp Ks Kp Kc Ik O As Y nc r0 p0 hnc) (cwV 2 F.2.2.2.2 gL_law_X4_open rfl rfl rfl (by decide +kernel) ⟨Nat.le_of_ble_eq_true rfl, Nat.le_of_ble_eq_true rfl⟩) hK hP hD hS hA 0 4 rfl rfl rfl rfl hsz rfl hr hdg ⟨by show cells + 0 ≤ 726897; omega, by show slots + 0 ≤ 6921558; omega⟩ (fun r u H locs hw hP hD hS => ?_)
  obtain rfl : r = (mOpen (nI zz) (nI nc) Rn Po Pl Sp r0 p0).1 := by rw [hw]
  obtain rfl : u = (mOpen (nI zz) (nI nc) Rn Po Pl Sp r0 p0).2 := by rw [hw]
  exact kk _ _ _ rfl ⟨_, _, hP, hD⟩ hS
set_option maxHeartbeats 1000000 in
set_option maxRecDepth 100000 in
theorem rM_next (F : CallFix p m c cL_law 4 s #[Value.ref b] wsL_law RL) (hK : nkK D (tM cb) s) (hI : aI pz tc sc Mn Po Ik Ks Wt) (hW : MA A0 D bd cb Y sd pz tc st tr sc P Mn T Wt Rn Po Pl Sp Ks Kp Kc Ik O H) (hS : va_S A0 s.heap H locs) (hA : ∀ q : Nat, s.heap.size ≤ q → A0 q) (hsz : ls.size = 4) (hr : (rest.map fun v => v.category).sum ≤ 8) (hc : cells + 1 ≤ 726897) (hs : slots + 4 ≤ 6921558) {i0 : Int32} {n0 : Int64} (hdg : decode cL_law pc = .ok (.invokevirtual 85, 3))
    (kk : ∀ (r : Int64) (H1 : Heap) (locs1 : List Loc), r = (mNext sd P Mn sc Rn Po Pl i0 n0 tr).1 → MA A0 D bd cb Y sd pz tc st ((mNext sd P Mn sc Rn Po Pl i0 n0 tr).2.1) sc P Mn T Wt Rn Po ((mNext sd P Mn sc Rn Po Pl i0 n0 tr).2.2) Sp Ks Kp Kc Ik O H1 → va_S A0 s.heap H1 locs1 → W p l e room_1 s m #[Value.ref b] below meth c H1 locs1 (cells) (slots) Q (F0 m (pc + 3) ls (.long r :: rest))) : W p l e room_1 s m #[Value.ref b] below meth c H locs cells slots Q (F0 m pc ls (.long n0 :: .int i0 :: .ref (bd 0) :: rest)) := by
  obtain ⟨tt, zz, nc, htt, hzz, hnc, rfl, rfl, rfl, hLn, hPo, hKs, hWt⟩ := hI
  have hEt : (nI tt).toNatClampNeg = tt := nI_clamp (by omega)
  have hEz : (nI zz).toNatClampNeg = zz := nI_clamp (by omega)
  have hEn : (nI nc).toNatClampNeg = nc := nI_clamp (by omega)
  try simp only [hEt, hEz, hEn] at kk
  obtain ⟨gr, As, hP, hD⟩ := hW
  refine nk_VL (As := [.int i0, .long n0]) (rest := rest) F (mX4_next l D bd cb sd (nI zz) (nI tt) st tr gr P Mn T Wt Rn Po Pl Sp Ks Kp Kc Ik O As Y nc i0 n0 hnc (mWs2 hnc hzz hLn hPo)) (cwV 2 F.2.2.2.2 gL_law_X4_next rfl rfl rfl (by decide +kernel) ⟨Nat.le_of_ble_eq_true rfl, Nat.le_of_ble_eq_true rfl⟩) hK hP hD hS hA 0 4 rfl rfl rfl rfl hsz rfl hr hdg ⟨by show cells + 0 ≤ 726897; omega, by show slots + 0 ≤ 6921558; omega⟩ (fun r u H locs hw hP hD hS => ?_)
  obtain rfl : r = (mNext sd P Mn (nI nc) Rn Po Pl i0 n0 tr).1 := by rw [hw]
  obtain rfl : u = (mNext sd P Mn (nI nc) Rn Po Pl i0 n0 tr).2 := by rw [hw]
  exact kk _ _ _ rfl ⟨_, _, hP, hD⟩ hS
set_option maxHeartbeats 1000000 in
set_option maxRecDepth 100000 in
theorem rM_nextPick (F : CallFix p m c cL_law 4 s #[Value.ref b] wsL_law RL) (hK : nkK D (tM cb) s) (hI : aI pz tc sc Mn Po Ik Ks Wt) (hW : MA A0 D bd cb Y sd pz tc st tr sc P Mn T Wt Rn Po Pl Sp Ks Kp Kc Ik O H) (hS : va_S A0 s.heap H locs) (hA : ∀ q : Nat, s.heap.size ≤ q → A0 q) (hsz : ls.size = 4) (hr : (rest.map fun v => v.category).sum ≤ 8) (hc : cells + 1 ≤ 726897) (hs : slots + 4 ≤ 6921558) {i0 : Int32} (hdg : decode cL_law pc = .ok (.invokevirtual 90, 3))
    (kk : ∀ (r : Int32) (H1 : Heap) (locs1 : List Loc), r = (mNPick sd P Mn sc Wt Rn Po Pl i0 tr 0).1 → MA A0 D bd cb Y sd pz tc st ((mNPick sd P Mn sc Wt Rn Po Pl i0 tr 0).2.1) sc P Mn T Wt Rn Po ((mNPick sd P Mn sc Wt Rn Po Pl i0 tr 0).2.2.2) Sp Ks Kp Kc Ik O H1 → va_S A0 s.heap H1 locs1 → W p l e room_1 s m #[Value.ref b] below meth c H1 locs1 (cells) (slots) Q (F0 m (pc + 3) ls (.int r :: rest))) : W p l e room_1 s m #[Value.ref b] below meth c H locs cells slots Q (F0 m pc ls (.int i0 :: .ref (bd 0) :: rest)) := by
  obtain ⟨tt, zz, nc, htt, hzz, hnc, rfl, rfl, rfl, hLn, hPo, hKs, hWt⟩ := hI
  have hEt : (nI tt).toNatClampNeg = tt := nI_clamp (by omega)
  have hEz : (nI zz).toNatClampNeg = zz := nI_clamp (by omega)
  have hEn : (nI nc).toNatClampNeg = nc := nI_clamp (by omega)
  try simp only [hEt, hEz, hEn] at kk
  obtain ⟨gr, As, hP, hD⟩ := hW
  refine nk_VI (As := [.int i0]) (rest := rest) F (mX4_nextPick l D bd cb sd (nI zz) (nI tt) st tr gr P Mn T Wt Rn Po Pl Sp Ks Kp Kc Ik O As Y nc i0 hnc (mWs2 hnc hzz hLn hPo)) (cwV 1 F.2.2.2.2 gL_law_X4_nextPick rfl rfl rfl (by decide +kernel) ⟨Nat.le_of_ble_eq_true rfl, Nat.le_of_ble_eq_true rfl⟩) hK hP hD hS hA 0 4 rfl rfl rfl rfl hsz rfl hr hdg ⟨by show cells + 0 ≤ 726897; omega, by show slots + 0 ≤ 6921558; omega⟩ (fun r u H locs hw hP hD hS => ?_)
  obtain ⟨hg1, hg2, hg3⟩ := mNPick_gr sd P Mn (nI nc) Wt Rn Po Pl i0 tr gr
  rw [hw] at hg1 hg2 hg3
  obtain ⟨u1, u2, u3⟩ := u
  have hg1 : r = (mNPick sd P Mn (nI nc) Wt Rn Po Pl i0 tr 0).1 := hg1
  have hg2 : u1 = (mNPick sd P Mn (nI nc) Wt Rn Po Pl i0 tr 0).2.1 := hg2
  have hg3 : u3 = (mNPick sd P Mn (nI nc) Wt Rn Po Pl i0 tr 0).2.2.2 := hg3
  subst hg1
  subst hg2
  subst hg3
  exact kk _ _ _ rfl ⟨_, _, hP, hD⟩ hS
set_option maxHeartbeats 1000000 in
set_option maxRecDepth 100000 in
theorem rM_skip (F : CallFix p m c cL_law 4 s #[Value.ref b] wsL_law RL) (hK : nkK D (tM cb) s) (hI : aI pz tc sc Mn Po Ik Ks Wt) (hW : MA A0 D bd cb Y sd pz tc st tr sc P Mn T Wt Rn Po Pl Sp Ks Kp Kc Ik O H) (hS : va_S A0 s.heap H locs) (hA : ∀ q : Nat, s.heap.size ≤ q → A0 q) (hsz : ls.size = 4) (hr : (rest.map fun v => v.category).sum ≤ 8) (hc : cells + 1 ≤ 726897) (hs : slots + 4 ≤ 6921558) {i0 : Int32} {n0 : Int32} (hdg : decode cL_law pc = .ok (.invokevirtual 99, 3))
    (kk : ∀ (r : Int32) (H1 : Heap) (locs1 : List Loc), r = (mSkip sc Pl i0 n0).1 → MA A0 D bd cb Y sd pz tc st tr sc P Mn T Wt Rn Po ((mSkip sc Pl i0 n0).2) Sp Ks Kp Kc Ik O H1 → va_S A0 s.heap H1 locs1 → W p l e room_1 s m #[Value.ref b] below meth c H1 locs1 (cells) (slots) Q (F0 m (pc + 3) ls (.int r :: rest))) : W p l e room_1 s m #[Value.ref b] below meth c H locs cells slots Q (F0 m pc ls (.int n0 :: .int i0 :: .ref (bd 0) :: rest)) := by
  obtain ⟨tt, zz, nc, htt, hzz, hnc, rfl, rfl, rfl, hLn, hPo, hKs, hWt⟩ := hI
  have hEt : (nI tt).toNatClampNeg = tt := nI_clamp (by omega)
  have hEz : (nI zz).toNatClampNeg = zz := nI_clamp (by omega)
  have hEn : (nI nc).toNatClampNeg = nc := nI_clamp (by omega)
  try simp only [hEt, hEz, hEn] at kk
  obtain ⟨gr, As, hP, hD⟩ := hW
  refine nk_VI (As := [.int i0, .int n0]) (rest := rest) F (mX4_skip l D bd cb sd (nI zz) (nI tt) st tr gr P Mn T Wt Rn Po Pl Sp Ks Kp Kc Ik O As Y nc i0 n0 hnc) (cwV 2 F.2.2.2.2 gL_law_X4_skip rfl rfl rfl (by decide +kernel) ⟨Nat.le_of_ble_eq_true rfl, Nat.le_of_ble_eq_true rfl⟩) hK hP hD hS hA 0 4 rfl rfl rfl rfl hsz rfl hr hdg ⟨by show cells + 0 ≤ 726897; omega, by show slots + 0 ≤ 6921558; omega⟩ (fun r u H locs hw hP hD hS => ?_)
  obtain rfl : r = (mSkip (nI nc) Pl i0 n0).1 := by rw [hw]
  obtain rfl : u = (mSkip (nI nc) Pl i0 n0).2 := by rw [hw]
  exact kk _ _ _ rfl ⟨_, _, hP, hD⟩ hS
set_option maxHeartbeats 1000000 in
set_option maxRecDepth 100000 in
theorem rM_keep (F : CallFix p m c cL_law 4 s #[Value.ref b] wsL_law RL) (hK : nkK D (tM cb) s) (hI : aI pz tc sc Mn Po Ik Ks Wt) (hW : MA A0 D bd cb Y sd pz tc st tr sc P Mn T Wt Rn Po Pl Sp Ks Kp Kc Ik O H) (hS : va_S A0 s.heap H locs) (hA : ∀ q : Nat, s.heap.size ≤ q → A0 q) (hsz : ls.size = 4) (hr : (rest.map fun v => v.category).sum ≤ 8) (hc : cells + 1 ≤ 726897) (hs : slots + 4 ≤ 6921558) {k0 : Int32} {i0 : Int32} (hdg : decode cL_law pc = .ok (.invokevirtual 103, 3))
    (kk : ∀ (r : Int32) (H1 : Heap) (locs1 : List Loc), r = (mKeep sc Pl Sp Ik Ks Kp Kc k0 i0).1 → MA A0 D bd cb Y sd pz tc st tr sc P Mn T Wt Rn Po Pl Sp ((mKeep sc Pl Sp Ik Ks Kp Kc k0 i0).2.2.1) ((mKeep sc Pl Sp Ik Ks Kp Kc k0 i0).2.2.2.1) ((mKeep sc Pl Sp Ik Ks Kp Kc k0 i0).2.2.2.2) ((mKeep sc Pl Sp Ik Ks Kp Kc k0 i0).2.1) O H1 → va_S A0 s.heap H1 locs1 → W p l e room_1 s m #[Value.ref b] below meth c H1 locs1 (cells) (slots) Q (F0 m (pc + 3) ls (.int r :: rest))) : W p l e room_1 s m #[Value.ref b] below meth c H locs cells slots Q (F0 m pc ls (.int i0 :: .int k0 :: .ref (bd 0) :: rest)) := by
  obtain ⟨tt, zz, nc, htt, hzz, hnc, rfl, rfl, rfl, hLn, hPo, hKs, hWt⟩ := hI
  have hEt : (nI tt).toNatClampNeg = tt := nI_clamp (by omega)
  have hEz : (nI zz).toNatClampNeg = zz := nI_clamp (by omega)
  have hEn : (nI nc).toNatClampNeg = nc := nI_clamp (by omega)
  try simp only [hEt, hEz, hEn] at kk
  obtain ⟨gr, As, hP, hD⟩ := hW
  refine nk_VI (As := [.int k0, .int i0]) (rest := rest) F (mX4_keep l D bd cb sd (nI zz) (nI tt) st tr gr P Mn T Wt Rn Po Pl Sp Ks Kp Kc Ik O As Y nc k0 i0 hnc) (cwV 2 F.2.2.2.2 gL_law_X4_keep rfl rfl rfl (by decide +kernel) ⟨Nat.le_of_ble_eq_true rfl, Nat.le_of_ble_eq_true rfl⟩) hK hP hD hS hA 0 4 rfl rfl rfl rfl hsz rfl hr hdg ⟨by show cells + 0 ≤ 726897; omega, by show slots + 0 ≤ 6921558; omega⟩ (fun r u H locs hw hP hD hS => ?_)
  obtain rfl : r = (mKeep (nI nc) Pl Sp Ik Ks Kp Kc k0 i0).1 := by rw [hw]
  obtain rfl : u = (mKeep (nI nc) Pl Sp Ik Ks Kp Kc k0 i0).2 := by rw [hw]
  exact kk _ _ _ rfl ⟨_, _, hP, hD⟩ hS
set_option maxHeartbeats 1000000 in
set_option maxRecDepth 100000 in
theorem rM_back (F : CallFix p m c cL_law 4 s #[Value.ref b] wsL_law RL) (hK : nkK D (tM cb) s) (hI : aI pz tc sc Mn Po Ik Ks Wt) (hW : MA A0 D bd cb Y sd pz tc st tr sc P Mn T Wt Rn Po Pl Sp Ks Kp Kc Ik O H) (hS : va_S A0 s.heap H locs) (hA : ∀ q : Nat, s.heap.size ≤ q → A0 q) (hsz : ls.size = 4) (hr : (rest.map fun v => v.category).sum ≤ 8) (hc : cells + 1 ≤ 726897) (hs : slots + 4 ≤ 6921558) {k0 : Int32} (hdg : decode cL_law pc = .ok (.invokevirtual 107, 3))
    (kk : ∀ (r : Int32) (H1 : Heap) (locs1 : List Loc), r = (mBack Pl Sp Ik Ks Kp Kc k0).1 → MA A0 D bd cb Y sd pz tc st tr sc P Mn T Wt Rn Po ((mBack Pl Sp Ik Ks Kp Kc k0).2.1) ((mBack Pl Sp Ik Ks Kp Kc k0).2.2) Ks Kp Kc Ik O H1 → va_S A0 s.heap H1 locs1 → W p l e room_1 s m #[Value.ref b] below meth c H1 locs1 (cells) (slots) Q (F0 m (pc + 3) ls (.int r :: rest))) : W p l e room_1 s m #[Value.ref b] below meth c H locs cells slots Q (F0 m pc ls (.int k0 :: .ref (bd 0) :: rest)) := by
  obtain ⟨tt, zz, nc, htt, hzz, hnc, rfl, rfl, rfl, hLn, hPo, hKs, hWt⟩ := hI
  have hEt : (nI tt).toNatClampNeg = tt := nI_clamp (by omega)
  have hEz : (nI zz).toNatClampNeg = zz := nI_clamp (by omega)
  have hEn : (nI nc).toNatClampNeg = nc := nI_clamp (by omega)
  try simp only [hEt, hEz, hEn] at kk
  obtain ⟨gr, As, hP, hD⟩ := hW
  refine nk_VI (As := [.int k0]) (rest := rest) F (mX4_back l D bd cb sd (nI zz) (nI tt) st tr (nI nc) gr P Mn T Wt Rn Po Pl Sp Ks Kp Kc Ik O As Y k0 (mKs_in hnc hKs)) (cwV 1 F.2.2.2.2 gL_law_X4_back rfl rfl rfl (by decide +kernel) ⟨Nat.le_of_ble_eq_true rfl, Nat.le_of_ble_eq_true rfl⟩) hK hP hD hS hA 0 4 rfl rfl rfl rfl hsz rfl hr hdg ⟨by show cells + 0 ≤ 726897; omega, by show slots + 0 ≤ 6921558; omega⟩ (fun r u H locs hw hP hD hS => ?_)
  obtain rfl : r = (mBack Pl Sp Ik Ks Kp Kc k0).1 := by rw [hw]
  obtain rfl : u = (mBack Pl Sp Ik Ks Kp Kc k0).2 := by rw [hw]
  exact kk _ _ _ rfl ⟨_, _, hP, hD⟩ hS
set_option maxHeartbeats 1000000 in
set_option maxRecDepth 100000 in
theorem rM_split (F : CallFix p m c cL_law 4 s #[Value.ref b] wsL_law RL) (hK : nkK D (tM cb) s) (hI : aI pz tc sc Mn Po Ik Ks Wt) (hW : MA A0 D bd cb Y sd pz tc st tr sc P Mn T Wt Rn Po Pl Sp Ks Kp Kc Ik O H) (hS : va_S A0 s.heap H locs) (hA : ∀ q : Nat, s.heap.size ≤ q → A0 q) (hsz : ls.size = 4) (hr : (rest.map fun v => v.category).sum ≤ 8) (hc : cells + 1 ≤ 726897) (hs : slots + 4 ≤ 6921558) {i0 : Int32} (hdg : decode cL_law pc = .ok (.invokevirtual 94, 3))
    (kk : ∀ (r : Int32) (H1 : Heap) (locs1 : List Loc), r = (mSplitA P Mn Rn Po Pl Sp sc.toNatClampNeg pz.toNatClampNeg i0).1 → MA A0 D bd cb Y sd ((mSplitA P Mn Rn Po Pl Sp sc.toNatClampNeg pz.toNatClampNeg i0).2.2.2.1) tc st tr ((mSplitA P Mn Rn Po Pl Sp sc.toNatClampNeg pz.toNatClampNeg i0).2.2.2.2.1) ((mSplitA P Mn Rn Po Pl Sp sc.toNatClampNeg pz.toNatClampNeg i0).2.1) ((mSplitA P Mn Rn Po Pl Sp sc.toNatClampNeg pz.toNatClampNeg i0).2.2.1) T Wt ((mSplitA P Mn Rn Po Pl Sp sc.toNatClampNeg pz.toNatClampNeg i0).2.2.2.2.2.1) ((mSplitA P Mn Rn Po Pl Sp sc.toNatClampNeg pz.toNatClampNeg i0).2.2.2.2.2.2.1) ((mSplitA P Mn Rn Po Pl Sp sc.toNatClampNeg pz.toNatClampNeg i0).2.2.2.2.2.2.2.1) ((mSplitA P Mn Rn Po Pl Sp sc.toNatClampNeg pz.toNatClampNeg i0).2.2.2.2.2.2.2.2) Ks Kp Kc Ik O H1 → va_S A0 s.heap H1 locs1 → W p l e room_1 s m #[Value.ref b] below meth c H1 locs1 (cells) (slots) Q (F0 m (pc + 3) ls (.int r :: rest))) : W p l e room_1 s m #[Value.ref b] below meth c H locs cells slots Q (F0 m pc ls (.int i0 :: .ref (bd 0) :: rest)) := by
  obtain ⟨tt, zz, nc, htt, hzz, hnc, rfl, rfl, rfl, hLn, hPo, hKs, hWt⟩ := hI
  have hEt : (nI tt).toNatClampNeg = tt := nI_clamp (by omega)
  have hEz : (nI zz).toNatClampNeg = zz := nI_clamp (by omega)
  have hEn : (nI nc).toNatClampNeg = nc := nI_clamp (by omega)
  try simp only [hEt, hEz, hEn] at kk
  obtain ⟨gr, As, hP, hD⟩ := hW
  by_cases hI : mIs (nI nc) i0 = 0
  · skip
    rw [split_N hI] at kk
    refine nk_VI (As := [.int i0]) (rest := rest) F (mX4_split_N l D bd cb sd (nI zz) (nI tt) st tr gr P Mn T Wt Rn Po Pl Sp Ks Kp Kc Ik O As Y nc i0 hI) (cwV 1 F.2.2.2.2 gL_law_X4_split rfl rfl rfl (by decide +kernel) ⟨Nat.le_of_ble_eq_true rfl, Nat.le_of_ble_eq_true rfl⟩) hK hP hD hS hA 0 4 rfl rfl rfl rfl hsz rfl hr hdg ⟨by show cells + 0 ≤ 726897; omega, by show slots + 0 ≤ 6921558; omega⟩ (fun r u H locs hw hP hD hS => ?_)
    exact kk _ _ _ hw ⟨_, _, hP, hD⟩ hS
  · skip
    obtain ⟨j, pp, ll, hj, rfl, hpp, hPp, hl1, hl0⟩ := mWs hnc hzz hLn hPo hI
    by_cases hF : nI nc = 8 ∨ Mn (nI pp).toNatClampNeg = 4
    · skip
      rw [split_F hI hPp hF] at kk
      refine nk_VI (As := [.int (nI j)]) (rest := rest) F (mX4_split_F l D bd cb sd (nI zz) (nI tt) st tr gr P Mn T Wt Rn Po Pl Sp Ks Kp Kc Ik O As Y nc pp (nI j) hnc hI hPp (by omega) hF) (cwV 1 F.2.2.2.2 gL_law_X4_split rfl rfl rfl (by decide +kernel) ⟨Nat.le_of_ble_eq_true rfl, Nat.le_of_ble_eq_true rfl⟩) hK hP hD hS hA 0 4 rfl rfl rfl rfl hsz rfl hr hdg ⟨by show cells + 0 ≤ 726897; omega, by show slots + 0 ≤ 6921558; omega⟩ (fun r u H locs hw hP hD hS => ?_)
      exact kk _ _ _ hw ⟨_, _, hP, hD⟩ hS
    · skip
      have hn8 := ns_neLt (n := 8) (fun h => hF (Or.inl h)) rfl hnc (by decide)
      have hl4 : ll < 4 := ns_neLt (n := 4) (fun h => hF (Or.inr (by rw [hl0]; exact h))) rfl hl1 (by decide)
      have hPj : Po j = nI pp := by rw [nI_clamp (by omega)] at hPp; exact hPp
      have hlj : Mn pp = nI ll := by rw [nI_clamp (by omega)] at hl0; exact hl0
      rw [split_B hI hn8 hj hPj (by omega) hlj hl4] at kk
      refine nk_VI (As := [.int (nI j)]) (rest := rest) F (mX4_split_M l D bd cb sd st tr gr P Mn T Wt Rn Po Pl Sp Ks Kp Kc Ik O As Y nc zz tt pp ll (nI j) hn8 hzz htt hI hPp (by omega) hl0 hl4) (cwV 1 F.2.2.2.2 gL_law_X4_split rfl rfl rfl (by decide +kernel) ⟨Nat.le_of_ble_eq_true rfl, Nat.le_of_ble_eq_true rfl⟩) hK hP hD hS hA 0 4 rfl rfl rfl rfl hsz rfl hr hdg ⟨by show cells + 0 ≤ 726897; omega, by show slots + 0 ≤ 6921558; omega⟩ (fun r u H locs hw hP hD hS => ?_)
      rw [mSplit_eq hn8 hj hl4] at hw
      obtain ⟨rfl, rfl⟩ := Prod.mk.inj hw
      exact kk _ _ _ rfl ⟨_, _, hP, hD⟩ hS
end RELS
