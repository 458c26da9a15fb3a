theorem ns_inL {i L k : Nat} (h : 10 + 9 * i ≤ L) (hk : k ≤ 8) (hL : L ≤ 4609) : vp_in (nI (1 + 9 * i) + nI k) L := by
  rw [nI_add]
  exact vp_in_nI (by omega) (by omega)
theorem lw_more {i L : Nat} (hi : i ≤ 512) (hL : L ≤ 4609) (c : ¬ Int32.ofNat L - 9 < nI (1 + 9 * i)) : 10 + 9 * i ≤ L := by
  have e : (Int32.ofNat L - 9).toInt = (L : Int) - 9 := pk_sub_toInt (a := L) (b := 9) (by omega) (by decide)
  rw [Int32.lt_iff_toInt_lt, e, nI_toInt (by omega)] at c
  omega
theorem LR_0 {A : Nat → Prop} {D : va_G} {ad bd : Nat → Nat} {ca cb : Nat → ClassId} {H : Heap} {x : Int64} (hP : va_P D vwCl (wC ad ca x 0 0 0 0 0 (fun _ => 0) (fun _ => 0) (fun _ => 0) (fun _ => none) (fun _ => none) (fun _ => 0) (fun _ => 0) (fun _ => 0) (fun _ => 0) [] ++ wM bd cb x 0 0 0 0 0 0 (fun _ => 0) (fun _ => 0) (fun _ => 0) (fun _ => 0) (fun _ => 0) (fun _ => 0) (fun _ => 0) (fun _ => 0) (fun _ => 0) (fun _ => 0) (fun _ => 0) (fun _ => 0) (fun _ => 0) (fun _ => 0) []) H)
    (hD : va_D A (wC ad ca x 0 0 0 0 0 (fun _ => 0) (fun _ => 0) (fun _ => 0) (fun _ => none) (fun _ => none) (fun _ => 0) (fun _ => 0) (fun _ => 0) (fun _ => 0) [] ++ wM bd cb x 0 0 0 0 0 0 (fun _ => 0) (fun _ => 0) (fun _ => 0) (fun _ => 0) (fun _ => 0) (fun _ => 0) (fun _ => 0) (fun _ => 0) (fun _ => 0) (fun _ => 0) (fun _ => 0) (fun _ => 0) (fun _ => 0) (fun _ => 0) [])) : LR A D ad ca bd cb H :=
  ⟨x, 0, 0, 0, 0, 0, fun _ => 0, fun _ => 0, fun _ => 0, fun _ => 0, fun _ => 0, fun _ => 0, fun _ => 0, fun _ => 0, fun _ => 0, fun _ => 0, fun _ => 0, fun _ => 0, fun _ => 0, 0, fun _ => 0, ⟨0, 0, 0, by decide, by decide, by decide, rfl, rfl, rfl, fun p h => absurd h (Nat.not_lt_zero p), fun p h => absurd h (Nat.not_lt_zero p), fun k _ => Or.inl rfl, fun k _ => (by decide : (0 : Int64) ≤ 0)⟩,
   ⟨fun _ => none, fun _ => none, fun _ => 0, fun _ => 0, [], fun _ => eKp 0 0 0, fun p h => absurd h (Nat.not_lt_zero p), ⟨fun p h => absurd h (Nat.not_lt_zero p), fun p _ h => absurd h (Nat.not_lt_zero p)⟩, ⟨fun k _ => Or.inl ⟨rfl, rfl⟩, fun _ _ _ _ _ => Or.inl rfl⟩, hP, hD⟩⟩
theorem ns_out21 {z : Int32} (h0 : ¬ z = 0) (h1 : ¬ z = 1) (h2 : ¬ z = 2) (h3 : ¬ z = 3) (h4 : ¬ z = 4) (h5 : ¬ z = 5) (h6 : ¬ z = 6) (h7 : ¬ z = 7) (h8 : ¬ z = 8) (h9 : ¬ z = 9) (h10 : ¬ z = 10) (h11 : ¬ z = 11) (h12 : ¬ z = 12) (h13 : ¬ z = 13) (h14 : ¬ z = 14) (h15 : ¬ z = 15) (h16 : ¬ z = 16) (h17 : ¬ z = 17) (h18 : ¬ z = 18) (h19 : ¬ z = 19) (h20 : ¬ z = 20) : z.toInt < 0 ∨ 20 < z.toInt := by
  have a0 := lv_neT h0 (a := 0) rfl
  have a1 := lv_neT h1 (a := 1) rfl
  have a2 := lv_neT h2 (a := 2) rfl
  have a3 := lv_neT h3 (a := 3) rfl
  have a4 := lv_neT h4 (a := 4) rfl
  have a5 := lv_neT h5 (a := 5) rfl
  have a6 := lv_neT h6 (a := 6) rfl
  have a7 := lv_neT h7 (a := 7) rfl
  have a8 := lv_neT h8 (a := 8) rfl
  have a9 := lv_neT h9 (a := 9) rfl
  have a10 := lv_neT h10 (a := 10) rfl
  have a11 := lv_neT h11 (a := 11) rfl
  have a12 := lv_neT h12 (a := 12) rfl
  have a13 := lv_neT h13 (a := 13) rfl
  have a14 := lv_neT h14 (a := 14) rfl
  have a15 := lv_neT h15 (a := 15) rfl
  have a16 := lv_neT h16 (a := 16) rfl
  have a17 := lv_neT h17 (a := 17) rfl
  have a18 := lv_neT h18 (a := 18) rfl
  have a19 := lv_neT h19 (a := 19) rfl
  have a20 := lv_neT h20 (a := 20) rfl
  omega
section LC1
variable {p : Program} {l : Launch} {e : Env} {s : State} {m : MethodId} {below : List Frame} {meth : Method} {c : Code} {b : Nat} {Q : State → Prop} {H : Heap} {locs : List Loc} {cells slots : Nat} {ls : Array Slot} {D : va_G} {ad bd : Nat → Nat} {ca cb : Nat → ClassId} {A0 : Nat → Prop} {L i : Nat} {xs : Nat → Int32}
set_option maxHeartbeats 1000000 in
set_option maxRecDepth 100000 in
theorem lc_0 (F : CallFix p m c cL_law 4 s #[Value.ref b] wsL_law RL) (k21 : (Cond.constantLong RL 21 (4294967295)).before #[Value.ref b] s = true) (hKc : nkK D (tC ca) s) (hKm : nkK D (tM cb) s) (hX : va_X b L xs s s.heap) (hbl : b < s.heap.size) (hbA : ¬ A0 b) (hi : 10 + 9 * i ≤ L) (hL : L ≤ 4609) (hLR : LR A0 D ad ca bd cb H) (hS : va_S A0 s.heap H locs) (hA : ∀ q : Nat, s.heap.size ≤ q → A0 q) (hl : lv_has ls 4 [(0, .ref b), (1, .ref (ad 0)), (2, .ref (bd 0)), (3, .int (nI (1 + 9 * i)))]) (hc : cells + 1 ≤ 726897) (hs : slots + 4 ≤ 6921558) (hc2 : cells + 1 + 1 ≤ 726897) (hs2 : slots + 4 + 4 ≤ 6921558)
    (kk : ∀ (H1 : Heap) (locs1 : List Loc), LR A0 D ad ca bd cb H1 → va_S A0 s.heap H1 locs1 → W p l e room_1 s m #[Value.ref b] below meth c H1 locs1 (cells + 1) (slots + 4) Q (F0 m 1227 ls [])) : W p l e room_1 s m #[Value.ref b] below meth c H locs cells slots Q (F0 m 144 ls []) := by
  obtain ⟨hx, hb, hml, hown, hts⟩ := id F
  refine lv_aload_n hx hb dL_law_144 rfl (lv_at hl 1 rfl) ?_
  refine lv_aload_n hx hb dL_law_145 rfl (lv_at hl 0 rfl) ?_
  refine lv_iload_n hx hb dL_law_146 rfl (lv_at hl 3 rfl) ?_
  refine lv_iconst (v := 1) hx hb dL_law_147 (by decide) ?_
  refine lv_iadd hx hb dL_law_148 ?_
  refine va_sld hx hb hX hbl hbA hS (ns_inL (k := 1) hi (by decide) hL) dL_law_149 ?_
  refine lv_i2l hx hb dL_law_150 rfl ?_
  refine lv_bipush (v := 32) hx hb dL_law_151 (by decide) ?_
  refine lv_lshl hx hb dL_law_153 rfl ?_
  refine lv_aload_n hx hb dL_law_154 rfl (lv_at hl 0 rfl) ?_
  refine lv_iload_n hx hb dL_law_155 rfl (lv_at hl 3 rfl) ?_
  refine lv_iconst (v := 2) hx hb dL_law_156 (by decide) ?_
  refine lv_iadd hx hb dL_law_157 ?_
  refine va_sld hx hb hX hbl hbA hS (ns_inL (k := 2) hi (by decide) hL) dL_law_158 ?_
  refine lv_i2l hx hb dL_law_159 rfl ?_
  refine lv_ldc2 hx hb hown k21 dL_law_160 ?_
  refine lv_land hx hb dL_law_163 ?_
  refine lv_lor hx hb dL_law_164 ?_
  obtain ⟨sd, pz, tc, st, tr, sc, P, Mn, T, Wt, Rn, Po, Pl, Sp, Ks, Kp, Kc, Ik, O, gr, As, hI, hC⟩ := hLR
  refine rC_part F hKc hI hC hS hA hl.1 (Nat.le_of_ble_eq_true rfl) hc hs dL_law_165 (fun r165 H locs hr165 hC hS => ?_)
  obtain ⟨Y, hM, bk⟩ := CA_m hC
  refine lv_pop hx hb dL_law_168 rfl ?_
  refine lv_aload_n hx hb dL_law_169 rfl (lv_at hl 2 rfl) ?_
  refine lv_aload_n hx hb dL_law_170 rfl (lv_at hl 0 rfl) ?_
  refine lv_iload_n hx hb dL_law_171 rfl (lv_at hl 3 rfl) ?_
  refine lv_iconst (v := 1) hx hb dL_law_172 (by decide) ?_
  refine lv_iadd hx hb dL_law_173 ?_
  refine va_sld hx hb hX hbl hbA hS (ns_inL (k := 1) hi (by decide) hL) dL_law_174 ?_
  refine lv_i2l hx hb dL_law_175 rfl ?_
  refine lv_bipush (v := 32) hx hb dL_law_176 (by decide) ?_
  refine lv_lshl hx hb dL_law_178 rfl ?_
  refine lv_aload_n hx hb dL_law_179 rfl (lv_at hl 0 rfl) ?_
  refine lv_iload_n hx hb dL_law_180 rfl (lv_at hl 3 rfl) ?_
  refine lv_iconst (v := 2) hx hb dL_law_181 (by decide) ?_
  refine lv_iadd hx hb dL_law_182 ?_
  refine va_sld hx hb hX hbl hbA hS (ns_inL (k := 2) hi (by decide) hL) dL_law_183 ?_
  refine lv_i2l hx hb dL_law_184 rfl ?_
  refine lv_ldc2 hx hb hown k21 dL_law_185 ?_
  refine lv_land hx hb dL_law_188 ?_
  refine lv_lor hx hb dL_law_189 ?_
  refine rM_part F hKm hI hM hS hA hl.1 (Nat.le_of_ble_eq_true rfl) hc2 hs2 dL_law_190 (fun r190 H locs hr190 hM hS => ?_)
  obtain ⟨gr, As, hC⟩ := bk _ hM
  have hLR : LR A0 D ad ca bd cb H := ⟨_, _, _, _, _, _, _, _, _, _, _, _, _, _, _, _, _, _, _, gr, As, aI_part hI, hC⟩
  refine lv_pop hx hb dL_law_193 rfl ?_
  exact lv_goto (tgt := 1227) hx hb dL_law_194 (by decide) (kk _ _ hLR hS)
set_option maxHeartbeats 1000000 in
set_option maxRecDepth 100000 in
theorem lc_1 (F : CallFix p m c cL_law 4 s #[Value.ref b] wsL_law RL) (k21 : (Cond.constantLong RL 21 (4294967295)).before #[Value.ref b] s = true) (hKc : nkK D (tC ca) s) (hKm : nkK D (tM cb) s) (hX : va_X b L xs s s.heap) (hbl : b < s.heap.size) (hbA : ¬ A0 b) (hi : 10 + 9 * i ≤ L) (hL : L ≤ 4609) (hLR : LR A0 D ad ca bd cb H) (hS : va_S A0 s.heap H locs) (hA : ∀ q : Nat, s.heap.size ≤ q → A0 q) (hl : lv_has ls 4 [(0, .ref b), (1, .ref (ad 0)), (2, .ref (bd 0)), (3, .int (nI (1 + 9 * i)))]) (hc : cells + 1 ≤ 726897) (hs : slots + 4 ≤ 6921558) (hc2 : cells + 1 + 1 ≤ 726897) (hs2 : slots + 4 + 4 ≤ 6921558)
    (kk : ∀ (H1 : Heap) (locs1 : List Loc), LR A0 D ad ca bd cb H1 → va_S A0 s.heap H1 locs1 → W p l e room_1 s m #[Value.ref b] below meth c H1 locs1 (cells + 1) (slots + 4) Q (F0 m 1227 ls [])) : W p l e room_1 s m #[Value.ref b] below meth c H locs cells slots Q (F0 m 197 ls []) := by
  obtain ⟨hx, hb, hml, hown, hts⟩ := id F
  refine lv_aload_n hx hb dL_law_197 rfl (lv_at hl 1 rfl) ?_
  obtain ⟨sd, pz, tc, st, tr, sc, P, Mn, T, Wt, Rn, Po, Pl, Sp, Ks, Kp, Kc, Ik, O, gr, As, hI, hC⟩ := hLR
  refine rC_path F hKc hI hC hS hA hl.1 (Nat.le_of_ble_eq_true rfl) hc hs dL_law_198 (fun r198 H locs hr198 hC hS => ?_)
  obtain ⟨Y, hM, bk⟩ := CA_m hC
  refine lv_pop hx hb dL_law_201 rfl ?_
  refine lv_aload_n hx hb dL_law_202 rfl (lv_at hl 2 rfl) ?_
  refine rM_path F hKm hI hM hS hA hl.1 (Nat.le_of_ble_eq_true rfl) hc2 hs2 dL_law_203 (fun r203 H locs hr203 hM hS => ?_)
  obtain ⟨gr, As, hC⟩ := bk _ hM
  have hLR : LR A0 D ad ca bd cb H := ⟨_, _, _, _, _, _, _, _, _, _, _, _, _, _, _, _, _, _, _, gr, As, aI_path hI, hC⟩
  refine lv_pop hx hb dL_law_206 rfl ?_
  exact lv_goto (tgt := 1227) hx hb dL_law_207 (by decide) (kk _ _ hLR hS)
set_option maxHeartbeats 1000000 in
set_option maxRecDepth 100000 in
theorem lc_2 (F : CallFix p m c cL_law 4 s #[Value.ref b] wsL_law RL) (k21 : (Cond.constantLong RL 21 (4294967295)).before #[Value.ref b] s = true) (hKc : nkK D (tC ca) s) (hKm : nkK D (tM cb) s) (hX : va_X b L xs s s.heap) (hbl : b < s.heap.size) (hbA : ¬ A0 b) (hi : 10 + 9 * i ≤ L) (hL : L ≤ 4609) (hLR : LR A0 D ad ca bd cb H) (hS : va_S A0 s.heap H locs) (hA : ∀ q : Nat, s.heap.size ≤ q → A0 q) (hl : lv_has ls 4 [(0, .ref b), (1, .ref (ad 0)), (2, .ref (bd 0)), (3, .int (nI (1 + 9 * i)))]) (hc : cells + 1 ≤ 726897) (hs : slots + 4 ≤ 6921558) (hc2 : cells + 1 + 1 ≤ 726897) (hs2 : slots + 4 + 4 ≤ 6921558)
    (kk : ∀ (H1 : Heap) (locs1 : List Loc), LR A0 D ad ca bd cb H1 → va_S A0 s.heap H1 locs1 → W p l e room_1 s m #[Value.ref b] below meth c H1 locs1 (cells + 1) (slots + 4) Q (F0 m 1227 ls [])) : W p l e room_1 s m #[Value.ref b] below meth c H locs cells slots Q (F0 m 210 ls []) := by
  obtain ⟨hx, hb, hml, hown, hts⟩ := id F
  refine lv_aload_n hx hb dL_law_210 rfl (lv_at hl 1 rfl) ?_
  refine lv_aload_n hx hb dL_law_211 rfl (lv_at hl 0 rfl) ?_
  refine lv_iload_n hx hb dL_law_212 rfl (lv_at hl 3 rfl) ?_
  refine lv_iconst (v := 1) hx hb dL_law_213 (by decide) ?_
  refine lv_iadd hx hb dL_law_214 ?_
  refine va_sld hx hb hX hbl hbA hS (ns_inL (k := 1) hi (by decide) hL) dL_law_215 ?_
  obtain ⟨sd, pz, tc, st, tr, sc, P, Mn, T, Wt, Rn, Po, Pl, Sp, Ks, Kp, Kc, Ik, O, gr, As, hI, hC⟩ := hLR
  refine rC_key F hKc hI hC hS hA hl.1 (Nat.le_of_ble_eq_true rfl) hc hs dL_law_216 (fun r216 H locs hr216 hC hS => ?_)
  obtain ⟨Y, hM, bk⟩ := CA_m hC
  refine lv_pop2_2 hx hb dL_law_219 rfl ?_
  refine lv_aload_n hx hb dL_law_220 rfl (lv_at hl 2 rfl) ?_
  refine lv_aload_n hx hb dL_law_221 rfl (lv_at hl 0 rfl) ?_
  refine lv_iload_n hx hb dL_law_222 rfl (lv_at hl 3 rfl) ?_
  refine lv_iconst (v := 1) hx hb dL_law_223 (by decide) ?_
  refine lv_iadd hx hb dL_law_224 ?_
  refine va_sld hx hb hX hbl hbA hS (ns_inL (k := 1) hi (by decide) hL) dL_law_225 ?_
  refine rM_key F hKm hI hM hS hA hl.1 (Nat.le_of_ble_eq_true rfl) hc2 hs2 dL_law_226 (fun r226 H locs hr226 hM hS => ?_)
  obtain ⟨gr, As, hC⟩ := bk _ hM
  have hLR : LR A0 D ad ca bd cb H := ⟨_, _, _, _, _, _, _, _, _, _, _, _, _, _, _, _, _, _, _, gr, As, hI, hC⟩
  refine lv_pop2_2 hx hb dL_law_229 rfl ?_
  exact lv_goto (tgt := 1227) hx hb dL_law_230 (by decide) (kk _ _ hLR hS)
set_option maxHeartbeats 1000000 in
set_option maxRecDepth 100000 in
theorem lc_3 (F : CallFix p m c cL_law 4 s #[Value.ref b] wsL_law RL) (k21 : (Cond.constantLong RL 21 (4294967295)).before #[Value.ref b] s = true) (hKc : nkK D (tC ca) s) (hKm : nkK D (tM cb) s) (hX : va_X b L xs s s.heap) (hbl : b < s.heap.size) (hbA : ¬ A0 b) (hi : 10 + 9 * i ≤ L) (hL : L ≤ 4609) (hLR : LR A0 D ad ca bd cb H) (hS : va_S A0 s.heap H locs) (hA : ∀ q : Nat, s.heap.size ≤ q → A0 q) (hl : lv_has ls 4 [(0, .ref b), (1, .ref (ad 0)), (2, .ref (bd 0)), (3, .int (nI (1 + 9 * i)))]) (hc : cells + 1 ≤ 726897) (hs : slots + 4 ≤ 6921558) (hc2 : cells + 1 + 1 ≤ 726897) (hs2 : slots + 4 + 4 ≤ 6921558)
    (kk : ∀ (H1 : Heap) (locs1 : List Loc), LR A0 D ad ca bd cb H1 → va_S A0 s.heap H1 locs1 → W p l e room_1 s m #[Value.ref b] below meth c H1 locs1 (cells + 1) (slots + 4) Q (F0 m 1227 ls [])) : W p l e room_1 s m #[Value.ref b] below meth c H locs cells slots Q (F0 m 233 ls []) := by
  obtain ⟨hx, hb, hml, hown, hts⟩ := id F
  refine lv_aload_n hx hb dL_law_233 rfl (lv_at hl 1 rfl) ?_
  refine lv_aload_n hx hb dL_law_234 rfl (lv_at hl 0 rfl) ?_
  refine lv_iload_n hx hb dL_law_235 rfl (lv_at hl 3 rfl) ?_
  refine lv_iconst (v := 1) hx hb dL_law_236 (by decide) ?_
  refine lv_iadd hx hb dL_law_237 ?_
  refine va_sld hx hb hX hbl hbA hS (ns_inL (k := 1) hi (by decide) hL) dL_law_238 ?_
  refine lv_i2l hx hb dL_law_239 rfl ?_
  refine lv_bipush (v := 32) hx hb dL_law_240 (by decide) ?_
  refine lv_lshl hx hb dL_law_242 rfl ?_
  refine lv_aload_n hx hb dL_law_243 rfl (lv_at hl 0 rfl) ?_
  refine lv_iload_n hx hb dL_law_244 rfl (lv_at hl 3 rfl) ?_
  refine lv_iconst (v := 2) hx hb dL_law_245 (by decide) ?_
  refine lv_iadd hx hb dL_law_246 ?_
  refine va_sld hx hb hX hbl hbA hS (ns_inL (k := 2) hi (by decide) hL) dL_law_247 ?_
  refine lv_i2l hx hb dL_law_248 rfl ?_
  refine lv_ldc2 hx hb hown k21 dL_law_249 ?_
  refine lv_land hx hb dL_law_252 ?_
  refine lv_lor hx hb dL_law_253 ?_
  refine lv_aload_n hx hb dL_law_254 rfl (lv_at hl 0 rfl) ?_
  refine lv_iload_n hx hb dL_law_255 rfl (lv_at hl 3 rfl) ?_
  refine lv_iconst (v := 3) hx hb dL_law_256 (by decide) ?_
  refine lv_iadd hx hb dL_law_257 ?_
  refine va_sld hx hb hX hbl hbA hS (ns_inL (k := 3) hi (by decide) hL) dL_law_258 ?_
  refine lv_aload_n hx hb dL_law_259 rfl (lv_at hl 0 rfl) ?_
  refine lv_iload_n hx hb dL_law_260 rfl (lv_at hl 3 rfl) ?_
  refine lv_iconst (v := 4) hx hb dL_law_261 (by decide) ?_
  refine lv_iadd hx hb dL_law_262 ?_
  refine va_sld hx hb hX hbl hbA hS (ns_inL (k := 4) hi (by decide) hL) dL_law_263 ?_
  refine lv_i2l hx hb dL_law_264 rfl ?_
  refine lv_bipush (v := 32) hx hb dL_law_265 (by decide) ?_
  refine lv_lshl hx hb dL_law_267 rfl ?_
  refine lv_aload_n hx hb dL_law_268 rfl (lv_at hl 0 rfl) ?_
  refine lv_iload_n hx hb dL_law_269 rfl (lv_at hl 3 rfl) ?_
  refine lv_iconst (v := 5) hx hb dL_law_270 (by decide) ?_
  refine lv_iadd hx hb dL_law_271 ?_
  refine va_sld hx hb hX hbl hbA hS (ns_inL (k := 5) hi (by decide) hL) dL_law_272 ?_
  refine lv_i2l hx hb dL_law_273 rfl ?_
  refine lv_ldc2 hx hb hown k21 dL_law_274 ?_
  refine lv_land hx hb dL_law_277 ?_
  refine lv_lor hx hb dL_law_278 ?_
  obtain ⟨sd, pz, tc, st, tr, sc, P, Mn, T, Wt, Rn, Po, Pl, Sp, Ks, Kp, Kc, Ik, O, gr, As, hI, hC⟩ := hLR
  refine rC_word F hKc hI hC hS hA hl.1 (Nat.le_of_ble_eq_true rfl) hc hs dL_law_279 (fun r279 H locs hr279 hC hS => ?_)
  obtain ⟨Y, hM, bk⟩ := CA_m hC
  refine lv_pop2_2 hx hb dL_law_282 rfl ?_
  refine lv_aload_n hx hb dL_law_283 rfl (lv_at hl 2 rfl) ?_
  refine lv_aload_n hx hb dL_law_284 rfl (lv_at hl 0 rfl) ?_
  refine lv_iload_n hx hb dL_law_285 rfl (lv_at hl 3 rfl) ?_
  refine lv_iconst (v := 1) hx hb dL_law_286 (by decide) ?_
  refine lv_iadd hx hb dL_law_287 ?_
  refine va_sld hx hb hX hbl hbA hS (ns_inL (k := 1) hi (by decide) hL) dL_law_288 ?_
  refine lv_i2l hx hb dL_law_289 rfl ?_
  refine lv_bipush (v := 32) hx hb dL_law_290 (by decide) ?_
  refine lv_lshl hx hb dL_law_292 rfl ?_
  refine lv_aload_n hx hb dL_law_293 rfl (lv_at hl 0 rfl) ?_
  refine lv_iload_n hx hb dL_law_294 rfl (lv_at hl 3 rfl) ?_
  refine lv_iconst (v := 2) hx hb dL_law_295 (by decide) ?_
  refine lv_iadd hx hb dL_law_296 ?_
  refine va_sld hx hb hX hbl hbA hS (ns_inL (k := 2) hi (by decide) hL) dL_law_297 ?_
  refine lv_i2l hx hb dL_law_298 rfl ?_
  refine lv_ldc2 hx hb hown k21 dL_law_299 ?_
  refine lv_land hx hb dL_law_302 ?_
  refine lv_lor hx hb dL_law_303 ?_
  refine lv_aload_n hx hb dL_law_304 rfl (lv_at hl 0 rfl) ?_
  refine lv_iload_n hx hb dL_law_305 rfl (lv_at hl 3 rfl) ?_
  refine lv_iconst (v := 3) hx hb dL_law_306 (by decide) ?_
  refine lv_iadd hx hb dL_law_307 ?_
  refine va_sld hx hb hX hbl hbA hS (ns_inL (k := 3) hi (by decide) hL) dL_law_308 ?_
  refine lv_aload_n hx hb dL_law_309 rfl (lv_at hl 0 rfl) ?_
  refine lv_iload_n hx hb dL_law_310 rfl (lv_at hl 3 rfl) ?_
  refine lv_iconst (v := 4) hx hb dL_law_311 (by decide) ?_
  refine lv_iadd hx hb dL_law_312 ?_
  refine va_sld hx hb hX hbl hbA hS (ns_inL (k := 4) hi (by decide) hL) dL_law_313 ?_
  refine lv_i2l hx hb dL_law_314 rfl ?_
  refine lv_bipush (v := 32) hx hb dL_law_315 (by decide) ?_
  refine lv_lshl hx hb dL_law_317 rfl ?_
  refine lv_aload_n hx hb dL_law_318 rfl (lv_at hl 0 rfl) ?_
  refine lv_iload_n hx hb dL_law_319 rfl (lv_at hl 3 rfl) ?_
  refine lv_iconst (v := 5) hx hb dL_law_320 (by decide) ?_
  refine lv_iadd hx hb dL_law_321 ?_
  refine va_sld hx hb hX hbl hbA hS (ns_inL (k := 5) hi (by decide) hL) dL_law_322 ?_
  refine lv_i2l hx hb dL_law_323 rfl ?_
  refine lv_ldc2 hx hb hown k21 dL_law_324 ?_
  refine lv_land hx hb dL_law_327 ?_
  refine lv_lor hx hb dL_law_328 ?_
  refine rM_word F hKm hI hM hS hA hl.1 (Nat.le_of_ble_eq_true rfl) hc2 hs2 dL_law_329 (fun r329 H locs hr329 hM hS => ?_)
  obtain ⟨gr, As, hC⟩ := bk _ hM
  have hLR : LR A0 D ad ca bd cb H := ⟨_, _, _, _, _, _, _, _, _, _, _, _, _, _, _, _, _, _, _, gr, As, hI, hC⟩
  refine lv_pop2_2 hx hb dL_law_332 rfl ?_
  exact lv_goto (tgt := 1227) hx hb dL_law_333 (by decide) (kk _ _ hLR hS)
set_option maxHeartbeats 1000000 in
set_option maxRecDepth 100000 in
theorem lc_4 (F : CallFix p m c cL_law 4 s #[Value.ref b] wsL_law RL) (k21 : (Cond.constantLong RL 21 (4294967295)).before #[Value.ref b] s = true) (hKc : nkK D (tC ca) s) (hKm : nkK D (tM cb) s) (hX : va_X b L xs s s.heap) (hbl : b < s.heap.size) (hbA : ¬ A0 b) (hi : 10 + 9 * i ≤ L) (hL : L ≤ 4609) (hLR : LR A0 D ad ca bd cb H) (hS : va_S A0 s.heap H locs) (hA : ∀ q : Nat, s.heap.size ≤ q → A0 q) (hl : lv_has ls 4 [(0, .ref b), (1, .ref (ad 0)), (2, .ref (bd 0)), (3, .int (nI (1 + 9 * i)))]) (hc : cells + 1 ≤ 726897) (hs : slots + 4 ≤ 6921558) (hc2 : cells + 1 + 1 ≤ 726897) (hs2 : slots + 4 + 4 ≤ 6921558)
    (kk : ∀ (H1 : Heap) (locs1 : List Loc), LR A0 D ad ca bd cb H1 → va_S A0 s.heap H1 locs1 → W p l e room_1 s m #[Value.ref b] below meth c H1 locs1 (cells + 1) (slots + 4) Q (F0 m 1227 ls [])) : W p l e room_1 s m #[Value.ref b] below meth c H locs cells slots Q (F0 m 336 ls []) := by
  obtain ⟨hx, hb, hml, hown, hts⟩ := id F
  refine lv_aload_n hx hb dL_law_336 rfl (lv_at hl 1 rfl) ?_
  refine lv_aload_n hx hb dL_law_337 rfl (lv_at hl 0 rfl) ?_
  refine lv_iload_n hx hb dL_law_338 rfl (lv_at hl 3 rfl) ?_
  refine lv_iconst (v := 1) hx hb dL_law_339 (by decide) ?_
  refine lv_iadd hx hb dL_law_340 ?_
  refine va_sld hx hb hX hbl hbA hS (ns_inL (k := 1) hi (by decide) hL) dL_law_341 ?_
  refine lv_i2l hx hb dL_law_342 rfl ?_
  refine lv_bipush (v := 32) hx hb dL_law_343 (by decide) ?_
  refine lv_lshl hx hb dL_law_345 rfl ?_
  refine lv_aload_n hx hb dL_law_346 rfl (lv_at hl 0 rfl) ?_
  refine lv_iload_n hx hb dL_law_347 rfl (lv_at hl 3 rfl) ?_
  refine lv_iconst (v := 2) hx hb dL_law_348 (by decide) ?_
  refine lv_iadd hx hb dL_law_349 ?_
  refine va_sld hx hb hX hbl hbA hS (ns_inL (k := 2) hi (by decide) hL) dL_law_350 ?_
  refine lv_i2l hx hb dL_law_351 rfl ?_
  refine lv_ldc2 hx hb hown k21 dL_law_352 ?_
  refine lv_land hx hb dL_law_355 ?_
  refine lv_lor hx hb dL_law_356 ?_
  refine lv_aload_n hx hb dL_law_357 rfl (lv_at hl 0 rfl) ?_
  refine lv_iload_n hx hb dL_law_358 rfl (lv_at hl 3 rfl) ?_
  refine lv_iconst (v := 3) hx hb dL_law_359 (by decide) ?_
  refine lv_iadd hx hb dL_law_360 ?_
  refine va_sld hx hb hX hbl hbA hS (ns_inL (k := 3) hi (by decide) hL) dL_law_361 ?_
  refine lv_aload_n hx hb dL_law_362 rfl (lv_at hl 0 rfl) ?_
  refine lv_iload_n hx hb dL_law_363 rfl (lv_at hl 3 rfl) ?_
  refine lv_iconst (v := 4) hx hb dL_law_364 (by decide) ?_
  refine lv_iadd hx hb dL_law_365 ?_
  refine va_sld hx hb hX hbl hbA hS (ns_inL (k := 4) hi (by decide) hL) dL_law_366 ?_
  refine lv_aload_n hx hb dL_law_367 rfl (lv_at hl 0 rfl) ?_
  refine lv_iload_n hx hb dL_law_368 rfl (lv_at hl 3 rfl) ?_
  refine lv_iconst (v := 5) hx hb dL_law_369 (by decide) ?_
  refine lv_iadd hx hb dL_law_370 ?_
  refine va_sld hx hb hX hbl hbA hS (ns_inL (k := 5) hi (by decide) hL) dL_law_371 ?_
  refine lv_i2l hx hb dL_law_372 rfl ?_
  refine lv_bipush (v := 32) hx hb dL_law_373 (by decide) ?_
  refine lv_lshl hx hb dL_law_375 rfl ?_
  refine lv_aload_n hx hb dL_law_376 rfl (lv_at hl 0 rfl) ?_
  refine lv_iload_n hx hb dL_law_377 rfl (lv_at hl 3 rfl) ?_
  refine lv_bipush (v := 6) hx hb dL_law_378 (by decide) ?_
  refine lv_iadd hx hb dL_law_380 ?_
  refine va_sld hx hb hX hbl hbA hS (ns_inL (k := 6) hi (by decide) hL) dL_law_381 ?_
  refine lv_i2l hx hb dL_law_382 rfl ?_
  refine lv_ldc2 hx hb hown k21 dL_law_383 ?_
  refine lv_land hx hb dL_law_386 ?_
  refine lv_lor hx hb dL_law_387 ?_
  obtain ⟨sd, pz, tc, st, tr, sc, P, Mn, T, Wt, Rn, Po, Pl, Sp, Ks, Kp, Kc, Ik, O, gr, As, hI, hC⟩ := hLR
  refine rC_span F hKc hI hC hS hA hl.1 (Nat.le_of_ble_eq_true rfl) hc hs dL_law_388 (fun r388 H locs hr388 hC hS => ?_)
  obtain ⟨Y, hM, bk⟩ := CA_m hC
  refine lv_pop2_2 hx hb dL_law_391 rfl ?_
  refine lv_aload_n hx hb dL_law_392 rfl (lv_at hl 2 rfl) ?_
  refine lv_aload_n hx hb dL_law_393 rfl (lv_at hl 0 rfl) ?_
  refine lv_iload_n hx hb dL_law_394 rfl (lv_at hl 3 rfl) ?_
  refine lv_iconst (v := 1) hx hb dL_law_395 (by decide) ?_
  refine lv_iadd hx hb dL_law_396 ?_
  refine va_sld hx hb hX hbl hbA hS (ns_inL (k := 1) hi (by decide) hL) dL_law_397 ?_
  refine lv_i2l hx hb dL_law_398 rfl ?_
  refine lv_bipush (v := 32) hx hb dL_law_399 (by decide) ?_
  refine lv_lshl hx hb dL_law_401 rfl ?_
  refine lv_aload_n hx hb dL_law_402 rfl (lv_at hl 0 rfl) ?_
  refine lv_iload_n hx hb dL_law_403 rfl (lv_at hl 3 rfl) ?_
  refine lv_iconst (v := 2) hx hb dL_law_404 (by decide) ?_
  refine lv_iadd hx hb dL_law_405 ?_
  refine va_sld hx hb hX hbl hbA hS (ns_inL (k := 2) hi (by decide) hL) dL_law_406 ?_
  refine lv_i2l hx hb dL_law_407 rfl ?_
  refine lv_ldc2 hx hb hown k21 dL_law_408 ?_
  refine lv_land hx hb dL_law_411 ?_
  refine lv_lor hx hb dL_law_412 ?_
  refine lv_aload_n hx hb dL_law_413 rfl (lv_at hl 0 rfl) ?_
  refine lv_iload_n hx hb dL_law_414 rfl (lv_at hl 3 rfl) ?_
  refine lv_iconst (v := 3) hx hb dL_law_415 (by decide) ?_
  refine lv_iadd hx hb dL_law_416 ?_
  refine va_sld hx hb hX hbl hbA hS (ns_inL (k := 3) hi (by decide) hL) dL_law_417 ?_
  refine lv_aload_n hx hb dL_law_418 rfl (lv_at hl 0 rfl) ?_
  refine lv_iload_n hx hb dL_law_419 rfl (lv_at hl 3 rfl) ?_
  refine lv_iconst (v := 4) hx hb dL_law_420 (by decide) ?_
  refine lv_iadd hx hb dL_law_421 ?_
  refine va_sld hx hb hX hbl hbA hS (ns_inL (k := 4) hi (by decide) hL) dL_law_422 ?_
  refine lv_aload_n hx hb dL_law_423 rfl (lv_at hl 0 rfl) ?_
  refine lv_iload_n hx hb dL_law_424 rfl (lv_at hl 3 rfl) ?_
  refine lv_iconst (v := 5) hx hb dL_law_425 (by decide) ?_
  refine lv_iadd hx hb dL_law_426 ?_
  refine va_sld hx hb hX hbl hbA hS (ns_inL (k := 5) hi (by decide) hL) dL_law_427 ?_
  refine lv_i2l hx hb dL_law_428 rfl ?_
  refine lv_bipush (v := 32) hx hb dL_law_429 (by decide) ?_
  refine lv_lshl hx hb dL_law_431 rfl ?_
  refine lv_aload_n hx hb dL_law_432 rfl (lv_at hl 0 rfl) ?_
  refine lv_iload_n hx hb dL_law_433 rfl (lv_at hl 3 rfl) ?_
  refine lv_bipush (v := 6) hx hb dL_law_434 (by decide) ?_
  refine lv_iadd hx hb dL_law_436 ?_
  refine va_sld hx hb hX hbl hbA hS (ns_inL (k := 6) hi (by decide) hL) dL_law_437 ?_
  refine lv_i2l hx hb dL_law_438 rfl ?_
  refine lv_ldc2 hx hb hown k21 dL_law_439 ?_
  refine lv_land hx hb dL_law_442 ?_
  refine lv_lor hx hb dL_law_443 ?_
  refine rM_span F hKm hI hM hS hA hl.1 (Nat.le_of_ble_eq_true rfl) hc2 hs2 dL_law_444 (fun r444 H locs hr444 hM hS => ?_)
  obtain ⟨gr, As, hC⟩ := bk _ hM
  have hLR : LR A0 D ad ca bd cb H := ⟨_, _, _, _, _, _, _, _, _, _, _, _, _, _, _, _, _, _, _, gr, As, hI, hC⟩
  refine lv_pop2_2 hx hb dL_law_447 rfl ?_
  exact lv_goto (tgt := 1227) hx hb dL_law_448 (by decide) (kk _ _ hLR hS)
set_option maxHeartbeats 1000000 in
set_option maxRecDepth 100000 in
theorem lc_5 (F : CallFix p m c cL_law 4 s #[Value.ref b] wsL_law RL) (k21 : (Cond.constantLong RL 21 (4294967295)).before #[Value.ref b] s = true) (hKc : nkK D (tC ca) s) (hKm : nkK D (tM cb) s) (hX : va_X b L xs s s.heap) (hbl : b < s.heap.size) (hbA : ¬ A0 b) (hi : 10 + 9 * i ≤ L) (hL : L ≤ 4609) (hLR : LR A0 D ad ca bd cb H) (hS : va_S A0 s.heap H locs) (hA : ∀ q : Nat, s.heap.size ≤ q → A0 q) (hl : lv_has ls 4 [(0, .ref b), (1, .ref (ad 0)), (2, .ref (bd 0)), (3, .int (nI (1 + 9 * i)))]) (hc : cells + 1 ≤ 726897) (hs : slots + 4 ≤ 6921558) (hc2 : cells + 1 + 1 ≤ 726897) (hs2 : slots + 4 + 4 ≤ 6921558)
    (kk : ∀ (H1 : Heap) (locs1 : List Loc), LR A0 D ad ca bd cb H1 → va_S A0 s.heap H1 locs1 → W p l e room_1 s m #[Value.ref b] below meth c H1 locs1 (cells + 1) (slots + 4) Q (F0 m 1227 ls [])) : W p l e room_1 s m #[Value.ref b] below meth c H locs cells slots Q (F0 m 451 ls []) := by
  obtain ⟨hx, hb, hml, hown, hts⟩ := id F
  refine lv_aload_n hx hb dL_law_451 rfl (lv_at hl 1 rfl) ?_
  refine lv_aload_n hx hb dL_law_452 rfl (lv_at hl 0 rfl) ?_
  refine lv_iload_n hx hb dL_law_453 rfl (lv_at hl 3 rfl) ?_
  refine lv_iconst (v := 1) hx hb dL_law_454 (by decide) ?_
  refine lv_iadd hx hb dL_law_455 ?_
  refine va_sld hx hb hX hbl hbA hS (ns_inL (k := 1) hi (by decide) hL) dL_law_456 ?_
  refine lv_i2l hx hb dL_law_457 rfl ?_
  refine lv_bipush (v := 32) hx hb dL_law_458 (by decide) ?_
  refine lv_lshl hx hb dL_law_460 rfl ?_
  refine lv_aload_n hx hb dL_law_461 rfl (lv_at hl 0 rfl) ?_
  refine lv_iload_n hx hb dL_law_462 rfl (lv_at hl 3 rfl) ?_
  refine lv_iconst (v := 2) hx hb dL_law_463 (by decide) ?_
  refine lv_iadd hx hb dL_law_464 ?_
  refine va_sld hx hb hX hbl hbA hS (ns_inL (k := 2) hi (by decide) hL) dL_law_465 ?_
  refine lv_i2l hx hb dL_law_466 rfl ?_
  refine lv_ldc2 hx hb hown k21 dL_law_467 ?_
  refine lv_land hx hb dL_law_470 ?_
  refine lv_lor hx hb dL_law_471 ?_
  refine lv_aload_n hx hb dL_law_472 rfl (lv_at hl 0 rfl) ?_
  refine lv_iload_n hx hb dL_law_473 rfl (lv_at hl 3 rfl) ?_
  refine lv_iconst (v := 3) hx hb dL_law_474 (by decide) ?_
  refine lv_iadd hx hb dL_law_475 ?_
  refine va_sld hx hb hX hbl hbA hS (ns_inL (k := 3) hi (by decide) hL) dL_law_476 ?_
  refine lv_aload_n hx hb dL_law_477 rfl (lv_at hl 0 rfl) ?_
  refine lv_iload_n hx hb dL_law_478 rfl (lv_at hl 3 rfl) ?_
  refine lv_iconst (v := 4) hx hb dL_law_479 (by decide) ?_
  refine lv_iadd hx hb dL_law_480 ?_
  refine va_sld hx hb hX hbl hbA hS (ns_inL (k := 4) hi (by decide) hL) dL_law_481 ?_
  refine lv_aload_n hx hb dL_law_482 rfl (lv_at hl 0 rfl) ?_
  refine lv_iload_n hx hb dL_law_483 rfl (lv_at hl 3 rfl) ?_
  refine lv_iconst (v := 5) hx hb dL_law_484 (by decide) ?_
  refine lv_iadd hx hb dL_law_485 ?_
  refine va_sld hx hb hX hbl hbA hS (ns_inL (k := 5) hi (by decide) hL) dL_law_486 ?_
  refine lv_i2l hx hb dL_law_487 rfl ?_
  refine lv_bipush (v := 32) hx hb dL_law_488 (by decide) ?_
  refine lv_lshl hx hb dL_law_490 rfl ?_
  refine lv_aload_n hx hb dL_law_491 rfl (lv_at hl 0 rfl) ?_
  refine lv_iload_n hx hb dL_law_492 rfl (lv_at hl 3 rfl) ?_
  refine lv_bipush (v := 6) hx hb dL_law_493 (by decide) ?_
  refine lv_iadd hx hb dL_law_495 ?_
  refine va_sld hx hb hX hbl hbA hS (ns_inL (k := 6) hi (by decide) hL) dL_law_496 ?_
  refine lv_i2l hx hb dL_law_497 rfl ?_
  refine lv_ldc2 hx hb hown k21 dL_law_498 ?_
  refine lv_land hx hb dL_law_501 ?_
  refine lv_lor hx hb dL_law_502 ?_
  refine lv_aload_n hx hb dL_law_503 rfl (lv_at hl 0 rfl) ?_
  refine lv_iload_n hx hb dL_law_504 rfl (lv_at hl 3 rfl) ?_
  refine lv_bipush (v := 7) hx hb dL_law_505 (by decide) ?_
  refine lv_iadd hx hb dL_law_507 ?_
  refine va_sld hx hb hX hbl hbA hS (ns_inL (k := 7) hi (by decide) hL) dL_law_508 ?_
  refine lv_i2l hx hb dL_law_509 rfl ?_
  refine lv_bipush (v := 32) hx hb dL_law_510 (by decide) ?_
  refine lv_lshl hx hb dL_law_512 rfl ?_
  refine lv_aload_n hx hb dL_law_513 rfl (lv_at hl 0 rfl) ?_
  refine lv_iload_n hx hb dL_law_514 rfl (lv_at hl 3 rfl) ?_
  refine lv_bipush (v := 8) hx hb dL_law_515 (by decide) ?_
  refine lv_iadd hx hb dL_law_517 ?_
  refine va_sld hx hb hX hbl hbA hS (ns_inL (k := 8) hi (by decide) hL) dL_law_518 ?_
  refine lv_i2l hx hb dL_law_519 rfl ?_
  refine lv_ldc2 hx hb hown k21 dL_law_520 ?_
  refine lv_land hx hb dL_law_523 ?_
  refine lv_lor hx hb dL_law_524 ?_
  obtain ⟨sd, pz, tc, st, tr, sc, P, Mn, T, Wt, Rn, Po, Pl, Sp, Ks, Kp, Kc, Ik, O, gr, As, hI, hC⟩ := hLR
  refine rC_fraction F hKc hI hC hS hA hl.1 (Nat.le_of_ble_eq_true rfl) hc hs dL_law_525 (fun r525 H locs hr525 hC hS => ?_)
  obtain ⟨Y, hM, bk⟩ := CA_m hC
  refine lv_aload_n hx hb dL_law_528 rfl (lv_at hl 2 rfl) ?_
  refine lv_aload_n hx hb dL_law_529 rfl (lv_at hl 0 rfl) ?_
  refine lv_iload_n hx hb dL_law_530 rfl (lv_at hl 3 rfl) ?_
  refine lv_iconst (v := 1) hx hb dL_law_531 (by decide) ?_
  refine lv_iadd hx hb dL_law_532 ?_
  refine va_sld hx hb hX hbl hbA hS (ns_inL (k := 1) hi (by decide) hL) dL_law_533 ?_
  refine lv_i2l hx hb dL_law_534 rfl ?_
  refine lv_bipush (v := 32) hx hb dL_law_535 (by decide) ?_
  refine lv_lshl hx hb dL_law_537 rfl ?_
  refine lv_aload_n hx hb dL_law_538 rfl (lv_at hl 0 rfl) ?_
  refine lv_iload_n hx hb dL_law_539 rfl (lv_at hl 3 rfl) ?_
  refine lv_iconst (v := 2) hx hb dL_law_540 (by decide) ?_
  refine lv_iadd hx hb dL_law_541 ?_
  refine va_sld hx hb hX hbl hbA hS (ns_inL (k := 2) hi (by decide) hL) dL_law_542 ?_
  refine lv_i2l hx hb dL_law_543 rfl ?_
  refine lv_ldc2 hx hb hown k21 dL_law_544 ?_
  refine lv_land hx hb dL_law_547 ?_
  refine lv_lor hx hb dL_law_548 ?_
  refine lv_aload_n hx hb dL_law_549 rfl (lv_at hl 0 rfl) ?_
  refine lv_iload_n hx hb dL_law_550 rfl (lv_at hl 3 rfl) ?_
  refine lv_iconst (v := 3) hx hb dL_law_551 (by decide) ?_
  refine lv_iadd hx hb dL_law_552 ?_
  refine va_sld hx hb hX hbl hbA hS (ns_inL (k := 3) hi (by decide) hL) dL_law_553 ?_
  refine lv_aload_n hx hb dL_law_554 rfl (lv_at hl 0 rfl) ?_
  refine lv_iload_n hx hb dL_law_555 rfl (lv_at hl 3 rfl) ?_
  refine lv_iconst (v := 4) hx hb dL_law_556 (by decide) ?_
  refine lv_iadd hx hb dL_law_557 ?_
  refine va_sld hx hb hX hbl hbA hS (ns_inL (k := 4) hi (by decide) hL) dL_law_558 ?_
  refine lv_aload_n hx hb dL_law_559 rfl (lv_at hl 0 rfl) ?_
  refine lv_iload_n hx hb dL_law_560 rfl (lv_at hl 3 rfl) ?_
  refine lv_iconst (v := 5) hx hb dL_law_561 (by decide) ?_
  refine lv_iadd hx hb dL_law_562 ?_
  refine va_sld hx hb hX hbl hbA hS (ns_inL (k := 5) hi (by decide) hL) dL_law_563 ?_
  refine lv_i2l hx hb dL_law_564 rfl ?_
  refine lv_bipush (v := 32) hx hb dL_law_565 (by decide) ?_
  refine lv_lshl hx hb dL_law_567 rfl ?_
  refine lv_aload_n hx hb dL_law_568 rfl (lv_at hl 0 rfl) ?_
  refine lv_iload_n hx hb dL_law_569 rfl (lv_at hl 3 rfl) ?_
  refine lv_bipush (v := 6) hx hb dL_law_570 (by decide) ?_
  refine lv_iadd hx hb dL_law_572 ?_
  refine va_sld hx hb hX hbl hbA hS (ns_inL (k := 6) hi (by decide) hL) dL_law_573 ?_
  refine lv_i2l hx hb dL_law_574 rfl ?_
  refine lv_ldc2 hx hb hown k21 dL_law_575 ?_
  refine lv_land hx hb dL_law_578 ?_
  refine lv_lor hx hb dL_law_579 ?_
  refine lv_aload_n hx hb dL_law_580 rfl (lv_at hl 0 rfl) ?_
  refine lv_iload_n hx hb dL_law_581 rfl (lv_at hl 3 rfl) ?_
  refine lv_bipush (v := 7) hx hb dL_law_582 (by decide) ?_
  refine lv_iadd hx hb dL_law_584 ?_
  refine va_sld hx hb hX hbl hbA hS (ns_inL (k := 7) hi (by decide) hL) dL_law_585 ?_
  refine lv_i2l hx hb dL_law_586 rfl ?_
  refine lv_bipush (v := 32) hx hb dL_law_587 (by decide) ?_
  refine lv_lshl hx hb dL_law_589 rfl ?_
  refine lv_aload_n hx hb dL_law_590 rfl (lv_at hl 0 rfl) ?_
  refine lv_iload_n hx hb dL_law_591 rfl (lv_at hl 3 rfl) ?_
  refine lv_bipush (v := 8) hx hb dL_law_592 (by decide) ?_
  refine lv_iadd hx hb dL_law_594 ?_
  refine va_sld hx hb hX hbl hbA hS (ns_inL (k := 8) hi (by decide) hL) dL_law_595 ?_
  refine lv_i2l hx hb dL_law_596 rfl ?_
  refine lv_ldc2 hx hb hown k21 dL_law_597 ?_
  refine lv_land hx hb dL_law_600 ?_
  refine lv_lor hx hb dL_law_601 ?_
  refine rM_fraction F hKm hI hM hS hA hl.1 (Nat.le_of_ble_eq_true rfl) hc2 hs2 dL_law_602 (fun r602 H locs hr602 hM hS => ?_)
  obtain ⟨gr, As, hC⟩ := bk _ hM
  have hLR : LR A0 D ad ca bd cb H := ⟨_, _, _, _, _, _, _, _, _, _, _, _, _, _, _, _, _, _, _, gr, As, hI, hC⟩
  exact lv_icmp_eq (tgt := 1227) hx hb dL_law_605 (by decide) (fun _ => kk _ _ hLR hS) (fun hne => absurd (hr525.trans hr602.symm) hne)
set_option maxHeartbeats 1000000 in
set_option maxRecDepth 100000 in
theorem lc_6 (F : CallFix p m c cL_law 4 s #[Value.ref b] wsL_law RL) (k21 : (Cond.constantLong RL 21 (4294967295)).before #[Value.ref b] s = true) (hKc : nkK D (tC ca) s) (hKm : nkK D (tM cb) s) (hX : va_X b L xs s s.heap) (hbl : b < s.heap.size) (hbA : ¬ A0 b) (hi : 10 + 9 * i ≤ L) (hL : L ≤ 4609) (hLR : LR A0 D ad ca bd cb H) (hS : va_S A0 s.heap H locs) (hA : ∀ q : Nat, s.heap.size ≤ q → A0 q) (hl : lv_has ls 4 [(0, .ref b), (1, .ref (ad 0)), (2, .ref (bd 0)), (3, .int (nI (1 + 9 * i)))]) (hc : cells + 1 ≤ 726897) (hs : slots + 4 ≤ 6921558) (hc2 : cells + 1 + 1 ≤ 726897) (hs2 : slots + 4 + 4 ≤ 6921558)
    (kk : ∀ (H1 : Heap) (locs1 : List Loc), LR A0 D ad ca bd cb H1 → va_S A0 s.heap H1 locs1 → W p l e room_1 s m #[Value.ref b] below meth c H1 locs1 (cells + 1) (slots + 4) Q (F0 m 1227 ls [])) : W p l e room_1 s m #[Value.ref b] below meth c H locs cells slots Q (F0 m 610 ls []) := by
  obtain ⟨hx, hb, hml, hown, hts⟩ := id F
  refine lv_aload_n hx hb dL_law_610 rfl (lv_at hl 1 rfl) ?_
  refine lv_aload_n hx hb dL_law_611 rfl (lv_at hl 0 rfl) ?_
  refine lv_iload_n hx hb dL_law_612 rfl (lv_at hl 3 rfl) ?_
  refine lv_iconst (v := 1) hx hb dL_law_613 (by decide) ?_
  refine lv_iadd hx hb dL_law_614 ?_
  refine va_sld hx hb hX hbl hbA hS (ns_inL (k := 1) hi (by decide) hL) dL_law_615 ?_
  refine lv_aload_n hx hb dL_law_616 rfl (lv_at hl 0 rfl) ?_
  refine lv_iload_n hx hb dL_law_617 rfl (lv_at hl 3 rfl) ?_
  refine lv_iconst (v := 2) hx hb dL_law_618 (by decide) ?_
  refine lv_iadd hx hb dL_law_619 ?_
  refine va_sld hx hb hX hbl hbA hS (ns_inL (k := 2) hi (by decide) hL) dL_law_620 ?_
  refine lv_i2l hx hb dL_law_621 rfl ?_
  refine lv_bipush (v := 32) hx hb dL_law_622 (by decide) ?_
  refine lv_lshl hx hb dL_law_624 rfl ?_
  refine lv_aload_n hx hb dL_law_625 rfl (lv_at hl 0 rfl) ?_
  refine lv_iload_n hx hb dL_law_626 rfl (lv_at hl 3 rfl) ?_
  refine lv_iconst (v := 3) hx hb dL_law_627 (by decide) ?_
  refine lv_iadd hx hb dL_law_628 ?_
  refine va_sld hx hb hX hbl hbA hS (ns_inL (k := 3) hi (by decide) hL) dL_law_629 ?_
  refine lv_i2l hx hb dL_law_630 rfl ?_
  refine lv_ldc2 hx hb hown k21 dL_law_631 ?_
  refine lv_land hx hb dL_law_634 ?_
  refine lv_lor hx hb dL_law_635 ?_
  obtain ⟨sd, pz, tc, st, tr, sc, P, Mn, T, Wt, Rn, Po, Pl, Sp, Ks, Kp, Kc, Ik, O, gr, As, hI, hC⟩ := hLR
  refine rC_weight F hKc hI hC hS hA hl.1 (Nat.le_of_ble_eq_true rfl) hc hs dL_law_636 (fun r636 H locs hr636 hC hS => ?_)
  obtain ⟨Y, hM, bk⟩ := CA_m hC
  refine lv_pop hx hb dL_law_639 rfl ?_
  refine lv_aload_n hx hb dL_law_640 rfl (lv_at hl 2 rfl) ?_
  refine lv_aload_n hx hb dL_law_641 rfl (lv_at hl 0 rfl) ?_
  refine lv_iload_n hx hb dL_law_642 rfl (lv_at hl 3 rfl) ?_
  refine lv_iconst (v := 1) hx hb dL_law_643 (by decide) ?_
  refine lv_iadd hx hb dL_law_644 ?_
  refine va_sld hx hb hX hbl hbA hS (ns_inL (k := 1) hi (by decide) hL) dL_law_645 ?_
  refine lv_aload_n hx hb dL_law_646 rfl (lv_at hl 0 rfl) ?_
  refine lv_iload_n hx hb dL_law_647 rfl (lv_at hl 3 rfl) ?_
  refine lv_iconst (v := 2) hx hb dL_law_648 (by decide) ?_
  refine lv_iadd hx hb dL_law_649 ?_
  refine va_sld hx hb hX hbl hbA hS (ns_inL (k := 2) hi (by decide) hL) dL_law_650 ?_
  refine lv_i2l hx hb dL_law_651 rfl ?_
  refine lv_bipush (v := 32) hx hb dL_law_652 (by decide) ?_
  refine lv_lshl hx hb dL_law_654 rfl ?_
  refine lv_aload_n hx hb dL_law_655 rfl (lv_at hl 0 rfl) ?_
  refine lv_iload_n hx hb dL_law_656 rfl (lv_at hl 3 rfl) ?_
  refine lv_iconst (v := 3) hx hb dL_law_657 (by decide) ?_
  refine lv_iadd hx hb dL_law_658 ?_
  refine va_sld hx hb hX hbl hbA hS (ns_inL (k := 3) hi (by decide) hL) dL_law_659 ?_
  refine lv_i2l hx hb dL_law_660 rfl ?_
  refine lv_ldc2 hx hb hown k21 dL_law_661 ?_
  refine lv_land hx hb dL_law_664 ?_
  refine lv_lor hx hb dL_law_665 ?_
  refine rM_weight F hKm hI hM hS hA hl.1 (Nat.le_of_ble_eq_true rfl) hc2 hs2 dL_law_666 (fun r666 H locs hr666 hM hS => ?_)
  obtain ⟨gr, As, hC⟩ := bk _ hM
  have hLR : LR A0 D ad ca bd cb H := ⟨_, _, _, _, _, _, _, _, _, _, _, _, _, _, _, _, _, _, _, gr, As, aI_weight hI, hC⟩
  refine lv_pop hx hb dL_law_669 rfl ?_
  exact lv_goto (tgt := 1227) hx hb dL_law_670 (by decide) (kk _ _ hLR hS)
set_option maxHeartbeats 1000000 in
set_option maxRecDepth 100000 in
theorem lc_7 (F : CallFix p m c cL_law 4 s #[Value.ref b] wsL_law RL) (k21 : (Cond.constantLong RL 21 (4294967295)).before #[Value.ref b] s = true) (hKc : nkK D (tC ca) s) (hKm : nkK D (tM cb) s) (hX : va_X b L xs s s.heap) (hbl : b < s.heap.size) (hbA : ¬ A0 b) (hi : 10 + 9 * i ≤ L) (hL : L ≤ 4609) (hLR : LR A0 D ad ca bd cb H) (hS : va_S A0 s.heap H locs) (hA : ∀ q : Nat, s.heap.size ≤ q → A0 q) (hl : lv_has ls 4 [(0, .ref b), (1, .ref (ad 0)), (2, .ref (bd 0)), (3, .int (nI (1 + 9 * i)))]) (hc : cells + 1 ≤ 726897) (hs : slots + 4 ≤ 6921558) (hc2 : cells + 1 + 1 ≤ 726897) (hs2 : slots + 4 + 4 ≤ 6921558)
    (kk : ∀ (H1 : Heap) (locs1 : List Loc), LR A0 D ad ca bd cb H1 → va_S A0 s.heap H1 locs1 → W p l e room_1 s m #[Value.ref b] below meth c H1 locs1 (cells + 1) (slots + 4) Q (F0 m 1227 ls [])) : W p l e room_1 s m #[Value.ref b] below meth c H locs cells slots Q (F0 m 673 ls []) := by
  obtain ⟨hx, hb, hml, hown, hts⟩ := id F
  refine lv_aload_n hx hb dL_law_673 rfl (lv_at hl 1 rfl) ?_
  refine lv_aload_n hx hb dL_law_674 rfl (lv_at hl 0 rfl) ?_
  refine lv_iload_n hx hb dL_law_675 rfl (lv_at hl 3 rfl) ?_
  refine lv_iconst (v := 1) hx hb dL_law_676 (by decide) ?_
  refine lv_iadd hx hb dL_law_677 ?_
  refine va_sld hx hb hX hbl hbA hS (ns_inL (k := 1) hi (by decide) hL) dL_law_678 ?_
  refine lv_i2l hx hb dL_law_679 rfl ?_
  refine lv_bipush (v := 32) hx hb dL_law_680 (by decide) ?_
  refine lv_lshl hx hb dL_law_682 rfl ?_
  refine lv_aload_n hx hb dL_law_683 rfl (lv_at hl 0 rfl) ?_
  refine lv_iload_n hx hb dL_law_684 rfl (lv_at hl 3 rfl) ?_
  refine lv_iconst (v := 2) hx hb dL_law_685 (by decide) ?_
  refine lv_iadd hx hb dL_law_686 ?_
  refine va_sld hx hb hX hbl hbA hS (ns_inL (k := 2) hi (by decide) hL) dL_law_687 ?_
  refine lv_i2l hx hb dL_law_688 rfl ?_
  refine lv_ldc2 hx hb hown k21 dL_law_689 ?_
  refine lv_land hx hb dL_law_692 ?_
  refine lv_lor hx hb dL_law_693 ?_
  refine lv_aload_n hx hb dL_law_694 rfl (lv_at hl 0 rfl) ?_
  refine lv_iload_n hx hb dL_law_695 rfl (lv_at hl 3 rfl) ?_
  refine lv_iconst (v := 3) hx hb dL_law_696 (by decide) ?_
  refine lv_iadd hx hb dL_law_697 ?_
  refine va_sld hx hb hX hbl hbA hS (ns_inL (k := 3) hi (by decide) hL) dL_law_698 ?_
  refine lv_aload_n hx hb dL_law_699 rfl (lv_at hl 0 rfl) ?_
  refine lv_iload_n hx hb dL_law_700 rfl (lv_at hl 3 rfl) ?_
  refine lv_iconst (v := 4) hx hb dL_law_701 (by decide) ?_
  refine lv_iadd hx hb dL_law_702 ?_
  refine va_sld hx hb hX hbl hbA hS (ns_inL (k := 4) hi (by decide) hL) dL_law_703 ?_
  obtain ⟨sd, pz, tc, st, tr, sc, P, Mn, T, Wt, Rn, Po, Pl, Sp, Ks, Kp, Kc, Ik, O, gr, As, hI, hC⟩ := hLR
  refine rC_pick F hKc hI hC hS hA hl.1 (Nat.le_of_ble_eq_true rfl) hc hs dL_law_704 (fun r704 H locs hr704 hC hS => ?_)
  obtain ⟨Y, hM, bk⟩ := CA_m hC
  refine lv_pop hx hb dL_law_707 rfl ?_
  refine lv_aload_n hx hb dL_law_708 rfl (lv_at hl 2 rfl) ?_
  refine lv_aload_n hx hb dL_law_709 rfl (lv_at hl 0 rfl) ?_
  refine lv_iload_n hx hb dL_law_710 rfl (lv_at hl 3 rfl) ?_
  refine lv_iconst (v := 1) hx hb dL_law_711 (by decide) ?_
  refine lv_iadd hx hb dL_law_712 ?_
  refine va_sld hx hb hX hbl hbA hS (ns_inL (k := 1) hi (by decide) hL) dL_law_713 ?_
  refine lv_i2l hx hb dL_law_714 rfl ?_
  refine lv_bipush (v := 32) hx hb dL_law_715 (by decide) ?_
  refine lv_lshl hx hb dL_law_717 rfl ?_
  refine lv_aload_n hx hb dL_law_718 rfl (lv_at hl 0 rfl) ?_
  refine lv_iload_n hx hb dL_law_719 rfl (lv_at hl 3 rfl) ?_
  refine lv_iconst (v := 2) hx hb dL_law_720 (by decide) ?_
  refine lv_iadd hx hb dL_law_721 ?_
  refine va_sld hx hb hX hbl hbA hS (ns_inL (k := 2) hi (by decide) hL) dL_law_722 ?_
  refine lv_i2l hx hb dL_law_723 rfl ?_
  refine lv_ldc2 hx hb hown k21 dL_law_724 ?_
  refine lv_land hx hb dL_law_727 ?_
  refine lv_lor hx hb dL_law_728 ?_
  refine lv_aload_n hx hb dL_law_729 rfl (lv_at hl 0 rfl) ?_
  refine lv_iload_n hx hb dL_law_730 rfl (lv_at hl 3 rfl) ?_
  refine lv_iconst (v := 3) hx hb dL_law_731 (by decide) ?_
  refine lv_iadd hx hb dL_law_732 ?_
  refine va_sld hx hb hX hbl hbA hS (ns_inL (k := 3) hi (by decide) hL) dL_law_733 ?_
  refine lv_aload_n hx hb dL_law_734 rfl (lv_at hl 0 rfl) ?_
  refine lv_iload_n hx hb dL_law_735 rfl (lv_at hl 3 rfl) ?_
  refine lv_iconst (v := 4) hx hb dL_law_736 (by decide) ?_
  refine lv_iadd hx hb dL_law_737 ?_
  refine va_sld hx hb hX hbl hbA hS (ns_inL (k := 4) hi (by decide) hL) dL_law_738 ?_
  refine rM_pick F hKm hI hM hS hA hl.1 (Nat.le_of_ble_eq_true rfl) hc2 hs2 dL_law_739 (fun r739 H locs hr739 hM hS => ?_)
  obtain ⟨gr, As, hC⟩ := bk _ hM
  have hLR : LR A0 D ad ca bd cb H := ⟨_, _, _, _, _, _, _, _, _, _, _, _, _, _, _, _, _, _, _, gr, As, hI, hC⟩
  refine lv_pop hx hb dL_law_742 rfl ?_
  exact lv_goto (tgt := 1227) hx hb dL_law_743 (by decide) (kk _ _ hLR hS)
set_option maxHeartbeats 1000000 in
set_option maxRecDepth 100000 in
theorem lc_8 (F : CallFix p m c cL_law 4 s #[Value.ref b] wsL_law RL) (k21 : (Cond.constantLong RL 21 (4294967295)).before #[Value.ref b] s = true) (hKc : nkK D (tC ca) s) (hKm : nkK D (tM cb) s) (hX : va_X b L xs s s.heap) (hbl : b < s.heap.size) (hbA : ¬ A0 b) (hi : 10 + 9 * i ≤ L) (hL : L ≤ 4609) (hLR : LR A0 D ad ca bd cb H) (hS : va_S A0 s.heap H locs) (hA : ∀ q : Nat, s.heap.size ≤ q → A0 q) (hl : lv_has ls 4 [(0, .ref b), (1, .ref (ad 0)), (2, .ref (bd 0)), (3, .int (nI (1 + 9 * i)))]) (hc : cells + 1 ≤ 726897) (hs : slots + 4 ≤ 6921558) (hc2 : cells + 1 + 1 ≤ 726897) (hs2 : slots + 4 + 4 ≤ 6921558)
    (kk : ∀ (H1 : Heap) (locs1 : List Loc), LR A0 D ad ca bd cb H1 → va_S A0 s.heap H1 locs1 → W p l e room_1 s m #[Value.ref b] below meth c H1 locs1 (cells + 1) (slots + 4) Q (F0 m 1227 ls [])) : W p l e room_1 s m #[Value.ref b] below meth c H locs cells slots Q (F0 m 746 ls []) := by
  obtain ⟨hx, hb, hml, hown, hts⟩ := id F
  refine lv_aload_n hx hb dL_law_746 rfl (lv_at hl 1 rfl) ?_
  refine lv_aload_n hx hb dL_law_747 rfl (lv_at hl 0 rfl) ?_
  refine lv_iload_n hx hb dL_law_748 rfl (lv_at hl 3 rfl) ?_
  refine lv_iconst (v := 1) hx hb dL_law_749 (by decide) ?_
  refine lv_iadd hx hb dL_law_750 ?_
  refine va_sld hx hb hX hbl hbA hS (ns_inL (k := 1) hi (by decide) hL) dL_law_751 ?_
  refine lv_i2l hx hb dL_law_752 rfl ?_
  refine lv_bipush (v := 32) hx hb dL_law_753 (by decide) ?_
  refine lv_lshl hx hb dL_law_755 rfl ?_
  refine lv_aload_n hx hb dL_law_756 rfl (lv_at hl 0 rfl) ?_
  refine lv_iload_n hx hb dL_law_757 rfl (lv_at hl 3 rfl) ?_
  refine lv_iconst (v := 2) hx hb dL_law_758 (by decide) ?_
  refine lv_iadd hx hb dL_law_759 ?_
  refine va_sld hx hb hX hbl hbA hS (ns_inL (k := 2) hi (by decide) hL) dL_law_760 ?_
  refine lv_i2l hx hb dL_law_761 rfl ?_
  refine lv_ldc2 hx hb hown k21 dL_law_762 ?_
  refine lv_land hx hb dL_law_765 ?_
  refine lv_lor hx hb dL_law_766 ?_
  refine lv_aload_n hx hb dL_law_767 rfl (lv_at hl 0 rfl) ?_
  refine lv_iload_n hx hb dL_law_768 rfl (lv_at hl 3 rfl) ?_
  refine lv_iconst (v := 3) hx hb dL_law_769 (by decide) ?_
  refine lv_iadd hx hb dL_law_770 ?_
  refine va_sld hx hb hX hbl hbA hS (ns_inL (k := 3) hi (by decide) hL) dL_law_771 ?_
  refine lv_aload_n hx hb dL_law_772 rfl (lv_at hl 0 rfl) ?_
  refine lv_iload_n hx hb dL_law_773 rfl (lv_at hl 3 rfl) ?_
  refine lv_iconst (v := 4) hx hb dL_law_774 (by decide) ?_
  refine lv_iadd hx hb dL_law_775 ?_
  refine va_sld hx hb hX hbl hbA hS (ns_inL (k := 4) hi (by decide) hL) dL_law_776 ?_
  refine lv_aload_n hx hb dL_law_777 rfl (lv_at hl 0 rfl) ?_
  refine lv_iload_n hx hb dL_law_778 rfl (lv_at hl 3 rfl) ?_
  refine lv_iconst (v := 5) hx hb dL_law_779 (by decide) ?_
  refine lv_iadd hx hb dL_law_780 ?_
  refine va_sld hx hb hX hbl hbA hS (ns_inL (k := 5) hi (by decide) hL) dL_law_781 ?_
  refine lv_aload_n hx hb dL_law_782 rfl (lv_at hl 0 rfl) ?_
  refine lv_iload_n hx hb dL_law_783 rfl (lv_at hl 3 rfl) ?_
  refine lv_bipush (v := 6) hx hb dL_law_784 (by decide) ?_
  refine lv_iadd hx hb dL_law_786 ?_
  refine va_sld hx hb hX hbl hbA hS (ns_inL (k := 6) hi (by decide) hL) dL_law_787 ?_
  obtain ⟨sd, pz, tc, st, tr, sc, P, Mn, T, Wt, Rn, Po, Pl, Sp, Ks, Kp, Kc, Ik, O, gr, As, hI, hC⟩ := hLR
  refine rC_permuted F hKc hI hC hS hA hl.1 (Nat.le_of_ble_eq_true rfl) hc hs dL_law_788 (fun r788 H locs hr788 hC hS => ?_)
  obtain ⟨Y, hM, bk⟩ := CA_m hC
  refine lv_pop hx hb dL_law_791 rfl ?_
  refine lv_aload_n hx hb dL_law_792 rfl (lv_at hl 2 rfl) ?_
  refine lv_aload_n hx hb dL_law_793 rfl (lv_at hl 0 rfl) ?_
  refine lv_iload_n hx hb dL_law_794 rfl (lv_at hl 3 rfl) ?_
  refine lv_iconst (v := 1) hx hb dL_law_795 (by decide) ?_
  refine lv_iadd hx hb dL_law_796 ?_
  refine va_sld hx hb hX hbl hbA hS (ns_inL (k := 1) hi (by decide) hL) dL_law_797 ?_
  refine lv_i2l hx hb dL_law_798 rfl ?_
  refine lv_bipush (v := 32) hx hb dL_law_799 (by decide) ?_
  refine lv_lshl hx hb dL_law_801 rfl ?_
  refine lv_aload_n hx hb dL_law_802 rfl (lv_at hl 0 rfl) ?_
  refine lv_iload_n hx hb dL_law_803 rfl (lv_at hl 3 rfl) ?_
  refine lv_iconst (v := 2) hx hb dL_law_804 (by decide) ?_
  refine lv_iadd hx hb dL_law_805 ?_
  refine va_sld hx hb hX hbl hbA hS (ns_inL (k := 2) hi (by decide) hL) dL_law_806 ?_
  refine lv_i2l hx hb dL_law_807 rfl ?_
  refine lv_ldc2 hx hb hown k21 dL_law_808 ?_
  refine lv_land hx hb dL_law_811 ?_
  refine lv_lor hx hb dL_law_812 ?_
  refine lv_aload_n hx hb dL_law_813 rfl (lv_at hl 0 rfl) ?_
  refine lv_iload_n hx hb dL_law_814 rfl (lv_at hl 3 rfl) ?_
  refine lv_iconst (v := 3) hx hb dL_law_815 (by decide) ?_
  refine lv_iadd hx hb dL_law_816 ?_
  refine va_sld hx hb hX hbl hbA hS (ns_inL (k := 3) hi (by decide) hL) dL_law_817 ?_
  refine lv_aload_n hx hb dL_law_818 rfl (lv_at hl 0 rfl) ?_
  refine lv_iload_n hx hb dL_law_819 rfl (lv_at hl 3 rfl) ?_
  refine lv_iconst (v := 4) hx hb dL_law_820 (by decide) ?_
  refine lv_iadd hx hb dL_law_821 ?_
  refine va_sld hx hb hX hbl hbA hS (ns_inL (k := 4) hi (by decide) hL) dL_law_822 ?_
  refine lv_aload_n hx hb dL_law_823 rfl (lv_at hl 0 rfl) ?_
  refine lv_iload_n hx hb dL_law_824 rfl (lv_at hl 3 rfl) ?_
  refine lv_iconst (v := 5) hx hb dL_law_825 (by decide) ?_
  refine lv_iadd hx hb dL_law_826 ?_
  refine va_sld hx hb hX hbl hbA hS (ns_inL (k := 5) hi (by decide) hL) dL_law_827 ?_
  refine lv_aload_n hx hb dL_law_828 rfl (lv_at hl 0 rfl) ?_
  refine lv_iload_n hx hb dL_law_829 rfl (lv_at hl 3 rfl) ?_
  refine lv_bipush (v := 6) hx hb dL_law_830 (by decide) ?_
  refine lv_iadd hx hb dL_law_832 ?_
  refine va_sld hx hb hX hbl hbA hS (ns_inL (k := 6) hi (by decide) hL) dL_law_833 ?_
  refine rM_permuted F hKm hI hM hS hA hl.1 (Nat.le_of_ble_eq_true rfl) hc2 hs2 dL_law_834 (fun r834 H locs hr834 hM hS => ?_)
  obtain ⟨gr, As, hC⟩ := bk _ hM
  have hLR : LR A0 D ad ca bd cb H := ⟨_, _, _, _, _, _, _, _, _, _, _, _, _, _, _, _, _, _, _, gr, As, hI, hC⟩
  refine lv_pop hx hb dL_law_837 rfl ?_
  exact lv_goto (tgt := 1227) hx hb dL_law_838 (by decide) (kk _ _ hLR hS)
set_option maxHeartbeats 1000000 in
set_option maxRecDepth 100000 in
theorem lc_9 (F : CallFix p m c cL_law 4 s #[Value.ref b] wsL_law RL) (k21 : (Cond.constantLong RL 21 (4294967295)).before #[Value.ref b] s = true) (hKc : nkK D (tC ca) s) (hKm : nkK D (tM cb) s) (hX : va_X b L xs s s.heap) (hbl : b < s.heap.size) (hbA : ¬ A0 b) (hi : 10 + 9 * i ≤ L) (hL : L ≤ 4609) (hLR : LR A0 D ad ca bd cb H) (hS : va_S A0 s.heap H locs) (hA : ∀ q : Nat, s.heap.size ≤ q → A0 q) (hl : lv_has ls 4 [(0, .ref b), (1, .ref (ad 0)), (2, .ref (bd 0)), (3, .int (nI (1 + 9 * i)))]) (hc : cells + 1 ≤ 726897) (hs : slots + 4 ≤ 6921558) (hc2 : cells + 1 + 1 ≤ 726897) (hs2 : slots + 4 + 4 ≤ 6921558)
    (kk : ∀ (H1 : Heap) (locs1 : List Loc), LR A0 D ad ca bd cb H1 → va_S A0 s.heap H1 locs1 → W p l e room_1 s m #[Value.ref b] below meth c H1 locs1 (cells + 1) (slots + 4) Q (F0 m 1227 ls [])) : W p l e room_1 s m #[Value.ref b] below meth c H locs cells slots Q (F0 m 841 ls []) := by
  obtain ⟨hx, hb, hml, hown, hts⟩ := id F
  refine lv_aload_n hx hb dL_law_841 rfl (lv_at hl 1 rfl) ?_
  obtain ⟨sd, pz, tc, st, tr, sc, P, Mn, T, Wt, Rn, Po, Pl, Sp, Ks, Kp, Kc, Ik, O, gr, As, hI, hC⟩ := hLR
  refine rC_tries F hKc hI hC hS hA hl.1 (Nat.le_of_ble_eq_true rfl) hc hs dL_law_842 (fun r842 H locs hr842 hC hS => ?_)
  obtain ⟨Y, hM, bk⟩ := CA_m hC
  refine lv_pop hx hb dL_law_845 rfl ?_
  refine lv_aload_n hx hb dL_law_846 rfl (lv_at hl 2 rfl) ?_
  refine rM_tries F hKm hI hM hS hA hl.1 (Nat.le_of_ble_eq_true rfl) hc2 hs2 dL_law_847 (fun r847 H locs hr847 hM hS => ?_)
  obtain ⟨gr, As, hC⟩ := bk _ hM
  have hLR : LR A0 D ad ca bd cb H := ⟨_, _, _, _, _, _, _, _, _, _, _, _, _, _, _, _, _, _, _, gr, As, hI, hC⟩
  refine lv_pop hx hb dL_law_850 rfl ?_
  exact lv_goto (tgt := 1227) hx hb dL_law_851 (by decide) (kk _ _ hLR hS)
end LC1
