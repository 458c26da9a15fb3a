section LC2
variable {p : Program} {l : Launch} {e : Env} {s : State} {m : MethodId} {below : List Frame} {meth : Method} {c : Code} {b : Nat} {Q : State → Prop} {H : Heap} {locs : List Loc} {cells slots : Nat} {ls : Array Slot} {D : va_G} {ad bd : Nat → Nat} {ca cb : Nat → ClassId} {A0 : Nat → Prop} {L i : Nat} {xs : Nat → Int32}
set_option maxHeartbeats 1000000 in
set_option maxRecDepth 100000 in
theorem lc_10 (F : CallFix p m c cL_law 4 s #[Value.ref b] wsL_law RL) (k21 : (Cond.constantLong RL 21 (4294967295)).before #[Value.ref b] s = true) (hKc : nkK D (tC ca) s) (hKm : nkK D (tM cb) s) (hX : va_X b L xs s s.heap) (hbl : b < s.heap.size) (hbA : ¬ A0 b) (hi : 10 + 9 * i ≤ L) (hL : L ≤ 4609) (hLR : LR A0 D ad ca bd cb H) (hS : va_S A0 s.heap H locs) (hA : ∀ q : Nat, s.heap.size ≤ q → A0 q) (hl : lv_has ls 4 [(0, .ref b), (1, .ref (ad 0)), (2, .ref (bd 0)), (3, .int (nI (1 + 9 * i)))]) (hc : cells + 1 ≤ 726897) (hs : slots + 4 ≤ 6921558) (hc2 : cells + 1 + 1 ≤ 726897) (hs2 : slots + 4 + 4 ≤ 6921558)
    (kk : ∀ (H1 : Heap) (locs1 : List Loc), LR A0 D ad ca bd cb H1 → va_S A0 s.heap H1 locs1 → W p l e room_1 s m #[Value.ref b] below meth c H1 locs1 (cells + 1) (slots + 4) Q (F0 m 1228 ls [])) : W p l e room_1 s m #[Value.ref b] below meth c H locs cells slots Q (F0 m 854 ls []) := by
  obtain ⟨hx, hb, hml, hown, hts⟩ := id F
  refine lv_aload_n hx hb dL_law_854 rfl (lv_at hl 1 rfl) ?_
  obtain ⟨sd, pz, tc, st, tr, sc, P, Mn, T, Wt, Rn, Po, Pl, Sp, Ks, Kp, Kc, Ik, O, gr, As, hI, hC⟩ := hLR
  refine rC_status F hKc hI hC hS hA hl.1 (Nat.le_of_ble_eq_true rfl) hc hs dL_law_855 (fun r855 H locs hr855 hC hS => ?_)
  obtain ⟨Y, hM, bk⟩ := CA_m hC
  refine lv_pop hx hb dL_law_858 rfl ?_
  refine lv_aload_n hx hb dL_law_859 rfl (lv_at hl 2 rfl) ?_
  refine rM_status F hKm hI hM hS hA hl.1 (Nat.le_of_ble_eq_true rfl) hc2 hs2 dL_law_860 (fun r860 H locs hr860 hM hS => ?_)
  obtain ⟨gr, As, hC⟩ := bk _ hM
  have hLR : LR A0 D ad ca bd cb H := ⟨_, _, _, _, _, _, _, _, _, _, _, _, _, _, _, _, _, _, _, gr, As, hI, hC⟩
  refine lv_pop hx hb dL_law_863 rfl ?_
  exact lv_goto (tgt := 1228) hx hb dL_law_864 (by decide) (kk _ _ hLR hS)
set_option maxHeartbeats 1000000 in
set_option maxRecDepth 100000 in
theorem lc_11 (F : CallFix p m c cL_law 4 s #[Value.ref b] wsL_law RL) (k21 : (Cond.constantLong RL 21 (4294967295)).before #[Value.ref b] s = true) (hKc : nkK D (tC ca) s) (hKm : nkK D (tM cb) s) (hX : va_X b L xs s s.heap) (hbl : b < s.heap.size) (hbA : ¬ A0 b) (hi : 10 + 9 * i ≤ L) (hL : L ≤ 4609) (hLR : LR A0 D ad ca bd cb H) (hS : va_S A0 s.heap H locs) (hA : ∀ q : Nat, s.heap.size ≤ q → A0 q) (hl : lv_has ls 4 [(0, .ref b), (1, .ref (ad 0)), (2, .ref (bd 0)), (3, .int (nI (1 + 9 * i)))]) (hc : cells + 1 ≤ 726897) (hs : slots + 4 ≤ 6921558) (hc2 : cells + 1 + 1 ≤ 726897) (hs2 : slots + 4 + 4 ≤ 6921558)
    (kk : ∀ (H1 : Heap) (locs1 : List Loc), LR A0 D ad ca bd cb H1 → va_S A0 s.heap H1 locs1 → W p l e room_1 s m #[Value.ref b] below meth c H1 locs1 (cells + 1) (slots + 4) Q (F0 m 1228 ls [])) : W p l e room_1 s m #[Value.ref b] below meth c H locs cells slots Q (F0 m 867 ls []) := by
  obtain ⟨hx, hb, hml, hown, hts⟩ := id F
  refine lv_aload_n hx hb dL_law_867 rfl (lv_at hl 1 rfl) ?_
  refine lv_aload_n hx hb dL_law_868 rfl (lv_at hl 0 rfl) ?_
  refine lv_iload_n hx hb dL_law_869 rfl (lv_at hl 3 rfl) ?_
  refine lv_iconst (v := 1) hx hb dL_law_870 (by decide) ?_
  refine lv_iadd hx hb dL_law_871 ?_
  refine va_sld hx hb hX hbl hbA hS (ns_inL (k := 1) hi (by decide) hL) dL_law_872 ?_
  refine lv_i2l hx hb dL_law_873 rfl ?_
  refine lv_bipush (v := 32) hx hb dL_law_874 (by decide) ?_
  refine lv_lshl hx hb dL_law_876 rfl ?_
  refine lv_aload_n hx hb dL_law_877 rfl (lv_at hl 0 rfl) ?_
  refine lv_iload_n hx hb dL_law_878 rfl (lv_at hl 3 rfl) ?_
  refine lv_iconst (v := 2) hx hb dL_law_879 (by decide) ?_
  refine lv_iadd hx hb dL_law_880 ?_
  refine va_sld hx hb hX hbl hbA hS (ns_inL (k := 2) hi (by decide) hL) dL_law_881 ?_
  refine lv_i2l hx hb dL_law_882 rfl ?_
  refine lv_ldc2 hx hb hown k21 dL_law_883 ?_
  refine lv_land hx hb dL_law_886 ?_
  refine lv_lor hx hb dL_law_887 ?_
  refine lv_aload_n hx hb dL_law_888 rfl (lv_at hl 0 rfl) ?_
  refine lv_iload_n hx hb dL_law_889 rfl (lv_at hl 3 rfl) ?_
  refine lv_iconst (v := 3) hx hb dL_law_890 (by decide) ?_
  refine lv_iadd hx hb dL_law_891 ?_
  refine va_sld hx hb hX hbl hbA hS (ns_inL (k := 3) hi (by decide) hL) dL_law_892 ?_
  obtain ⟨sd, pz, tc, st, tr, sc, P, Mn, T, Wt, Rn, Po, Pl, Sp, Ks, Kp, Kc, Ik, O, gr, As, hI, hC⟩ := hLR
  refine rC_open F hKc hI hC hS hA hl.1 (Nat.le_of_ble_eq_true rfl) hc hs dL_law_893 (fun r893 H locs hr893 hC hS => ?_)
  obtain ⟨Y, hM, bk⟩ := CA_m hC
  refine lv_pop hx hb dL_law_896 rfl ?_
  refine lv_aload_n hx hb dL_law_897 rfl (lv_at hl 2 rfl) ?_
  refine lv_aload_n hx hb dL_law_898 rfl (lv_at hl 0 rfl) ?_
  refine lv_iload_n hx hb dL_law_899 rfl (lv_at hl 3 rfl) ?_
  refine lv_iconst (v := 1) hx hb dL_law_900 (by decide) ?_
  refine lv_iadd hx hb dL_law_901 ?_
  refine va_sld hx hb hX hbl hbA hS (ns_inL (k := 1) hi (by decide) hL) dL_law_902 ?_
  refine lv_i2l hx hb dL_law_903 rfl ?_
  refine lv_bipush (v := 32) hx hb dL_law_904 (by decide) ?_
  refine lv_lshl hx hb dL_law_906 rfl ?_
  refine lv_aload_n hx hb dL_law_907 rfl (lv_at hl 0 rfl) ?_
  refine lv_iload_n hx hb dL_law_908 rfl (lv_at hl 3 rfl) ?_
  refine lv_iconst (v := 2) hx hb dL_law_909 (by decide) ?_
  refine lv_iadd hx hb dL_law_910 ?_
  refine va_sld hx hb hX hbl hbA hS (ns_inL (k := 2) hi (by decide) hL) dL_law_911 ?_
  refine lv_i2l hx hb dL_law_912 rfl ?_
  refine lv_ldc2 hx hb hown k21 dL_law_913 ?_
  refine lv_land hx hb dL_law_916 ?_
  refine lv_lor hx hb dL_law_917 ?_
  refine lv_aload_n hx hb dL_law_918 rfl (lv_at hl 0 rfl) ?_
  refine lv_iload_n hx hb dL_law_919 rfl (lv_at hl 3 rfl) ?_
  refine lv_iconst (v := 3) hx hb dL_law_920 (by decide) ?_
  refine lv_iadd hx hb dL_law_921 ?_
  refine va_sld hx hb hX hbl hbA hS (ns_inL (k := 3) hi (by decide) hL) dL_law_922 ?_
  refine rM_open F hKm hI hM hS hA hl.1 (Nat.le_of_ble_eq_true rfl) hc2 hs2 dL_law_923 (fun r923 H locs hr923 hM hS => ?_)
  obtain ⟨gr, As, hC⟩ := bk _ hM
  have hLR : LR A0 D ad ca bd cb H := ⟨_, _, _, _, _, _, _, _, _, _, _, _, _, _, _, _, _, _, _, gr, As, aI_open hI, hC⟩
  refine lv_pop hx hb dL_law_926 rfl ?_
  exact lv_goto (tgt := 1228) hx hb dL_law_927 (by decide) (kk _ _ hLR hS)
set_option maxHeartbeats 1000000 in
set_option maxRecDepth 100000 in
theorem lc_12 (F : CallFix p m c cL_law 4 s #[Value.ref b] wsL_law RL) (k21 : (Cond.constantLong RL 21 (4294967295)).before #[Value.ref b] s = true) (hKc : nkK D (tC ca) s) (hKm : nkK D (tM cb) s) (hX : va_X b L xs s s.heap) (hbl : b < s.heap.size) (hbA : ¬ A0 b) (hi : 10 + 9 * i ≤ L) (hL : L ≤ 4609) (hLR : LR A0 D ad ca bd cb H) (hS : va_S A0 s.heap H locs) (hA : ∀ q : Nat, s.heap.size ≤ q → A0 q) (hl : lv_has ls 4 [(0, .ref b), (1, .ref (ad 0)), (2, .ref (bd 0)), (3, .int (nI (1 + 9 * i)))]) (hc : cells + 1 ≤ 726897) (hs : slots + 4 ≤ 6921558) (hc2 : cells + 1 + 1 ≤ 726897) (hs2 : slots + 4 + 4 ≤ 6921558)
    (kk : ∀ (H1 : Heap) (locs1 : List Loc), LR A0 D ad ca bd cb H1 → va_S A0 s.heap H1 locs1 → W p l e room_1 s m #[Value.ref b] below meth c H1 locs1 (cells + 1) (slots + 4) Q (F0 m 1228 ls [])) : W p l e room_1 s m #[Value.ref b] below meth c H locs cells slots Q (F0 m 930 ls []) := by
  obtain ⟨hx, hb, hml, hown, hts⟩ := id F
  refine lv_aload_n hx hb dL_law_930 rfl (lv_at hl 1 rfl) ?_
  refine lv_aload_n hx hb dL_law_931 rfl (lv_at hl 0 rfl) ?_
  refine lv_iload_n hx hb dL_law_932 rfl (lv_at hl 3 rfl) ?_
  refine lv_iconst (v := 1) hx hb dL_law_933 (by decide) ?_
  refine lv_iadd hx hb dL_law_934 ?_
  refine va_sld hx hb hX hbl hbA hS (ns_inL (k := 1) hi (by decide) hL) dL_law_935 ?_
  refine lv_aload_n hx hb dL_law_936 rfl (lv_at hl 0 rfl) ?_
  refine lv_iload_n hx hb dL_law_937 rfl (lv_at hl 3 rfl) ?_
  refine lv_iconst (v := 2) hx hb dL_law_938 (by decide) ?_
  refine lv_iadd hx hb dL_law_939 ?_
  refine va_sld hx hb hX hbl hbA hS (ns_inL (k := 2) hi (by decide) hL) dL_law_940 ?_
  refine lv_i2l hx hb dL_law_941 rfl ?_
  refine lv_bipush (v := 32) hx hb dL_law_942 (by decide) ?_
  refine lv_lshl hx hb dL_law_944 rfl ?_
  refine lv_aload_n hx hb dL_law_945 rfl (lv_at hl 0 rfl) ?_
  refine lv_iload_n hx hb dL_law_946 rfl (lv_at hl 3 rfl) ?_
  refine lv_iconst (v := 3) hx hb dL_law_947 (by decide) ?_
  refine lv_iadd hx hb dL_law_948 ?_
  refine va_sld hx hb hX hbl hbA hS (ns_inL (k := 3) hi (by decide) hL) dL_law_949 ?_
  refine lv_i2l hx hb dL_law_950 rfl ?_
  refine lv_ldc2 hx hb hown k21 dL_law_951 ?_
  refine lv_land hx hb dL_law_954 ?_
  refine lv_lor hx hb dL_law_955 ?_
  obtain ⟨sd, pz, tc, st, tr, sc, P, Mn, T, Wt, Rn, Po, Pl, Sp, Ks, Kp, Kc, Ik, O, gr, As, hI, hC⟩ := hLR
  refine rC_next F hKc hI hC hS hA hl.1 (Nat.le_of_ble_eq_true rfl) hc hs dL_law_956 (fun r956 H locs hr956 hC hS => ?_)
  obtain ⟨Y, hM, bk⟩ := CA_m hC
  refine lv_aload_n hx hb dL_law_959 rfl (lv_at hl 2 rfl) ?_
  refine lv_aload_n hx hb dL_law_960 rfl (lv_at hl 0 rfl) ?_
  refine lv_iload_n hx hb dL_law_961 rfl (lv_at hl 3 rfl) ?_
  refine lv_iconst (v := 1) hx hb dL_law_962 (by decide) ?_
  refine lv_iadd hx hb dL_law_963 ?_
  refine va_sld hx hb hX hbl hbA hS (ns_inL (k := 1) hi (by decide) hL) dL_law_964 ?_
  refine lv_aload_n hx hb dL_law_965 rfl (lv_at hl 0 rfl) ?_
  refine lv_iload_n hx hb dL_law_966 rfl (lv_at hl 3 rfl) ?_
  refine lv_iconst (v := 2) hx hb dL_law_967 (by decide) ?_
  refine lv_iadd hx hb dL_law_968 ?_
  refine va_sld hx hb hX hbl hbA hS (ns_inL (k := 2) hi (by decide) hL) dL_law_969 ?_
  refine lv_i2l hx hb dL_law_970 rfl ?_
  refine lv_bipush (v := 32) hx hb dL_law_971 (by decide) ?_
  refine lv_lshl hx hb dL_law_973 rfl ?_
  refine lv_aload_n hx hb dL_law_974 rfl (lv_at hl 0 rfl) ?_
  refine lv_iload_n hx hb dL_law_975 rfl (lv_at hl 3 rfl) ?_
  refine lv_iconst (v := 3) hx hb dL_law_976 (by decide) ?_
  refine lv_iadd hx hb dL_law_977 ?_
  refine va_sld hx hb hX hbl hbA hS (ns_inL (k := 3) hi (by decide) hL) dL_law_978 ?_
  refine lv_i2l hx hb dL_law_979 rfl ?_
  refine lv_ldc2 hx hb hown k21 dL_law_980 ?_
  refine lv_land hx hb dL_law_983 ?_
  refine lv_lor hx hb dL_law_984 ?_
  refine rM_next F hKm hI hM hS hA hl.1 (Nat.le_of_ble_eq_true rfl) hc2 hs2 dL_law_985 (fun r985 H locs hr985 hM hS => ?_)
  obtain ⟨gr, As, hC⟩ := bk _ hM
  have hLR : LR A0 D ad ca bd cb H := ⟨_, _, _, _, _, _, _, _, _, _, _, _, _, _, _, _, _, _, _, gr, As, hI, hC⟩
  refine W.lcmp hx hb dL_law_988 ?_
  exact lv_if_eq (tgt := 1228) hx hb dL_law_989 (by decide) (fun _ => kk _ _ hLR hS) (fun hne => absurd ((lg_cmp_eq _ _).mpr (hr956.trans hr985.symm)) hne)
set_option maxHeartbeats 1000000 in
set_option maxRecDepth 100000 in
theorem lc_13 (F : CallFix p m c cL_law 4 s #[Value.ref b] wsL_law RL) (k21 : (Cond.constantLong RL 21 (4294967295)).before #[Value.ref b] s = true) (hKc : nkK D (tC ca) s) (hKm : nkK D (tM cb) s) (hX : va_X b L xs s s.heap) (hbl : b < s.heap.size) (hbA : ¬ A0 b) (hi : 10 + 9 * i ≤ L) (hL : L ≤ 4609) (hLR : LR A0 D ad ca bd cb H) (hS : va_S A0 s.heap H locs) (hA : ∀ q : Nat, s.heap.size ≤ q → A0 q) (hl : lv_has ls 4 [(0, .ref b), (1, .ref (ad 0)), (2, .ref (bd 0)), (3, .int (nI (1 + 9 * i)))]) (hc : cells + 1 ≤ 726897) (hs : slots + 4 ≤ 6921558) (hc2 : cells + 1 + 1 ≤ 726897) (hs2 : slots + 4 + 4 ≤ 6921558)
    (kk : ∀ (H1 : Heap) (locs1 : List Loc), LR A0 D ad ca bd cb H1 → va_S A0 s.heap H1 locs1 → W p l e room_1 s m #[Value.ref b] below meth c H1 locs1 (cells + 1) (slots + 4) Q (F0 m 1228 ls [])) : W p l e room_1 s m #[Value.ref b] below meth c H locs cells slots Q (F0 m 994 ls []) := by
  obtain ⟨hx, hb, hml, hown, hts⟩ := id F
  refine lv_aload_n hx hb dL_law_994 rfl (lv_at hl 1 rfl) ?_
  refine lv_aload_n hx hb dL_law_995 rfl (lv_at hl 0 rfl) ?_
  refine lv_iload_n hx hb dL_law_996 rfl (lv_at hl 3 rfl) ?_
  refine lv_iconst (v := 1) hx hb dL_law_997 (by decide) ?_
  refine lv_iadd hx hb dL_law_998 ?_
  refine va_sld hx hb hX hbl hbA hS (ns_inL (k := 1) hi (by decide) hL) dL_law_999 ?_
  obtain ⟨sd, pz, tc, st, tr, sc, P, Mn, T, Wt, Rn, Po, Pl, Sp, Ks, Kp, Kc, Ik, O, gr, As, hI, hC⟩ := hLR
  refine rC_nextPick F hKc hI hC hS hA hl.1 (Nat.le_of_ble_eq_true rfl) hc hs dL_law_1000 (fun r1000 H locs hr1000 hC hS => ?_)
  obtain ⟨Y, hM, bk⟩ := CA_m hC
  refine lv_pop hx hb dL_law_1003 rfl ?_
  refine lv_aload_n hx hb dL_law_1004 rfl (lv_at hl 2 rfl) ?_
  refine lv_aload_n hx hb dL_law_1005 rfl (lv_at hl 0 rfl) ?_
  refine lv_iload_n hx hb dL_law_1006 rfl (lv_at hl 3 rfl) ?_
  refine lv_iconst (v := 1) hx hb dL_law_1007 (by decide) ?_
  refine lv_iadd hx hb dL_law_1008 ?_
  refine va_sld hx hb hX hbl hbA hS (ns_inL (k := 1) hi (by decide) hL) dL_law_1009 ?_
  refine rM_nextPick F hKm hI hM hS hA hl.1 (Nat.le_of_ble_eq_true rfl) hc2 hs2 dL_law_1010 (fun r1010 H locs hr1010 hM hS => ?_)
  obtain ⟨gr, As, hC⟩ := bk _ hM
  have hLR : LR A0 D ad ca bd cb H := ⟨_, _, _, _, _, _, _, _, _, _, _, _, _, _, _, _, _, _, _, gr, As, hI, hC⟩
  refine lv_pop hx hb dL_law_1013 rfl ?_
  exact lv_goto (tgt := 1228) hx hb dL_law_1014 (by decide) (kk _ _ hLR hS)
set_option maxHeartbeats 1000000 in
set_option maxRecDepth 100000 in
theorem lc_14 (F : CallFix p m c cL_law 4 s #[Value.ref b] wsL_law RL) (k21 : (Cond.constantLong RL 21 (4294967295)).before #[Value.ref b] s = true) (hKc : nkK D (tC ca) s) (hKm : nkK D (tM cb) s) (hX : va_X b L xs s s.heap) (hbl : b < s.heap.size) (hbA : ¬ A0 b) (hi : 10 + 9 * i ≤ L) (hL : L ≤ 4609) (hLR : LR A0 D ad ca bd cb H) (hS : va_S A0 s.heap H locs) (hA : ∀ q : Nat, s.heap.size ≤ q → A0 q) (hl : lv_has ls 4 [(0, .ref b), (1, .ref (ad 0)), (2, .ref (bd 0)), (3, .int (nI (1 + 9 * i)))]) (hc : cells + 1 ≤ 726897) (hs : slots + 4 ≤ 6921558) (hc2 : cells + 1 + 1 ≤ 726897) (hs2 : slots + 4 + 4 ≤ 6921558)
    (kk : ∀ (H1 : Heap) (locs1 : List Loc), LR A0 D ad ca bd cb H1 → va_S A0 s.heap H1 locs1 → W p l e room_1 s m #[Value.ref b] below meth c H1 locs1 (cells + 1) (slots + 4) Q (F0 m 1228 ls [])) : W p l e room_1 s m #[Value.ref b] below meth c H locs cells slots Q (F0 m 1017 ls []) := by
  obtain ⟨hx, hb, hml, hown, hts⟩ := id F
  refine lv_aload_n hx hb dL_law_1017 rfl (lv_at hl 1 rfl) ?_
  refine lv_aload_n hx hb dL_law_1018 rfl (lv_at hl 0 rfl) ?_
  refine lv_iload_n hx hb dL_law_1019 rfl (lv_at hl 3 rfl) ?_
  refine lv_iconst (v := 1) hx hb dL_law_1020 (by decide) ?_
  refine lv_iadd hx hb dL_law_1021 ?_
  refine va_sld hx hb hX hbl hbA hS (ns_inL (k := 1) hi (by decide) hL) dL_law_1022 ?_
  obtain ⟨sd, pz, tc, st, tr, sc, P, Mn, T, Wt, Rn, Po, Pl, Sp, Ks, Kp, Kc, Ik, O, gr, As, hI, hC⟩ := hLR
  refine rC_split F hKc hI hC hS hA hl.1 (Nat.le_of_ble_eq_true rfl) hc hs dL_law_1023 (fun r1023 H locs hr1023 hC hS => ?_)
  obtain ⟨Y, hM, bk⟩ := CA_m hC
  refine lv_pop hx hb dL_law_1026 rfl ?_
  refine lv_aload_n hx hb dL_law_1027 rfl (lv_at hl 2 rfl) ?_
  refine lv_aload_n hx hb dL_law_1028 rfl (lv_at hl 0 rfl) ?_
  refine lv_iload_n hx hb dL_law_1029 rfl (lv_at hl 3 rfl) ?_
  refine lv_iconst (v := 1) hx hb dL_law_1030 (by decide) ?_
  refine lv_iadd hx hb dL_law_1031 ?_
  refine va_sld hx hb hX hbl hbA hS (ns_inL (k := 1) hi (by decide) hL) dL_law_1032 ?_
  refine rM_split F hKm hI hM hS hA hl.1 (Nat.le_of_ble_eq_true rfl) hc2 hs2 dL_law_1033 (fun r1033 H locs hr1033 hM hS => ?_)
  obtain ⟨gr, As, hC⟩ := bk _ hM
  have hLR : LR A0 D ad ca bd cb H := ⟨_, _, _, _, _, _, _, _, _, _, _, _, _, _, _, _, _, _, _, gr, As, aI_split hI, hC⟩
  refine lv_pop hx hb dL_law_1036 rfl ?_
  exact lv_goto (tgt := 1228) hx hb dL_law_1037 (by decide) (kk _ _ hLR hS)
set_option maxHeartbeats 1000000 in
set_option maxRecDepth 100000 in
theorem lc_15 (F : CallFix p m c cL_law 4 s #[Value.ref b] wsL_law RL) (k21 : (Cond.constantLong RL 21 (4294967295)).before #[Value.ref b] s = true) (hKc : nkK D (tC ca) s) (hKm : nkK D (tM cb) s) (hX : va_X b L xs s s.heap) (hbl : b < s.heap.size) (hbA : ¬ A0 b) (hi : 10 + 9 * i ≤ L) (hL : L ≤ 4609) (hLR : LR A0 D ad ca bd cb H) (hS : va_S A0 s.heap H locs) (hA : ∀ q : Nat, s.heap.size ≤ q → A0 q) (hl : lv_has ls 4 [(0, .ref b), (1, .ref (ad 0)), (2, .ref (bd 0)), (3, .int (nI (1 + 9 * i)))]) (hc : cells + 1 ≤ 726897) (hs : slots + 4 ≤ 6921558) (hc2 : cells + 1 + 1 ≤ 726897) (hs2 : slots + 4 + 4 ≤ 6921558)
    (kk : ∀ (H1 : Heap) (locs1 : List Loc), LR A0 D ad ca bd cb H1 → va_S A0 s.heap H1 locs1 → W p l e room_1 s m #[Value.ref b] below meth c H1 locs1 (cells + 1) (slots + 4) Q (F0 m 1228 ls [])) : W p l e room_1 s m #[Value.ref b] below meth c H locs cells slots Q (F0 m 1040 ls []) := by
  obtain ⟨hx, hb, hml, hown, hts⟩ := id F
  refine lv_aload_n hx hb dL_law_1040 rfl (lv_at hl 1 rfl) ?_
  refine lv_aload_n hx hb dL_law_1041 rfl (lv_at hl 0 rfl) ?_
  refine lv_iload_n hx hb dL_law_1042 rfl (lv_at hl 3 rfl) ?_
  refine lv_iconst (v := 1) hx hb dL_law_1043 (by decide) ?_
  refine lv_iadd hx hb dL_law_1044 ?_
  refine va_sld hx hb hX hbl hbA hS (ns_inL (k := 1) hi (by decide) hL) dL_law_1045 ?_
  refine lv_aload_n hx hb dL_law_1046 rfl (lv_at hl 0 rfl) ?_
  refine lv_iload_n hx hb dL_law_1047 rfl (lv_at hl 3 rfl) ?_
  refine lv_iconst (v := 2) hx hb dL_law_1048 (by decide) ?_
  refine lv_iadd hx hb dL_law_1049 ?_
  refine va_sld hx hb hX hbl hbA hS (ns_inL (k := 2) hi (by decide) hL) dL_law_1050 ?_
  obtain ⟨sd, pz, tc, st, tr, sc, P, Mn, T, Wt, Rn, Po, Pl, Sp, Ks, Kp, Kc, Ik, O, gr, As, hI, hC⟩ := hLR
  refine rC_skip F hKc hI hC hS hA hl.1 (Nat.le_of_ble_eq_true rfl) hc hs dL_law_1051 (fun r1051 H locs hr1051 hC hS => ?_)
  obtain ⟨Y, hM, bk⟩ := CA_m hC
  refine lv_pop hx hb dL_law_1054 rfl ?_
  refine lv_aload_n hx hb dL_law_1055 rfl (lv_at hl 2 rfl) ?_
  refine lv_aload_n hx hb dL_law_1056 rfl (lv_at hl 0 rfl) ?_
  refine lv_iload_n hx hb dL_law_1057 rfl (lv_at hl 3 rfl) ?_
  refine lv_iconst (v := 1) hx hb dL_law_1058 (by decide) ?_
  refine lv_iadd hx hb dL_law_1059 ?_
  refine va_sld hx hb hX hbl hbA hS (ns_inL (k := 1) hi (by decide) hL) dL_law_1060 ?_
  refine lv_aload_n hx hb dL_law_1061 rfl (lv_at hl 0 rfl) ?_
  refine lv_iload_n hx hb dL_law_1062 rfl (lv_at hl 3 rfl) ?_
  refine lv_iconst (v := 2) hx hb dL_law_1063 (by decide) ?_
  refine lv_iadd hx hb dL_law_1064 ?_
  refine va_sld hx hb hX hbl hbA hS (ns_inL (k := 2) hi (by decide) hL) dL_law_1065 ?_
  refine rM_skip F hKm hI hM hS hA hl.1 (Nat.le_of_ble_eq_true rfl) hc2 hs2 dL_law_1066 (fun r1066 H locs hr1066 hM hS => ?_)
  obtain ⟨gr, As, hC⟩ := bk _ hM
  have hLR : LR A0 D ad ca bd cb H := ⟨_, _, _, _, _, _, _, _, _, _, _, _, _, _, _, _, _, _, _, gr, As, hI, hC⟩
  refine lv_pop hx hb dL_law_1069 rfl ?_
  exact lv_goto (tgt := 1228) hx hb dL_law_1070 (by decide) (kk _ _ hLR hS)
set_option maxHeartbeats 1000000 in
set_option maxRecDepth 100000 in
theorem lc_16 (F : CallFix p m c cL_law 4 s #[Value.ref b] wsL_law RL) (k21 : (Cond.constantLong RL 21 (4294967295)).before #[Value.ref b] s = true) (hKc : nkK D (tC ca) s) (hKm : nkK D (tM cb) s) (hX : va_X b L xs s s.heap) (hbl : b < s.heap.size) (hbA : ¬ A0 b) (hi : 10 + 9 * i ≤ L) (hL : L ≤ 4609) (hLR : LR A0 D ad ca bd cb H) (hS : va_S A0 s.heap H locs) (hA : ∀ q : Nat, s.heap.size ≤ q → A0 q) (hl : lv_has ls 4 [(0, .ref b), (1, .ref (ad 0)), (2, .ref (bd 0)), (3, .int (nI (1 + 9 * i)))]) (hc : cells + 1 ≤ 726897) (hs : slots + 4 ≤ 6921558) (hc2 : cells + 1 + 1 ≤ 726897) (hs2 : slots + 4 + 4 ≤ 6921558)
    (kk : ∀ (H1 : Heap) (locs1 : List Loc), LR A0 D ad ca bd cb H1 → va_S A0 s.heap H1 locs1 → W p l e room_1 s m #[Value.ref b] below meth c H1 locs1 (cells + 1) (slots + 4) Q (F0 m 1228 ls [])) : W p l e room_1 s m #[Value.ref b] below meth c H locs cells slots Q (F0 m 1073 ls []) := by
  obtain ⟨hx, hb, hml, hown, hts⟩ := id F
  refine lv_aload_n hx hb dL_law_1073 rfl (lv_at hl 1 rfl) ?_
  refine lv_aload_n hx hb dL_law_1074 rfl (lv_at hl 0 rfl) ?_
  refine lv_iload_n hx hb dL_law_1075 rfl (lv_at hl 3 rfl) ?_
  refine lv_iconst (v := 1) hx hb dL_law_1076 (by decide) ?_
  refine lv_iadd hx hb dL_law_1077 ?_
  refine va_sld hx hb hX hbl hbA hS (ns_inL (k := 1) hi (by decide) hL) dL_law_1078 ?_
  refine lv_aload_n hx hb dL_law_1079 rfl (lv_at hl 0 rfl) ?_
  refine lv_iload_n hx hb dL_law_1080 rfl (lv_at hl 3 rfl) ?_
  refine lv_iconst (v := 2) hx hb dL_law_1081 (by decide) ?_
  refine lv_iadd hx hb dL_law_1082 ?_
  refine va_sld hx hb hX hbl hbA hS (ns_inL (k := 2) hi (by decide) hL) dL_law_1083 ?_
  obtain ⟨sd, pz, tc, st, tr, sc, P, Mn, T, Wt, Rn, Po, Pl, Sp, Ks, Kp, Kc, Ik, O, gr, As, hI, hC⟩ := hLR
  refine rC_keep F hKc hI hC hS hA hl.1 (Nat.le_of_ble_eq_true rfl) hc hs dL_law_1084 (fun r1084 H locs hr1084 hC hS => ?_)
  obtain ⟨Y, hM, bk⟩ := CA_m hC
  refine lv_pop hx hb dL_law_1087 rfl ?_
  refine lv_aload_n hx hb dL_law_1088 rfl (lv_at hl 2 rfl) ?_
  refine lv_aload_n hx hb dL_law_1089 rfl (lv_at hl 0 rfl) ?_
  refine lv_iload_n hx hb dL_law_1090 rfl (lv_at hl 3 rfl) ?_
  refine lv_iconst (v := 1) hx hb dL_law_1091 (by decide) ?_
  refine lv_iadd hx hb dL_law_1092 ?_
  refine va_sld hx hb hX hbl hbA hS (ns_inL (k := 1) hi (by decide) hL) dL_law_1093 ?_
  refine lv_aload_n hx hb dL_law_1094 rfl (lv_at hl 0 rfl) ?_
  refine lv_iload_n hx hb dL_law_1095 rfl (lv_at hl 3 rfl) ?_
  refine lv_iconst (v := 2) hx hb dL_law_1096 (by decide) ?_
  refine lv_iadd hx hb dL_law_1097 ?_
  refine va_sld hx hb hX hbl hbA hS (ns_inL (k := 2) hi (by decide) hL) dL_law_1098 ?_
  refine rM_keep F hKm hI hM hS hA hl.1 (Nat.le_of_ble_eq_true rfl) hc2 hs2 dL_law_1099 (fun r1099 H locs hr1099 hM hS => ?_)
  obtain ⟨gr, As, hC⟩ := bk _ hM
  have hLR : LR A0 D ad ca bd cb H := ⟨_, _, _, _, _, _, _, _, _, _, _, _, _, _, _, _, _, _, _, gr, As, aI_keep hI, hC⟩
  refine lv_pop hx hb dL_law_1102 rfl ?_
  exact lv_goto (tgt := 1228) hx hb dL_law_1103 (by decide) (kk _ _ hLR hS)
set_option maxHeartbeats 1000000 in
set_option maxRecDepth 100000 in
theorem lc_17 (F : CallFix p m c cL_law 4 s #[Value.ref b] wsL_law RL) (k21 : (Cond.constantLong RL 21 (4294967295)).before #[Value.ref b] s = true) (hKc : nkK D (tC ca) s) (hKm : nkK D (tM cb) s) (hX : va_X b L xs s s.heap) (hbl : b < s.heap.size) (hbA : ¬ A0 b) (hi : 10 + 9 * i ≤ L) (hL : L ≤ 4609) (hLR : LR A0 D ad ca bd cb H) (hS : va_S A0 s.heap H locs) (hA : ∀ q : Nat, s.heap.size ≤ q → A0 q) (hl : lv_has ls 4 [(0, .ref b), (1, .ref (ad 0)), (2, .ref (bd 0)), (3, .int (nI (1 + 9 * i)))]) (hc : cells + 1 ≤ 726897) (hs : slots + 4 ≤ 6921558) (hc2 : cells + 1 + 1 ≤ 726897) (hs2 : slots + 4 + 4 ≤ 6921558)
    (kk : ∀ (H1 : Heap) (locs1 : List Loc), LR A0 D ad ca bd cb H1 → va_S A0 s.heap H1 locs1 → W p l e room_1 s m #[Value.ref b] below meth c H1 locs1 (cells + 1) (slots + 4) Q (F0 m 1228 ls [])) : W p l e room_1 s m #[Value.ref b] below meth c H locs cells slots Q (F0 m 1106 ls []) := by
  obtain ⟨hx, hb, hml, hown, hts⟩ := id F
  refine lv_aload_n hx hb dL_law_1106 rfl (lv_at hl 1 rfl) ?_
  refine lv_aload_n hx hb dL_law_1107 rfl (lv_at hl 0 rfl) ?_
  refine lv_iload_n hx hb dL_law_1108 rfl (lv_at hl 3 rfl) ?_
  refine lv_iconst (v := 1) hx hb dL_law_1109 (by decide) ?_
  refine lv_iadd hx hb dL_law_1110 ?_
  refine va_sld hx hb hX hbl hbA hS (ns_inL (k := 1) hi (by decide) hL) dL_law_1111 ?_
  obtain ⟨sd, pz, tc, st, tr, sc, P, Mn, T, Wt, Rn, Po, Pl, Sp, Ks, Kp, Kc, Ik, O, gr, As, hI, hC⟩ := hLR
  refine rC_back F hKc hI hC hS hA hl.1 (Nat.le_of_ble_eq_true rfl) hc hs dL_law_1112 (fun r1112 H locs hr1112 hC hS => ?_)
  obtain ⟨Y, hM, bk⟩ := CA_m hC
  refine lv_pop hx hb dL_law_1115 rfl ?_
  refine lv_aload_n hx hb dL_law_1116 rfl (lv_at hl 2 rfl) ?_
  refine lv_aload_n hx hb dL_law_1117 rfl (lv_at hl 0 rfl) ?_
  refine lv_iload_n hx hb dL_law_1118 rfl (lv_at hl 3 rfl) ?_
  refine lv_iconst (v := 1) hx hb dL_law_1119 (by decide) ?_
  refine lv_iadd hx hb dL_law_1120 ?_
  refine va_sld hx hb hX hbl hbA hS (ns_inL (k := 1) hi (by decide) hL) dL_law_1121 ?_
  refine rM_back F hKm hI hM hS hA hl.1 (Nat.le_of_ble_eq_true rfl) hc2 hs2 dL_law_1122 (fun r1122 H locs hr1122 hM hS => ?_)
  obtain ⟨gr, As, hC⟩ := bk _ hM
  have hLR : LR A0 D ad ca bd cb H := ⟨_, _, _, _, _, _, _, _, _, _, _, _, _, _, _, _, _, _, _, gr, As, hI, hC⟩
  refine lv_pop hx hb dL_law_1125 rfl ?_
  exact lv_goto (tgt := 1228) hx hb dL_law_1126 (by decide) (kk _ _ hLR hS)
set_option maxHeartbeats 1000000 in
set_option maxRecDepth 100000 in
theorem lc_18 (F : CallFix p m c cL_law 4 s #[Value.ref b] wsL_law RL) (k21 : (Cond.constantLong RL 21 (4294967295)).before #[Value.ref b] s = true) (hKc : nkK D (tC ca) s) (hKm : nkK D (tM cb) s) (hX : va_X b L xs s s.heap) (hbl : b < s.heap.size) (hbA : ¬ A0 b) (hi : 10 + 9 * i ≤ L) (hL : L ≤ 4609) (hLR : LR A0 D ad ca bd cb H) (hS : va_S A0 s.heap H locs) (hA : ∀ q : Nat, s.heap.size ≤ q → A0 q) (hl : lv_has ls 4 [(0, .ref b), (1, .ref (ad 0)), (2, .ref (bd 0)), (3, .int (nI (1 + 9 * i)))]) (hc : cells + 1 ≤ 726897) (hs : slots + 4 ≤ 6921558) (hc2 : cells + 1 + 1 ≤ 726897) (hs2 : slots + 4 + 4 ≤ 6921558)
    (kk : ∀ (H1 : Heap) (locs1 : List Loc), LR A0 D ad ca bd cb H1 → va_S A0 s.heap H1 locs1 → W p l e room_1 s m #[Value.ref b] below meth c H1 locs1 (cells + 1) (slots + 4) Q (F0 m 1228 ls [])) : W p l e room_1 s m #[Value.ref b] below meth c H locs cells slots Q (F0 m 1129 ls []) := by
  obtain ⟨hx, hb, hml, hown, hts⟩ := id F
  refine lv_aload_n hx hb dL_law_1129 rfl (lv_at hl 1 rfl) ?_
  refine lv_aload_n hx hb dL_law_1130 rfl (lv_at hl 0 rfl) ?_
  refine lv_iload_n hx hb dL_law_1131 rfl (lv_at hl 3 rfl) ?_
  refine lv_iconst (v := 1) hx hb dL_law_1132 (by decide) ?_
  refine lv_iadd hx hb dL_law_1133 ?_
  refine va_sld hx hb hX hbl hbA hS (ns_inL (k := 1) hi (by decide) hL) dL_law_1134 ?_
  refine lv_aload_n hx hb dL_law_1135 rfl (lv_at hl 0 rfl) ?_
  refine lv_iload_n hx hb dL_law_1136 rfl (lv_at hl 3 rfl) ?_
  refine lv_iconst (v := 2) hx hb dL_law_1137 (by decide) ?_
  refine lv_iadd hx hb dL_law_1138 ?_
  refine va_sld hx hb hX hbl hbA hS (ns_inL (k := 2) hi (by decide) hL) dL_law_1139 ?_
  obtain ⟨sd, pz, tc, st, tr, sc, P, Mn, T, Wt, Rn, Po, Pl, Sp, Ks, Kp, Kc, Ik, O, gr, As, hI, hC⟩ := hLR
  refine rC_told F hKc hI hC hS hA hl.1 (Nat.le_of_ble_eq_true rfl) hc hs dL_law_1140 (fun r1140 H locs hr1140 hC hS => ?_)
  obtain ⟨Y, hM, bk⟩ := CA_m hC
  refine lv_pop hx hb dL_law_1143 rfl ?_
  refine lv_aload_n hx hb dL_law_1144 rfl (lv_at hl 2 rfl) ?_
  refine lv_aload_n hx hb dL_law_1145 rfl (lv_at hl 0 rfl) ?_
  refine lv_iload_n hx hb dL_law_1146 rfl (lv_at hl 3 rfl) ?_
  refine lv_iconst (v := 1) hx hb dL_law_1147 (by decide) ?_
  refine lv_iadd hx hb dL_law_1148 ?_
  refine va_sld hx hb hX hbl hbA hS (ns_inL (k := 1) hi (by decide) hL) dL_law_1149 ?_
  refine lv_aload_n hx hb dL_law_1150 rfl (lv_at hl 0 rfl) ?_
  refine lv_iload_n hx hb dL_law_1151 rfl (lv_at hl 3 rfl) ?_
  refine lv_iconst (v := 2) hx hb dL_law_1152 (by decide) ?_
  refine lv_iadd hx hb dL_law_1153 ?_
  refine va_sld hx hb hX hbl hbA hS (ns_inL (k := 2) hi (by decide) hL) dL_law_1154 ?_
  refine rM_told F hKm hI hM hS hA hl.1 (Nat.le_of_ble_eq_true rfl) hc2 hs2 dL_law_1155 (fun r1155 H locs hr1155 hM hS => ?_)
  obtain ⟨gr, As, hC⟩ := bk _ hM
  have hLR : LR A0 D ad ca bd cb H := ⟨_, _, _, _, _, _, _, _, _, _, _, _, _, _, _, _, _, _, _, gr, As, hI, hC⟩
  refine lv_pop hx hb dL_law_1158 rfl ?_
  exact lv_goto (tgt := 1228) hx hb dL_law_1159 (by decide) (kk _ _ hLR hS)
set_option maxHeartbeats 1000000 in
set_option maxRecDepth 100000 in
theorem lc_19 (F : CallFix p m c cL_law 4 s #[Value.ref b] wsL_law RL) (k21 : (Cond.constantLong RL 21 (4294967295)).before #[Value.ref b] s = true) (hKc : nkK D (tC ca) s) (hKm : nkK D (tM cb) s) (hX : va_X b L xs s s.heap) (hbl : b < s.heap.size) (hbA : ¬ A0 b) (hi : 10 + 9 * i ≤ L) (hL : L ≤ 4609) (hLR : LR A0 D ad ca bd cb H) (hS : va_S A0 s.heap H locs) (hA : ∀ q : Nat, s.heap.size ≤ q → A0 q) (hl : lv_has ls 4 [(0, .ref b), (1, .ref (ad 0)), (2, .ref (bd 0)), (3, .int (nI (1 + 9 * i)))]) (hc : cells + 1 ≤ 726897) (hs : slots + 4 ≤ 6921558) (hc2 : cells + 1 + 1 ≤ 726897) (hs2 : slots + 4 + 4 ≤ 6921558)
    (kk : ∀ (H1 : Heap) (locs1 : List Loc), LR A0 D ad ca bd cb H1 → va_S A0 s.heap H1 locs1 → W p l e room_1 s m #[Value.ref b] below meth c H1 locs1 (cells + 1) (slots + 4) Q (F0 m 1228 ls [])) : W p l e room_1 s m #[Value.ref b] below meth c H locs cells slots Q (F0 m 1162 ls []) := by
  obtain ⟨hx, hb, hml, hown, hts⟩ := id F
  refine lv_aload_n hx hb dL_law_1162 rfl (lv_at hl 1 rfl) ?_
  refine lv_aload_n hx hb dL_law_1163 rfl (lv_at hl 0 rfl) ?_
  refine lv_iload_n hx hb dL_law_1164 rfl (lv_at hl 3 rfl) ?_
  refine lv_iconst (v := 1) hx hb dL_law_1165 (by decide) ?_
  refine lv_iadd hx hb dL_law_1166 ?_
  refine va_sld hx hb hX hbl hbA hS (ns_inL (k := 1) hi (by decide) hL) dL_law_1167 ?_
  refine lv_aload_n hx hb dL_law_1168 rfl (lv_at hl 0 rfl) ?_
  refine lv_iload_n hx hb dL_law_1169 rfl (lv_at hl 3 rfl) ?_
  refine lv_iconst (v := 2) hx hb dL_law_1170 (by decide) ?_
  refine lv_iadd hx hb dL_law_1171 ?_
  refine va_sld hx hb hX hbl hbA hS (ns_inL (k := 2) hi (by decide) hL) dL_law_1172 ?_
  refine lv_aload_n hx hb dL_law_1173 rfl (lv_at hl 0 rfl) ?_
  refine lv_iload_n hx hb dL_law_1174 rfl (lv_at hl 3 rfl) ?_
  refine lv_iconst (v := 3) hx hb dL_law_1175 (by decide) ?_
  refine lv_iadd hx hb dL_law_1176 ?_
  refine va_sld hx hb hX hbl hbA hS (ns_inL (k := 3) hi (by decide) hL) dL_law_1177 ?_
  obtain ⟨sd, pz, tc, st, tr, sc, P, Mn, T, Wt, Rn, Po, Pl, Sp, Ks, Kp, Kc, Ik, O, gr, As, hI, hC⟩ := hLR
  refine rC_counted F hKc hI hC hS hA hl.1 (Nat.le_of_ble_eq_true rfl) hc hs dL_law_1178 (fun r1178 H locs hr1178 hC hS => ?_)
  obtain ⟨Y, hM, bk⟩ := CA_m hC
  refine lv_pop hx hb dL_law_1181 rfl ?_
  refine lv_aload_n hx hb dL_law_1182 rfl (lv_at hl 2 rfl) ?_
  refine lv_aload_n hx hb dL_law_1183 rfl (lv_at hl 0 rfl) ?_
  refine lv_iload_n hx hb dL_law_1184 rfl (lv_at hl 3 rfl) ?_
  refine lv_iconst (v := 1) hx hb dL_law_1185 (by decide) ?_
  refine lv_iadd hx hb dL_law_1186 ?_
  refine va_sld hx hb hX hbl hbA hS (ns_inL (k := 1) hi (by decide) hL) dL_law_1187 ?_
  refine lv_aload_n hx hb dL_law_1188 rfl (lv_at hl 0 rfl) ?_
  refine lv_iload_n hx hb dL_law_1189 rfl (lv_at hl 3 rfl) ?_
  refine lv_iconst (v := 2) hx hb dL_law_1190 (by decide) ?_
  refine lv_iadd hx hb dL_law_1191 ?_
  refine va_sld hx hb hX hbl hbA hS (ns_inL (k := 2) hi (by decide) hL) dL_law_1192 ?_
  refine lv_aload_n hx hb dL_law_1193 rfl (lv_at hl 0 rfl) ?_
  refine lv_iload_n hx hb dL_law_1194 rfl (lv_at hl 3 rfl) ?_
  refine lv_iconst (v := 3) hx hb dL_law_1195 (by decide) ?_
  refine lv_iadd hx hb dL_law_1196 ?_
  refine va_sld hx hb hX hbl hbA hS (ns_inL (k := 3) hi (by decide) hL) dL_law_1197 ?_
  refine rM_counted F hKm hI hM hS hA hl.1 (Nat.le_of_ble_eq_true rfl) hc2 hs2 dL_law_1198 (fun r1198 H locs hr1198 hM hS => ?_)
  obtain ⟨gr, As, hC⟩ := bk _ hM
  have hLR : LR A0 D ad ca bd cb H := ⟨_, _, _, _, _, _, _, _, _, _, _, _, _, _, _, _, _, _, _, gr, As, hI, hC⟩
  refine lv_pop hx hb dL_law_1201 rfl ?_
  exact lv_goto (tgt := 1228) hx hb dL_law_1202 (by decide) (kk _ _ hLR hS)
set_option maxHeartbeats 1000000 in
set_option maxRecDepth 100000 in
theorem lc_20 (F : CallFix p m c cL_law 4 s #[Value.ref b] wsL_law RL) (k21 : (Cond.constantLong RL 21 (4294967295)).before #[Value.ref b] s = true) (hKc : nkK D (tC ca) s) (hKm : nkK D (tM cb) s) (hX : va_X b L xs s s.heap) (hbl : b < s.heap.size) (hbA : ¬ A0 b) (hi : 10 + 9 * i ≤ L) (hL : L ≤ 4609) (hLR : LR A0 D ad ca bd cb H) (hS : va_S A0 s.heap H locs) (hA : ∀ q : Nat, s.heap.size ≤ q → A0 q) (hl : lv_has ls 4 [(0, .ref b), (1, .ref (ad 0)), (2, .ref (bd 0)), (3, .int (nI (1 + 9 * i)))]) (hc : cells + 1 ≤ 726897) (hs : slots + 4 ≤ 6921558) (hc2 : cells + 1 + 1 ≤ 726897) (hs2 : slots + 4 + 4 ≤ 6921558)
    (kk : ∀ (H1 : Heap) (locs1 : List Loc), LR A0 D ad ca bd cb H1 → va_S A0 s.heap H1 locs1 → W p l e room_1 s m #[Value.ref b] below meth c H1 locs1 (cells + 1) (slots + 4) Q (F0 m 1228 ls [])) : W p l e room_1 s m #[Value.ref b] below meth c H locs cells slots Q (F0 m 1205 ls []) := by
  obtain ⟨hx, hb, hml, hown, hts⟩ := id F
  refine lv_aload_n hx hb dL_law_1205 rfl (lv_at hl 1 rfl) ?_
  refine lv_aload_n hx hb dL_law_1206 rfl (lv_at hl 0 rfl) ?_
  refine lv_iload_n hx hb dL_law_1207 rfl (lv_at hl 3 rfl) ?_
  refine lv_iconst (v := 1) hx hb dL_law_1208 (by decide) ?_
  refine lv_iadd hx hb dL_law_1209 ?_
  refine va_sld hx hb hX hbl hbA hS (ns_inL (k := 1) hi (by decide) hL) dL_law_1210 ?_
  obtain ⟨sd, pz, tc, st, tr, sc, P, Mn, T, Wt, Rn, Po, Pl, Sp, Ks, Kp, Kc, Ik, O, gr, As, hI, hC⟩ := hLR
  refine rC_count F hKc hI hC hS hA hl.1 (Nat.le_of_ble_eq_true rfl) hc hs dL_law_1211 (fun r1211 H locs hr1211 hC hS => ?_)
  obtain ⟨Y, hM, bk⟩ := CA_m hC
  refine lv_pop hx hb dL_law_1214 rfl ?_
  refine lv_aload_n hx hb dL_law_1215 rfl (lv_at hl 2 rfl) ?_
  refine lv_aload_n hx hb dL_law_1216 rfl (lv_at hl 0 rfl) ?_
  refine lv_iload_n hx hb dL_law_1217 rfl (lv_at hl 3 rfl) ?_
  refine lv_iconst (v := 1) hx hb dL_law_1218 (by decide) ?_
  refine lv_iadd hx hb dL_law_1219 ?_
  refine va_sld hx hb hX hbl hbA hS (ns_inL (k := 1) hi (by decide) hL) dL_law_1220 ?_
  refine rM_count F hKm hI hM hS hA hl.1 (Nat.le_of_ble_eq_true rfl) hc2 hs2 dL_law_1221 (fun r1221 H locs hr1221 hM hS => ?_)
  obtain ⟨gr, As, hC⟩ := bk _ hM
  have hLR : LR A0 D ad ca bd cb H := ⟨_, _, _, _, _, _, _, _, _, _, _, _, _, _, _, _, _, _, _, gr, As, hI, hC⟩
  refine lv_pop hx hb dL_law_1224 rfl ?_
  exact lv_goto (tgt := 1228) hx hb dL_law_1225 (by decide) (kk _ _ hLR hS)
end LC2
