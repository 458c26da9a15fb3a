section LC2
variable {p : Program} {l : Launch} {e : Env} {s : State} {m : MethodId} {below : List Frame} {meth : Method} {c : Code} {b : Nat} {Q : State → Prop} {H : Heap} {locs : List Loc} {cells slots : Nat} {ls : Array Slot} {D : va_G} {ad bd : Nat → Nat} {ca cb : Nat → ClassId} {A0 : Nat → Prop} {L i : Nat} {xs : Nat → Int32}
set_option maxHeartbeats 1000000 in
set_option maxRecDepth 100000 in
theorem lc_10 (F : CallFix p m c cL_law 4 s #[Value.ref b] wsL_law RL) (k21 : (Cond.constantLong RL 21 (4294967295)).before #[Value.ref b] s = true) (hKc : nkK D (tC ca) s) (hKm : nkK D (tM cb) s) (hX : va_X b L xs s s.heap) (hbl : b < s.heap.size) (hbA : ¬ A0 b) (hi : 10 + 9 * i ≤ L) (hL : L ≤ 4609) (hLR : LR A0 D ad ca bd cb H) (hS : va_S A0 s.heap H locs) (hA : ∀ q : Nat, s.heap.size ≤ q → A0 q) (hl : lv_has ls 4 [(0, .ref b), (1, .ref (ad 0)), (2, .ref (bd 0)), (3, .int (nI (1 + 9 * i)))]) (hc : cells + 1 ≤ 726897) (hs : slots + 4 ≤ 6921558) (hc2 : cells + 1 + 1 ≤ 726897) (hs2 : slots + 4 + 4 ≤ 6921558)
    (kk : ∀ (H1 : Heap) (locs1 : List Loc), LR A0 D ad ca bd cb H1 → va_S A0 s.heap H1 locs1 → W p l e room_1 s m #[Value.ref b] below meth c H1 locs1 (cells + 1) (slots + 4) Q (F0 m 1227 ls [])) : W p l e room_1 s m #[Value.ref b] below meth c H locs cells slots Q (F0 m 854 ls []) := by
  obtain ⟨hx, hb, hml, hown, hts⟩ := id F
  refine lv_aload_n hx hb dL_law_854 rfl (lv_at hl 1 rfl) ?_
  obtain ⟨sd, pz, tc, st, tr, sc, P, Mn, T, Wt, Rn, Po, Pl, Sp, Ks, Kp, Kc, Ik, O, gr, As, hI, hC⟩ := hLR
  refine rC_status F hKc hI hC hS hA hl.1 (Nat.le_of_ble_eq_true rfl) hc hs dL_law_855 (fun r855 H locs hr855 hC hS => ?_)
  obtain ⟨Y, hM, bk⟩ := CA_m hC
  refine lv_pop hx hb dL_law_858 rfl ?_
  refine lv_aload_n hx hb dL_law_859 rfl (lv_at hl 2 rfl) ?_
  refine rM_status F hKm hI hM hS hA hl.1 (Nat.le_of_ble_eq_true rfl) hc2 hs2 dL_law_860 (fun r860 H locs hr860 hM hS => ?_)
  obtain ⟨gr, As, hC⟩ := bk _ hM
  have hLR : LR A0 D ad ca bd cb H := ⟨_, _, _, _, _, _, _, _, _, _, _, _, _, _, _, _, _, _, _, gr, As, hI, hC⟩
  refine lv_pop hx hb dL_law_863 rfl ?_
  exact lv_goto (tgt := 1227) hx hb dL_law_864 (by decide) (kk _ _ hLR hS)
set_option maxHeartbeats 1000000 in
set_option maxRecDepth 100000 in
theorem lc_11 (F : CallFix p m c cL_law 4 s #[Value.ref b] wsL_law RL) (k21 : (Cond.constantLong RL 21 (4294967295)).before #[Value.ref b] s = true) (hKc : nkK D (tC ca) s) (hKm : nkK D (tM cb) s) (hX : va_X b L xs s s.heap) (hbl : b < s.heap.size) (hbA : ¬ A0 b) (hi : 10 + 9 * i ≤ L) (hL : L ≤ 4609) (hLR : LR A0 D ad ca bd cb H) (hS : va_S A0 s.heap H locs) (hA : ∀ q : Nat, s.heap.size ≤ q → A0 q) (hl : lv_has ls 4 [(0, .ref b), (1, .ref (ad 0)), (2, .ref (bd 0)), (3, .int (nI (1 + 9 * i)))]) (hc : cells + 1 ≤ 726897) (hs : slots + 4 ≤ 6921558) (hc2 : cells + 1 + 1 ≤ 726897) (hs2 : slots + 4 + 4 ≤ 6921558)
    (kk : ∀ (H1 : Heap) (locs1 : List Loc), LR A0 D ad ca bd cb H1 → va_S A0 s.heap H1 locs1 → W p l e room_1 s m #[Value.ref b] below meth c H1 locs1 (cells + 1) (slots + 4) Q (F0 m 1227 ls [])) : W p l e room_1 s m #[Value.ref b] below meth c H locs cells slots Q (F0 m 867 ls []) := by
  obtain ⟨hx, hb, hml, hown, hts⟩ := id F
  refine lv_aload_n hx hb dL_law_867 rfl (lv_at hl 1 rfl) ?_
  refine lv_aload_n hx hb dL_law_868 rfl (lv_at hl 0 rfl) ?_
  refine lv_iload_n hx hb dL_law_869 rfl (lv_at hl 3 rfl) ?_
  refine lv_iconst (v := 1) hx hb dL_law_870 (by decide) ?_
  refine lv_iadd hx hb dL_law_871 ?_
  refine va_sld hx hb hX hbl hbA hS (ns_inL (k := 1) hi (by decide) hL) dL_law_872 ?_
  refine lv_i2l hx hb dL_law_873 rfl ?_
  refine lv_bipush (v := 32) hx hb dL_law_874 (by decide) ?_
  refine lv_lshl hx hb dL_law_876 rfl ?_
  refine lv_aload_n hx hb dL_law_877 rfl (lv_at hl 0 rfl) ?_
  refine lv_iload_n hx hb dL_law_878 rfl (lv_at hl 3 rfl) ?_
  refine lv_iconst (v := 2) hx hb dL_law_879 (by decide) ?_
  refine lv_iadd hx hb dL_law_880 ?_
  refine va_sld hx hb hX hbl hbA hS (ns_inL (k := 2) hi (by decide) hL) dL_law_881 ?_
  refine lv_i2l hx hb dL_law_882 rfl ?_
  refine lv_ldc2 hx hb hown k21 dL_law_883 ?_
  refine lv_land hx hb dL_law_886 ?_
  refine lv_lor hx hb dL_law_887 ?_
  refine lv_aload_n hx hb dL_law_888 rfl (lv_at hl 0 rfl) ?_
  refine lv_iload_n hx hb dL_law_889 rfl (lv_at hl 3 rfl) ?_
  refine lv_iconst (v := 3) hx hb dL_law_890 (by decide) ?_
  refine lv_iadd hx hb dL_law_891 ?_
  refine va_sld hx hb hX hbl hbA hS (ns_inL (k := 3) hi (by decide) hL) dL_law_892 ?_
  obtain ⟨sd, pz, tc, st, tr, sc, P, Mn, T, Wt, Rn, Po, Pl, Sp, Ks, Kp, Kc, Ik, O, gr, As, hI, hC⟩ := hLR
  refine rC_open F hKc hI hC hS hA hl.1 (Nat.le_of_ble_eq_true rfl) hc hs dL_law_893 (fun r893 H locs hr893 hC hS => ?_)
  obtain ⟨Y, hM, bk⟩ := CA_m hC
  refine lv_pop hx hb dL_law_896 rfl ?_
  refine lv_aload_n hx hb dL_law_897 rfl (lv_at hl 2 rfl) ?_
  refine lv_aload_n hx hb dL_law_898 rfl (lv_at hl 0 rfl) ?_
  refine lv_iload_n hx hb dL_law_899 rfl (lv_at hl 3 rfl) ?_
  refine lv_iconst (v := 1) hx hb dL_law_900 (by decide) ?_
  refine lv_iadd hx hb dL_law_901 ?_
  refine va_sld hx hb hX hbl hbA hS (ns_inL (k := 1) hi (by decide) hL) dL_law_902 ?_
  refine lv_i2l hx hb dL_law_903 rfl ?_
  refine lv_bipush (v := 32) hx hb dL_law_904 (by decide) ?_
  refine lv_lshl hx hb dL_law_906 rfl ?_
  refine lv_aload_n hx hb dL_law_907 rfl (lv_at hl 0 rfl) ?_
  refine lv_iload_n hx hb dL_law_908 rfl (lv_at hl 3 rfl) ?_
  refine lv_iconst (v := 2) hx hb dL_law_909 (by decide) ?_
  refine lv_iadd hx hb dL_law_910 ?_
  refine va_sld hx hb hX hbl hbA hS (ns_inL (k := 2) hi (by decide) hL) dL_law_911 ?_
  refine lv_i2l hx hb dL_law_912 rfl ?_
  refine lv_ldc2 hx hb hown k21 dL_law_913 ?_
  refine lv_land hx hb dL_law_916 ?_
  refine lv_lor hx hb dL_law_917 ?_
  refine lv_aload_n hx hb dL_law_918 rfl (lv_at hl 0 rfl) ?_
  refine lv_iload_n hx hb dL_law_919 rfl (lv_at hl 3 rfl) ?_
  refine lv_iconst (v := 3) hx hb dL_law_920 (by decide) ?_
  refine lv_iadd hx hb dL_law_921 ?_
  refine va_sld hx hb hX hbl hbA hS (ns_inL (k := 3) hi (by decide) hL) dL_law_922 ?_
  refine rM_open F hKm hI hM hS hA hl.1 (Nat.le_of_ble_eq_true rfl) hc2 hs2 dL_law_923 (fun r923 H locs hr923 hM hS => ?_)
  obtain ⟨gr, As, hC⟩ := bk _ hM
  have hLR : LR A0 D ad ca bd cb H := ⟨_, _, _, _, _, _, _, _, _, _, _, _, _, _, _, _, _, _, _, gr, As, aI_open hI, hC⟩
  refine lv_pop hx hb dL_law_926 rfl ?_
  exact lv_goto (tgt := 1227) hx hb dL_law_927 (by decide) (kk _ _ hLR hS)
set_option maxHeartbeats 1000000 in
set_option maxRecDepth 100000 in
theorem lc_12 (F : CallFix p m c cL_law 4 s #[Value.ref b] wsL_law RL) (k21 : (Cond.constantLong RL 21 (4294967295)).before #[Value.ref b] s = true) (hKc : nkK D (tC ca) s) (hKm : nkK D (tM cb) s) (hX : va_X b L xs s s.heap) (hbl : b < s.heap.size) (hbA : ¬ A0 b) (hi : 10 + 9 * i ≤ L) (hL : L ≤ 4609) (hLR : LR A0 D ad ca bd cb H) (hS : va_S A0 s.heap H locs) (hA : ∀ q : Nat, s.heap.size ≤ q → A0 q) (hl : lv_has ls 4 [(0, .ref b), (1, .ref (ad 0)), (2, .ref (bd 0)), (3, .int (nI (1 + 9 * i)))]) (hc : cells + 1 ≤ 726897) (hs : slots + 4 ≤ 6921558) (hc2 : cells + 1 + 1 ≤ 726897) (hs2 : slots + 4 + 4 ≤ 6921558)
    (kk : ∀ (H1 : Heap) (locs1 : List Loc), LR A0 D ad ca bd cb H1 → va_S A0 s.heap H1 locs1 → W p l e room_1 s m #[Value.ref b] below meth c H1 locs1 (cells + 1) (slots + 4) Q (F0 m 1227 ls [])) : W p l e room_1 s m #[Value.ref b] below meth c H locs cells slots Q (F0 m 930 ls []) := by
  obtain ⟨hx, hb, hml, hown, hts⟩ := id F
  refine lv_aload_n hx hb dL_law_930 rfl (lv_at hl 1 rfl) ?_
  refine lv_aload_n hx hb dL_law_931 rfl (lv_at hl 0 rfl) ?_
  refine lv_iload_n hx hb dL_law_932 rfl (lv_at hl 3 rfl) ?_
  refine lv_iconst (v := 1) hx hb dL_law_933 (by decide) ?_
  refine lv_iadd hx hb dL_law_934 ?_
  refine va_sld hx hb hX hbl hbA hS (ns_inL (k := 1) hi (by decide) hL) dL_law_935 ?_
  refine lv_aload_n hx hb dL_law_936 rfl (lv_at hl 0 rfl) ?_
  refine lv_iload_n hx hb dL_law_937 rfl (lv_at hl 3 rfl) ?_
  refine lv_iconst (v := 2) hx hb dL_law_938 (by decide) ?_
  refine lv_iadd hx hb dL_law_939 ?_
  refine va_sld hx hb hX hbl hbA hS (ns_inL (k := 2) hi (by decide) hL) dL_law_940 ?_
  refine lv_i2l hx hb dL_law_941 rfl ?_
  refine lv_bipush (v := 32) hx hb dL_law_942 (by decide) ?_
  refine lv_lshl hx hb dL_law_944 rfl ?_
  refine lv_aload_n hx hb dL_law_945 rfl (lv_at hl 0 rfl) ?_
  refine lv_iload_n hx hb dL_law_946 rfl (lv_at hl 3 rfl) ?_
  refine lv_iconst (v := 3) hx hb dL_law_947 (by decide) ?_
  refine lv_iadd hx hb dL_law_948 ?_
  refine va_sld hx hb hX hbl hbA hS (ns_inL (k := 3) hi (by decide) hL) dL_law_949 ?_
  refine lv_i2l hx hb dL_law_950 rfl ?_
  refine lv_ldc2 hx hb hown k21 dL_law_951 ?_
  refine lv_land hx hb dL_law_954 ?_
  refine lv_lor hx hb dL_law_955 ?_
  obtain ⟨sd, pz, tc, st, tr, sc, P, Mn, T, Wt, Rn, Po, Pl, Sp, Ks, Kp, Kc, Ik, O, gr, As, hI, hC⟩ := hLR
  refine rC_next F hKc hI hC hS hA hl.1 (Nat.le_of_ble_eq_true rfl) hc hs dL_law_956 (fun r956 H locs hr956 hC hS => ?_)
  obtain ⟨Y, hM, bk⟩ := CA_m hC
  refine lv_pop2_2 hx hb dL_law_959 rfl ?_
  refine lv_aload_n hx hb dL_law_960 rfl (lv_at hl 2 rfl) ?_
  refine lv_aload_n hx hb dL_law_961 rfl (lv_at hl 0 rfl) ?_
  refine lv_iload_n hx hb dL_law_962 rfl (lv_at hl 3 rfl) ?_
  refine lv_iconst (v := 1) hx hb dL_law_963 (by decide) ?_
  refine lv_iadd hx hb dL_law_964 ?_
  refine va_sld hx hb hX hbl hbA hS (ns_inL (k := 1) hi (by decide) hL) dL_law_965 ?_
  refine lv_aload_n hx hb dL_law_966 rfl (lv_at hl 0 rfl) ?_
  refine lv_iload_n hx hb dL_law_967 rfl (lv_at hl 3 rfl) ?_
  refine lv_iconst (v := 2) hx hb dL_law_968 (by decide) ?_
  refine lv_iadd hx hb dL_law_969 ?_
  refine va_sld hx hb hX hbl hbA hS (ns_inL (k := 2) hi (by decide) hL) dL_law_970 ?_
  refine lv_i2l hx hb dL_law_971 rfl ?_
  refine lv_bipush (v := 32) hx hb dL_law_972 (by decide) ?_
  refine lv_lshl hx hb dL_law_974 rfl ?_
  refine lv_aload_n hx hb dL_law_975 rfl (lv_at hl 0 rfl) ?_
  refine lv_iload_n hx hb dL_law_976 rfl (lv_at hl 3 rfl) ?_
  refine lv_iconst (v := 3) hx hb dL_law_977 (by decide) ?_
  refine lv_iadd hx hb dL_law_978 ?_
  refine va_sld hx hb hX hbl hbA hS (ns_inL (k := 3) hi (by decide) hL) dL_law_979 ?_
  refine lv_i2l hx hb dL_law_980 rfl ?_
  refine lv_ldc2 hx hb hown k21 dL_law_981 ?_
  refine lv_land hx hb dL_law_984 ?_
  refine lv_lor hx hb dL_law_985 ?_
  refine rM_next F hKm hI hM hS hA hl.1 (Nat.le_of_ble_eq_true rfl) hc2 hs2 dL_law_986 (fun r986 H locs hr986 hM hS => ?_)
  obtain ⟨gr, As, hC⟩ := bk _ hM
  have hLR : LR A0 D ad ca bd cb H := ⟨_, _, _, _, _, _, _, _, _, _, _, _, _, _, _, _, _, _, _, gr, As, hI, hC⟩
  refine lv_pop2_2 hx hb dL_law_989 rfl ?_
  exact lv_goto (tgt := 1227) hx hb dL_law_990 (by decide) (kk _ _ hLR hS)
set_option maxHeartbeats 1000000 in
set_option maxRecDepth 100000 in
theorem lc_13 (F : CallFix p m c cL_law 4 s #[Value.ref b] wsL_law RL) (k21 : (Cond.constantLong RL 21 (4294967295)).before #[Value.ref b] s = true) (hKc : nkK D (tC ca) s) (hKm : nkK D (tM cb) s) (hX : va_X b L xs s s.heap) (hbl : b < s.heap.size) (hbA : ¬ A0 b) (hi : 10 + 9 * i ≤ L) (hL : L ≤ 4609) (hLR : LR A0 D ad ca bd cb H) (hS : va_S A0 s.heap H locs) (hA : ∀ q : Nat, s.heap.size ≤ q → A0 q) (hl : lv_has ls 4 [(0, .ref b), (1, .ref (ad 0)), (2, .ref (bd 0)), (3, .int (nI (1 + 9 * i)))]) (hc : cells + 1 ≤ 726897) (hs : slots + 4 ≤ 6921558) (hc2 : cells + 1 + 1 ≤ 726897) (hs2 : slots + 4 + 4 ≤ 6921558)
    (kk : ∀ (H1 : Heap) (locs1 : List Loc), LR A0 D ad ca bd cb H1 → va_S A0 s.heap H1 locs1 → W p l e room_1 s m #[Value.ref b] below meth c H1 locs1 (cells + 1) (slots + 4) Q (F0 m 1227 ls [])) : W p l e room_1 s m #[Value.ref b] below meth c H locs cells slots Q (F0 m 993 ls []) := by
  obtain ⟨hx, hb, hml, hown, hts⟩ := id F
  refine lv_aload_n hx hb dL_law_993 rfl (lv_at hl 1 rfl) ?_
  refine lv_aload_n hx hb dL_law_994 rfl (lv_at hl 0 rfl) ?_
  refine lv_iload_n hx hb dL_law_995 rfl (lv_at hl 3 rfl) ?_
  refine lv_iconst (v := 1) hx hb dL_law_996 (by decide) ?_
  refine lv_iadd hx hb dL_law_997 ?_
  refine va_sld hx hb hX hbl hbA hS (ns_inL (k := 1) hi (by decide) hL) dL_law_998 ?_
  obtain ⟨sd, pz, tc, st, tr, sc, P, Mn, T, Wt, Rn, Po, Pl, Sp, Ks, Kp, Kc, Ik, O, gr, As, hI, hC⟩ := hLR
  refine rC_nextPick F hKc hI hC hS hA hl.1 (Nat.le_of_ble_eq_true rfl) hc hs dL_law_999 (fun r999 H locs hr999 hC hS => ?_)
  obtain ⟨Y, hM, bk⟩ := CA_m hC
  refine lv_pop hx hb dL_law_1002 rfl ?_
  refine lv_aload_n hx hb dL_law_1003 rfl (lv_at hl 2 rfl) ?_
  refine lv_aload_n hx hb dL_law_1004 rfl (lv_at hl 0 rfl) ?_
  refine lv_iload_n hx hb dL_law_1005 rfl (lv_at hl 3 rfl) ?_
  refine lv_iconst (v := 1) hx hb dL_law_1006 (by decide) ?_
  refine lv_iadd hx hb dL_law_1007 ?_
  refine va_sld hx hb hX hbl hbA hS (ns_inL (k := 1) hi (by decide) hL) dL_law_1008 ?_
  refine rM_nextPick F hKm hI hM hS hA hl.1 (Nat.le_of_ble_eq_true rfl) hc2 hs2 dL_law_1009 (fun r1009 H locs hr1009 hM hS => ?_)
  obtain ⟨gr, As, hC⟩ := bk _ hM
  have hLR : LR A0 D ad ca bd cb H := ⟨_, _, _, _, _, _, _, _, _, _, _, _, _, _, _, _, _, _, _, gr, As, hI, hC⟩
  refine lv_pop hx hb dL_law_1012 rfl ?_
  exact lv_goto (tgt := 1227) hx hb dL_law_1013 (by decide) (kk _ _ hLR hS)
set_option maxHeartbeats 1000000 in
set_option maxRecDepth 100000 in
theorem lc_14 (F : CallFix p m c cL_law 4 s #[Value.ref b] wsL_law RL) (k21 : (Cond.constantLong RL 21 (4294967295)).before #[Value.ref b] s = true) (hKc : nkK D (tC ca) s) (hKm : nkK D (tM cb) s) (hX : va_X b L xs s s.heap) (hbl : b < s.heap.size) (hbA : ¬ A0 b) (hi : 10 + 9 * i ≤ L) (hL : L ≤ 4609) (hLR : LR A0 D ad ca bd cb H) (hS : va_S A0 s.heap H locs) (hA : ∀ q : Nat, s.heap.size ≤ q → A0 q) (hl : lv_has ls 4 [(0, .ref b), (1, .ref (ad 0)), (2, .ref (bd 0)), (3, .int (nI (1 + 9 * i)))]) (hc : cells + 1 ≤ 726897) (hs : slots + 4 ≤ 6921558) (hc2 : cells + 1 + 1 ≤ 726897) (hs2 : slots + 4 + 4 ≤ 6921558)
    (kk : ∀ (H1 : Heap) (locs1 : List Loc), LR A0 D ad ca bd cb H1 → va_S A0 s.heap H1 locs1 → W p l e room_1 s m #[Value.ref b] below meth c H1 locs1 (cells + 1) (slots + 4) Q (F0 m 1227 ls [])) : W p l e room_1 s m #[Value.ref b] below meth c H locs cells slots Q (F0 m 1016 ls []) := by
  obtain ⟨hx, hb, hml, hown, hts⟩ := id F
  refine lv_aload_n hx hb dL_law_1016 rfl (lv_at hl 1 rfl) ?_
  refine lv_aload_n hx hb dL_law_1017 rfl (lv_at hl 0 rfl) ?_
  refine lv_iload_n hx hb dL_law_1018 rfl (lv_at hl 3 rfl) ?_
  refine lv_iconst (v := 1) hx hb dL_law_1019 (by decide) ?_
  refine lv_iadd hx hb dL_law_1020 ?_
  refine va_sld hx hb hX hbl hbA hS (ns_inL (k := 1) hi (by decide) hL) dL_law_1021 ?_
  obtain ⟨sd, pz, tc, st, tr, sc, P, Mn, T, Wt, Rn, Po, Pl, Sp, Ks, Kp, Kc, Ik, O, gr, As, hI, hC⟩ := hLR
  refine rC_split F hKc hI hC hS hA hl.1 (Nat.le_of_ble_eq_true rfl) hc hs dL_law_1022 (fun r1022 H locs hr1022 hC hS => ?_)
  obtain ⟨Y, hM, bk⟩ := CA_m hC
  refine lv_pop hx hb dL_law_1025 rfl ?_
  refine lv_aload_n hx hb dL_law_1026 rfl (lv_at hl 2 rfl) ?_
  refine lv_aload_n hx hb dL_law_1027 rfl (lv_at hl 0 rfl) ?_
  refine lv_iload_n hx hb dL_law_1028 rfl (lv_at hl 3 rfl) ?_
  refine lv_iconst (v := 1) hx hb dL_law_1029 (by decide) ?_
  refine lv_iadd hx hb dL_law_1030 ?_
  refine va_sld hx hb hX hbl hbA hS (ns_inL (k := 1) hi (by decide) hL) dL_law_1031 ?_
  refine rM_split F hKm hI hM hS hA hl.1 (Nat.le_of_ble_eq_true rfl) hc2 hs2 dL_law_1032 (fun r1032 H locs hr1032 hM hS => ?_)
  obtain ⟨gr, As, hC⟩ := bk _ hM
  have hLR : LR A0 D ad ca bd cb H := ⟨_, _, _, _, _, _, _, _, _, _, _, _, _, _, _, _, _, _, _, gr, As, aI_split hI, hC⟩
  refine lv_pop hx hb dL_law_1035 rfl ?_
  exact lv_goto (tgt := 1227) hx hb dL_law_1036 (by decide) (kk _ _ hLR hS)
set_option maxHeartbeats 1000000 in
set_option maxRecDepth 100000 in
theorem lc_15 (F : CallFix p m c cL_law 4 s #[Value.ref b] wsL_law RL) (k21 : (Cond.constantLong RL 21 (4294967295)).before #[Value.ref b] s = true) (hKc : nkK D (tC ca) s) (hKm : nkK D (tM cb) s) (hX : va_X b L xs s s.heap) (hbl : b < s.heap.size) (hbA : ¬ A0 b) (hi : 10 + 9 * i ≤ L) (hL : L ≤ 4609) (hLR : LR A0 D ad ca bd cb H) (hS : va_S A0 s.heap H locs) (hA : ∀ q : Nat, s.heap.size ≤ q → A0 q) (hl : lv_has ls 4 [(0, .ref b), (1, .ref (ad 0)), (2, .ref (bd 0)), (3, .int (nI (1 + 9 * i)))]) (hc : cells + 1 ≤ 726897) (hs : slots + 4 ≤ 6921558) (hc2 : cells + 1 + 1 ≤ 726897) (hs2 : slots + 4 + 4 ≤ 6921558)
    (kk : ∀ (H1 : Heap) (locs1 : List Loc), LR A0 D ad ca bd cb H1 → va_S A0 s.heap H1 locs1 → W p l e room_1 s m #[Value.ref b] below meth c H1 locs1 (cells + 1) (slots + 4) Q (F0 m 1227 ls [])) : W p l e room_1 s m #[Value.ref b] below meth c H locs cells slots Q (F0 m 1039 ls []) := by
  obtain ⟨hx, hb, hml, hown, hts⟩ := id F
  refine lv_aload_n hx hb dL_law_1039 rfl (lv_at hl 1 rfl) ?_
  refine lv_aload_n hx hb dL_law_1040 rfl (lv_at hl 0 rfl) ?_
  refine lv_iload_n hx hb dL_law_1041 rfl (lv_at hl 3 rfl) ?_
  refine lv_iconst (v := 1) hx hb dL_law_1042 (by decide) ?_
  refine lv_iadd hx hb dL_law_1043 ?_
  refine va_sld hx hb hX hbl hbA hS (ns_inL (k := 1) hi (by decide) hL) dL_law_1044 ?_
  refine lv_aload_n hx hb dL_law_1045 rfl (lv_at hl 0 rfl) ?_
  refine lv_iload_n hx hb dL_law_1046 rfl (lv_at hl 3 rfl) ?_
  refine lv_iconst (v := 2) hx hb dL_law_1047 (by decide) ?_
  refine lv_iadd hx hb dL_law_1048 ?_
  refine va_sld hx hb hX hbl hbA hS (ns_inL (k := 2) hi (by decide) hL) dL_law_1049 ?_
  obtain ⟨sd, pz, tc, st, tr, sc, P, Mn, T, Wt, Rn, Po, Pl, Sp, Ks, Kp, Kc, Ik, O, gr, As, hI, hC⟩ := hLR
  refine rC_skip F hKc hI hC hS hA hl.1 (Nat.le_of_ble_eq_true rfl) hc hs dL_law_1050 (fun r1050 H locs hr1050 hC hS => ?_)
  obtain ⟨Y, hM, bk⟩ := CA_m hC
  refine lv_pop hx hb dL_law_1053 rfl ?_
  refine lv_aload_n hx hb dL_law_1054 rfl (lv_at hl 2 rfl) ?_
  refine lv_aload_n hx hb dL_law_1055 rfl (lv_at hl 0 rfl) ?_
  refine lv_iload_n hx hb dL_law_1056 rfl (lv_at hl 3 rfl) ?_
  refine lv_iconst (v := 1) hx hb dL_law_1057 (by decide) ?_
  refine lv_iadd hx hb dL_law_1058 ?_
  refine va_sld hx hb hX hbl hbA hS (ns_inL (k := 1) hi (by decide) hL) dL_law_1059 ?_
  refine lv_aload_n hx hb dL_law_1060 rfl (lv_at hl 0 rfl) ?_
  refine lv_iload_n hx hb dL_law_1061 rfl (lv_at hl 3 rfl) ?_
  refine lv_iconst (v := 2) hx hb dL_law_1062 (by decide) ?_
  refine lv_iadd hx hb dL_law_1063 ?_
  refine va_sld hx hb hX hbl hbA hS (ns_inL (k := 2) hi (by decide) hL) dL_law_1064 ?_
  refine rM_skip F hKm hI hM hS hA hl.1 (Nat.le_of_ble_eq_true rfl) hc2 hs2 dL_law_1065 (fun r1065 H locs hr1065 hM hS => ?_)
  obtain ⟨gr, As, hC⟩ := bk _ hM
  have hLR : LR A0 D ad ca bd cb H := ⟨_, _, _, _, _, _, _, _, _, _, _, _, _, _, _, _, _, _, _, gr, As, hI, hC⟩
  refine lv_pop hx hb dL_law_1068 rfl ?_
  exact lv_goto (tgt := 1227) hx hb dL_law_1069 (by decide) (kk _ _ hLR hS)
set_option maxHeartbeats 1000000 in
set_option maxRecDepth 100000 in
theorem lc_16 (F : CallFix p m c cL_law 4 s #[Value.ref b] wsL_law RL) (k21 : (Cond.constantLong RL 21 (4294967295)).before #[Value.ref b] s = true) (hKc : nkK D (tC ca) s) (hKm : nkK D (tM cb) s) (hX : va_X b L xs s s.heap) (hbl : b < s.heap.size) (hbA : ¬ A0 b) (hi : 10 + 9 * i ≤ L) (hL : L ≤ 4609) (hLR : LR A0 D ad ca bd cb H) (hS : va_S A0 s.heap H locs) (hA : ∀ q : Nat, s.heap.size ≤ q → A0 q) (hl : lv_has ls 4 [(0, .ref b), (1, .ref (ad 0)), (2, .ref (bd 0)), (3, .int (nI (1 + 9 * i)))]) (hc : cells + 1 ≤ 726897) (hs : slots + 4 ≤ 6921558) (hc2 : cells + 1 + 1 ≤ 726897) (hs2 : slots + 4 + 4 ≤ 6921558)
    (kk : ∀ (H1 : Heap) (locs1 : List Loc), LR A0 D ad ca bd cb H1 → va_S A0 s.heap H1 locs1 → W p l e room_1 s m #[Value.ref b] below meth c H1 locs1 (cells + 1) (slots + 4) Q (F0 m 1227 ls [])) : W p l e room_1 s m #[Value.ref b] below meth c H locs cells slots Q (F0 m 1072 ls []) := by
  obtain ⟨hx, hb, hml, hown, hts⟩ := id F
  refine lv_aload_n hx hb dL_law_1072 rfl (lv_at hl 1 rfl) ?_
  refine lv_aload_n hx hb dL_law_1073 rfl (lv_at hl 0 rfl) ?_
  refine lv_iload_n hx hb dL_law_1074 rfl (lv_at hl 3 rfl) ?_
  refine lv_iconst (v := 1) hx hb dL_law_1075 (by decide) ?_
  refine lv_iadd hx hb dL_law_1076 ?_
  refine va_sld hx hb hX hbl hbA hS (ns_inL (k := 1) hi (by decide) hL) dL_law_1077 ?_
  refine lv_aload_n hx hb dL_law_1078 rfl (lv_at hl 0 rfl) ?_
  refine lv_iload_n hx hb dL_law_1079 rfl (lv_at hl 3 rfl) ?_
  refine lv_iconst (v := 2) hx hb dL_law_1080 (by decide) ?_
  refine lv_iadd hx hb dL_law_1081 ?_
  refine va_sld hx hb hX hbl hbA hS (ns_inL (k := 2) hi (by decide) hL) dL_law_1082 ?_
  obtain ⟨sd, pz, tc, st, tr, sc, P, Mn, T, Wt, Rn, Po, Pl, Sp, Ks, Kp, Kc, Ik, O, gr, As, hI, hC⟩ := hLR
  refine rC_keep F hKc hI hC hS hA hl.1 (Nat.le_of_ble_eq_true rfl) hc hs dL_law_1083 (fun r1083 H locs hr1083 hC hS => ?_)
  obtain ⟨Y, hM, bk⟩ := CA_m hC
  refine lv_pop hx hb dL_law_1086 rfl ?_
  refine lv_aload_n hx hb dL_law_1087 rfl (lv_at hl 2 rfl) ?_
  refine lv_aload_n hx hb dL_law_1088 rfl (lv_at hl 0 rfl) ?_
  refine lv_iload_n hx hb dL_law_1089 rfl (lv_at hl 3 rfl) ?_
  refine lv_iconst (v := 1) hx hb dL_law_1090 (by decide) ?_
  refine lv_iadd hx hb dL_law_1091 ?_
  refine va_sld hx hb hX hbl hbA hS (ns_inL (k := 1) hi (by decide) hL) dL_law_1092 ?_
  refine lv_aload_n hx hb dL_law_1093 rfl (lv_at hl 0 rfl) ?_
  refine lv_iload_n hx hb dL_law_1094 rfl (lv_at hl 3 rfl) ?_
  refine lv_iconst (v := 2) hx hb dL_law_1095 (by decide) ?_
  refine lv_iadd hx hb dL_law_1096 ?_
  refine va_sld hx hb hX hbl hbA hS (ns_inL (k := 2) hi (by decide) hL) dL_law_1097 ?_
  refine rM_keep F hKm hI hM hS hA hl.1 (Nat.le_of_ble_eq_true rfl) hc2 hs2 dL_law_1098 (fun r1098 H locs hr1098 hM hS => ?_)
  obtain ⟨gr, As, hC⟩ := bk _ hM
  have hLR : LR A0 D ad ca bd cb H := ⟨_, _, _, _, _, _, _, _, _, _, _, _, _, _, _, _, _, _, _, gr, As, aI_keep hI, hC⟩
  refine lv_pop hx hb dL_law_1101 rfl ?_
  exact lv_goto (tgt := 1227) hx hb dL_law_1102 (by decide) (kk _ _ hLR hS)
set_option maxHeartbeats 1000000 in
set_option maxRecDepth 100000 in
theorem lc_17 (F : CallFix p m c cL_law 4 s #[Value.ref b] wsL_law RL) (k21 : (Cond.constantLong RL 21 (4294967295)).before #[Value.ref b] s = true) (hKc : nkK D (tC ca) s) (hKm : nkK D (tM cb) s) (hX : va_X b L xs s s.heap) (hbl : b < s.heap.size) (hbA : ¬ A0 b) (hi : 10 + 9 * i ≤ L) (hL : L ≤ 4609) (hLR : LR A0 D ad ca bd cb H) (hS : va_S A0 s.heap H locs) (hA : ∀ q : Nat, s.heap.size ≤ q → A0 q) (hl : lv_has ls 4 [(0, .ref b), (1, .ref (ad 0)), (2, .ref (bd 0)), (3, .int (nI (1 + 9 * i)))]) (hc : cells + 1 ≤ 726897) (hs : slots + 4 ≤ 6921558) (hc2 : cells + 1 + 1 ≤ 726897) (hs2 : slots + 4 + 4 ≤ 6921558)
    (kk : ∀ (H1 : Heap) (locs1 : List Loc), LR A0 D ad ca bd cb H1 → va_S A0 s.heap H1 locs1 → W p l e room_1 s m #[Value.ref b] below meth c H1 locs1 (cells + 1) (slots + 4) Q (F0 m 1227 ls [])) : W p l e room_1 s m #[Value.ref b] below meth c H locs cells slots Q (F0 m 1105 ls []) := by
  obtain ⟨hx, hb, hml, hown, hts⟩ := id F
  refine lv_aload_n hx hb dL_law_1105 rfl (lv_at hl 1 rfl) ?_
  refine lv_aload_n hx hb dL_law_1106 rfl (lv_at hl 0 rfl) ?_
  refine lv_iload_n hx hb dL_law_1107 rfl (lv_at hl 3 rfl) ?_
  refine lv_iconst (v := 1) hx hb dL_law_1108 (by decide) ?_
  refine lv_iadd hx hb dL_law_1109 ?_
  refine va_sld hx hb hX hbl hbA hS (ns_inL (k := 1) hi (by decide) hL) dL_law_1110 ?_
  obtain ⟨sd, pz, tc, st, tr, sc, P, Mn, T, Wt, Rn, Po, Pl, Sp, Ks, Kp, Kc, Ik, O, gr, As, hI, hC⟩ := hLR
  refine rC_back F hKc hI hC hS hA hl.1 (Nat.le_of_ble_eq_true rfl) hc hs dL_law_1111 (fun r1111 H locs hr1111 hC hS => ?_)
  obtain ⟨Y, hM, bk⟩ := CA_m hC
  refine lv_pop hx hb dL_law_1114 rfl ?_
  refine lv_aload_n hx hb dL_law_1115 rfl (lv_at hl 2 rfl) ?_
  refine lv_aload_n hx hb dL_law_1116 rfl (lv_at hl 0 rfl) ?_
  refine lv_iload_n hx hb dL_law_1117 rfl (lv_at hl 3 rfl) ?_
  refine lv_iconst (v := 1) hx hb dL_law_1118 (by decide) ?_
  refine lv_iadd hx hb dL_law_1119 ?_
  refine va_sld hx hb hX hbl hbA hS (ns_inL (k := 1) hi (by decide) hL) dL_law_1120 ?_
  refine rM_back F hKm hI hM hS hA hl.1 (Nat.le_of_ble_eq_true rfl) hc2 hs2 dL_law_1121 (fun r1121 H locs hr1121 hM hS => ?_)
  obtain ⟨gr, As, hC⟩ := bk _ hM
  have hLR : LR A0 D ad ca bd cb H := ⟨_, _, _, _, _, _, _, _, _, _, _, _, _, _, _, _, _, _, _, gr, As, hI, hC⟩
  refine lv_pop hx hb dL_law_1124 rfl ?_
  exact lv_goto (tgt := 1227) hx hb dL_law_1125 (by decide) (kk _ _ hLR hS)
set_option maxHeartbeats 1000000 in
set_option maxRecDepth 100000 in
theorem lc_18 (F : CallFix p m c cL_law 4 s #[Value.ref b] wsL_law RL) (k21 : (Cond.constantLong RL 21 (4294967295)).before #[Value.ref b] s = true) (hKc : nkK D (tC ca) s) (hKm : nkK D (tM cb) s) (hX : va_X b L xs s s.heap) (hbl : b < s.heap.size) (hbA : ¬ A0 b) (hi : 10 + 9 * i ≤ L) (hL : L ≤ 4609) (hLR : LR A0 D ad ca bd cb H) (hS : va_S A0 s.heap H locs) (hA : ∀ q : Nat, s.heap.size ≤ q → A0 q) (hl : lv_has ls 4 [(0, .ref b), (1, .ref (ad 0)), (2, .ref (bd 0)), (3, .int (nI (1 + 9 * i)))]) (hc : cells + 1 ≤ 726897) (hs : slots + 4 ≤ 6921558) (hc2 : cells + 1 + 1 ≤ 726897) (hs2 : slots + 4 + 4 ≤ 6921558)
    (kk : ∀ (H1 : Heap) (locs1 : List Loc), LR A0 D ad ca bd cb H1 → va_S A0 s.heap H1 locs1 → W p l e room_1 s m #[Value.ref b] below meth c H1 locs1 (cells + 1) (slots + 4) Q (F0 m 1227 ls [])) : W p l e room_1 s m #[Value.ref b] below meth c H locs cells slots Q (F0 m 1128 ls []) := by
  obtain ⟨hx, hb, hml, hown, hts⟩ := id F
  refine lv_aload_n hx hb dL_law_1128 rfl (lv_at hl 1 rfl) ?_
  refine lv_aload_n hx hb dL_law_1129 rfl (lv_at hl 0 rfl) ?_
  refine lv_iload_n hx hb dL_law_1130 rfl (lv_at hl 3 rfl) ?_
  refine lv_iconst (v := 1) hx hb dL_law_1131 (by decide) ?_
  refine lv_iadd hx hb dL_law_1132 ?_
  refine va_sld hx hb hX hbl hbA hS (ns_inL (k := 1) hi (by decide) hL) dL_law_1133 ?_
  refine lv_aload_n hx hb dL_law_1134 rfl (lv_at hl 0 rfl) ?_
  refine lv_iload_n hx hb dL_law_1135 rfl (lv_at hl 3 rfl) ?_
  refine lv_iconst (v := 2) hx hb dL_law_1136 (by decide) ?_
  refine lv_iadd hx hb dL_law_1137 ?_
  refine va_sld hx hb hX hbl hbA hS (ns_inL (k := 2) hi (by decide) hL) dL_law_1138 ?_
  obtain ⟨sd, pz, tc, st, tr, sc, P, Mn, T, Wt, Rn, Po, Pl, Sp, Ks, Kp, Kc, Ik, O, gr, As, hI, hC⟩ := hLR
  refine rC_told F hKc hI hC hS hA hl.1 (Nat.le_of_ble_eq_true rfl) hc hs dL_law_1139 (fun r1139 H locs hr1139 hC hS => ?_)
  obtain ⟨Y, hM, bk⟩ := CA_m hC
  refine lv_pop hx hb dL_law_1142 rfl ?_
  refine lv_aload_n hx hb dL_law_1143 rfl (lv_at hl 2 rfl) ?_
  refine lv_aload_n hx hb dL_law_1144 rfl (lv_at hl 0 rfl) ?_
  refine lv_iload_n hx hb dL_law_1145 rfl (lv_at hl 3 rfl) ?_
  refine lv_iconst (v := 1) hx hb dL_law_1146 (by decide) ?_
  refine lv_iadd hx hb dL_law_1147 ?_
  refine va_sld hx hb hX hbl hbA hS (ns_inL (k := 1) hi (by decide) hL) dL_law_1148 ?_
  refine lv_aload_n hx hb dL_law_1149 rfl (lv_at hl 0 rfl) ?_
  refine lv_iload_n hx hb dL_law_1150 rfl (lv_at hl 3 rfl) ?_
  refine lv_iconst (v := 2) hx hb dL_law_1151 (by decide) ?_
  refine lv_iadd hx hb dL_law_1152 ?_
  refine va_sld hx hb hX hbl hbA hS (ns_inL (k := 2) hi (by decide) hL) dL_law_1153 ?_
  refine rM_told F hKm hI hM hS hA hl.1 (Nat.le_of_ble_eq_true rfl) hc2 hs2 dL_law_1154 (fun r1154 H locs hr1154 hM hS => ?_)
  obtain ⟨gr, As, hC⟩ := bk _ hM
  have hLR : LR A0 D ad ca bd cb H := ⟨_, _, _, _, _, _, _, _, _, _, _, _, _, _, _, _, _, _, _, gr, As, hI, hC⟩
  refine lv_pop hx hb dL_law_1157 rfl ?_
  exact lv_goto (tgt := 1227) hx hb dL_law_1158 (by decide) (kk _ _ hLR hS)
set_option maxHeartbeats 1000000 in
set_option maxRecDepth 100000 in
theorem lc_19 (F : CallFix p m c cL_law 4 s #[Value.ref b] wsL_law RL) (k21 : (Cond.constantLong RL 21 (4294967295)).before #[Value.ref b] s = true) (hKc : nkK D (tC ca) s) (hKm : nkK D (tM cb) s) (hX : va_X b L xs s s.heap) (hbl : b < s.heap.size) (hbA : ¬ A0 b) (hi : 10 + 9 * i ≤ L) (hL : L ≤ 4609) (hLR : LR A0 D ad ca bd cb H) (hS : va_S A0 s.heap H locs) (hA : ∀ q : Nat, s.heap.size ≤ q → A0 q) (hl : lv_has ls 4 [(0, .ref b), (1, .ref (ad 0)), (2, .ref (bd 0)), (3, .int (nI (1 + 9 * i)))]) (hc : cells + 1 ≤ 726897) (hs : slots + 4 ≤ 6921558) (hc2 : cells + 1 + 1 ≤ 726897) (hs2 : slots + 4 + 4 ≤ 6921558)
    (kk : ∀ (H1 : Heap) (locs1 : List Loc), LR A0 D ad ca bd cb H1 → va_S A0 s.heap H1 locs1 → W p l e room_1 s m #[Value.ref b] below meth c H1 locs1 (cells + 1) (slots + 4) Q (F0 m 1227 ls [])) : W p l e room_1 s m #[Value.ref b] below meth c H locs cells slots Q (F0 m 1161 ls []) := by
  obtain ⟨hx, hb, hml, hown, hts⟩ := id F
  refine lv_aload_n hx hb dL_law_1161 rfl (lv_at hl 1 rfl) ?_
  refine lv_aload_n hx hb dL_law_1162 rfl (lv_at hl 0 rfl) ?_
  refine lv_iload_n hx hb dL_law_1163 rfl (lv_at hl 3 rfl) ?_
  refine lv_iconst (v := 1) hx hb dL_law_1164 (by decide) ?_
  refine lv_iadd hx hb dL_law_1165 ?_
  refine va_sld hx hb hX hbl hbA hS (ns_inL (k := 1) hi (by decide) hL) dL_law_1166 ?_
  refine lv_aload_n hx hb dL_law_1167 rfl (lv_at hl 0 rfl) ?_
  refine lv_iload_n hx hb dL_law_1168 rfl (lv_at hl 3 rfl) ?_
  refine lv_iconst (v := 2) hx hb dL_law_1169 (by decide) ?_
  refine lv_iadd hx hb dL_law_1170 ?_
  refine va_sld hx hb hX hbl hbA hS (ns_inL (k := 2) hi (by decide) hL) dL_law_1171 ?_
  refine lv_aload_n hx hb dL_law_1172 rfl (lv_at hl 0 rfl) ?_
  refine lv_iload_n hx hb dL_law_1173 rfl (lv_at hl 3 rfl) ?_
  refine lv_iconst (v := 3) hx hb dL_law_1174 (by decide) ?_
  refine lv_iadd hx hb dL_law_1175 ?_
  refine va_sld hx hb hX hbl hbA hS (ns_inL (k := 3) hi (by decide) hL) dL_law_1176 ?_
  obtain ⟨sd, pz, tc, st, tr, sc, P, Mn, T, Wt, Rn, Po, Pl, Sp, Ks, Kp, Kc, Ik, O, gr, As, hI, hC⟩ := hLR
  refine rC_counted F hKc hI hC hS hA hl.1 (Nat.le_of_ble_eq_true rfl) hc hs dL_law_1177 (fun r1177 H locs hr1177 hC hS => ?_)
  obtain ⟨Y, hM, bk⟩ := CA_m hC
  refine lv_pop hx hb dL_law_1180 rfl ?_
  refine lv_aload_n hx hb dL_law_1181 rfl (lv_at hl 2 rfl) ?_
  refine lv_aload_n hx hb dL_law_1182 rfl (lv_at hl 0 rfl) ?_
  refine lv_iload_n hx hb dL_law_1183 rfl (lv_at hl 3 rfl) ?_
  refine lv_iconst (v := 1) hx hb dL_law_1184 (by decide) ?_
  refine lv_iadd hx hb dL_law_1185 ?_
  refine va_sld hx hb hX hbl hbA hS (ns_inL (k := 1) hi (by decide) hL) dL_law_1186 ?_
  refine lv_aload_n hx hb dL_law_1187 rfl (lv_at hl 0 rfl) ?_
  refine lv_iload_n hx hb dL_law_1188 rfl (lv_at hl 3 rfl) ?_
  refine lv_iconst (v := 2) hx hb dL_law_1189 (by decide) ?_
  refine lv_iadd hx hb dL_law_1190 ?_
  refine va_sld hx hb hX hbl hbA hS (ns_inL (k := 2) hi (by decide) hL) dL_law_1191 ?_
  refine lv_aload_n hx hb dL_law_1192 rfl (lv_at hl 0 rfl) ?_
  refine lv_iload_n hx hb dL_law_1193 rfl (lv_at hl 3 rfl) ?_
  refine lv_iconst (v := 3) hx hb dL_law_1194 (by decide) ?_
  refine lv_iadd hx hb dL_law_1195 ?_
  refine va_sld hx hb hX hbl hbA hS (ns_inL (k := 3) hi (by decide) hL) dL_law_1196 ?_
  refine rM_counted F hKm hI hM hS hA hl.1 (Nat.le_of_ble_eq_true rfl) hc2 hs2 dL_law_1197 (fun r1197 H locs hr1197 hM hS => ?_)
  obtain ⟨gr, As, hC⟩ := bk _ hM
  have hLR : LR A0 D ad ca bd cb H := ⟨_, _, _, _, _, _, _, _, _, _, _, _, _, _, _, _, _, _, _, gr, As, hI, hC⟩
  refine lv_pop hx hb dL_law_1200 rfl ?_
  exact lv_goto (tgt := 1227) hx hb dL_law_1201 (by decide) (kk _ _ hLR hS)
set_option maxHeartbeats 1000000 in
set_option maxRecDepth 100000 in
theorem lc_20 (F : CallFix p m c cL_law 4 s #[Value.ref b] wsL_law RL) (k21 : (Cond.constantLong RL 21 (4294967295)).before #[Value.ref b] s = true) (hKc : nkK D (tC ca) s) (hKm : nkK D (tM cb) s) (hX : va_X b L xs s s.heap) (hbl : b < s.heap.size) (hbA : ¬ A0 b) (hi : 10 + 9 * i ≤ L) (hL : L ≤ 4609) (hLR : LR A0 D ad ca bd cb H) (hS : va_S A0 s.heap H locs) (hA : ∀ q : Nat, s.heap.size ≤ q → A0 q) (hl : lv_has ls 4 [(0, .ref b), (1, .ref (ad 0)), (2, .ref (bd 0)), (3, .int (nI (1 + 9 * i)))]) (hc : cells + 1 ≤ 726897) (hs : slots + 4 ≤ 6921558) (hc2 : cells + 1 + 1 ≤ 726897) (hs2 : slots + 4 + 4 ≤ 6921558)
    (kk : ∀ (H1 : Heap) (locs1 : List Loc), LR A0 D ad ca bd cb H1 → va_S A0 s.heap H1 locs1 → W p l e room_1 s m #[Value.ref b] below meth c H1 locs1 (cells + 1) (slots + 4) Q (F0 m 1227 ls [])) : W p l e room_1 s m #[Value.ref b] below meth c H locs cells slots Q (F0 m 1204 ls []) := by
  obtain ⟨hx, hb, hml, hown, hts⟩ := id F
  refine lv_aload_n hx hb dL_law_1204 rfl (lv_at hl 1 rfl) ?_
  refine lv_aload_n hx hb dL_law_1205 rfl (lv_at hl 0 rfl) ?_
  refine lv_iload_n hx hb dL_law_1206 rfl (lv_at hl 3 rfl) ?_
  refine lv_iconst (v := 1) hx hb dL_law_1207 (by decide) ?_
  refine lv_iadd hx hb dL_law_1208 ?_
  refine va_sld hx hb hX hbl hbA hS (ns_inL (k := 1) hi (by decide) hL) dL_law_1209 ?_
  obtain ⟨sd, pz, tc, st, tr, sc, P, Mn, T, Wt, Rn, Po, Pl, Sp, Ks, Kp, Kc, Ik, O, gr, As, hI, hC⟩ := hLR
  refine rC_count F hKc hI hC hS hA hl.1 (Nat.le_of_ble_eq_true rfl) hc hs dL_law_1210 (fun r1210 H locs hr1210 hC hS => ?_)
  obtain ⟨Y, hM, bk⟩ := CA_m hC
  refine lv_pop hx hb dL_law_1213 rfl ?_
  refine lv_aload_n hx hb dL_law_1214 rfl (lv_at hl 2 rfl) ?_
  refine lv_aload_n hx hb dL_law_1215 rfl (lv_at hl 0 rfl) ?_
  refine lv_iload_n hx hb dL_law_1216 rfl (lv_at hl 3 rfl) ?_
  refine lv_iconst (v := 1) hx hb dL_law_1217 (by decide) ?_
  refine lv_iadd hx hb dL_law_1218 ?_
  refine va_sld hx hb hX hbl hbA hS (ns_inL (k := 1) hi (by decide) hL) dL_law_1219 ?_
  refine rM_count F hKm hI hM hS hA hl.1 (Nat.le_of_ble_eq_true rfl) hc2 hs2 dL_law_1220 (fun r1220 H locs hr1220 hM hS => ?_)
  obtain ⟨gr, As, hC⟩ := bk _ hM
  have hLR : LR A0 D ad ca bd cb H := ⟨_, _, _, _, _, _, _, _, _, _, _, _, _, _, _, _, _, _, _, gr, As, hI, hC⟩
  refine lv_pop hx hb dL_law_1223 rfl ?_
  exact lv_goto (tgt := 1227) hx hb dL_law_1224 (by decide) (kk _ _ hLR hS)
end LC2
