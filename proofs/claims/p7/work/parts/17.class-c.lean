/-! permutations: places in range -/
theorem ns_perm0 (n : Nat) : (n - 1 = 0 → nI n - 1 < 1) ∧ (0 < n - 1 → nI n - 1 = nI (n - 1)) := by
  constructor
  · intro h
    have h2 : n = 0 ∨ n = 1 := by omega
    rcases h2 with rfl | rfl <;> decide
  · intro h
    obtain ⟨m, rfl⟩ : ∃ m, n = m + 1 := ⟨n - 1, by omega⟩
    rw [nI_pred]; rfl
theorem ns_perm1 {q : Nat} {j i : Int32} (h : 0 < q + 1 → j = nI (q + 1)) (e : i = j + (-1)) : (q = 0 → i < 1) ∧ (0 < q → i = nI q) := by
  have h1 : i = nI q := by rw [e, h (Nat.succ_pos _)]; exact pk_m1 q
  constructor
  · intro h2; rw [h1, h2]; decide
  · intro _; exact h1
theorem ns_permI {q : Nat} (h : q ≤ 38) : (nI (q + 1) + 1).toInt64 = lN (q + 2) := by
  rw [nI_1, nI_l (by omega)]
theorem ns_permN {q nn : Nat} {j : Int32} (hn : nn ≤ 40) (hq : q + 1 ≤ nn - 1) (hj : j = nI (q + 1)) : ¬ (j + 1).toInt64 = 0 := by
  rw [hj, ns_permI (by omega)]
  intro h
  have h2 : lN (q + 2) = lN 0 := h
  rw [lN_eq (by omega) (by omega)] at h2
  omega
theorem ns_permIn {q nn : Nat} {j x : Int32} {o f : Int64} {tr : Int32} (hn : nn ≤ 40) (hq : q + 1 ≤ nn - 1) (hj : j = nI (q + 1)) (hx : x = (fSpan o f (j + 1).toInt64 tr).1.toInt32) (h : 0 ≤ (fSpan o f (j + 1).toInt64 tr).1) : vp_in x 40 := by
  have e : (j + 1).toInt64 = lN (q + 2) := by rw [hj, ns_permI (by omega)]
  rw [e] at hx h
  have hp : (0 : Int64) < lN (q + 2) := by
    rw [show (0 : Int64) = lN 0 from rfl, lN_lt (by omega) (by omega)]; omega
  have h2 := fSpan_in hp h
  obtain ⟨m, hm, e2⟩ := pk_lOf (Int64.not_lt.mpr h)
  rw [e2] at h2
  rw [pk_lLT hm (by omega)] at h2
  rw [hx, e2, lN_i]
  exact vp_in_nI (by omega) (by decide)
theorem ns_le40 {n : Int32} (h0 : ¬ n < 0) (h : ¬ 40 < n) : n.toNatClampNeg ≤ 40 := by
  obtain ⟨j, hj, rfl⟩ := nI_of h0
  rw [nI_clamp hj]
  have h2 : nI j ≤ nI 40 := Int32.not_lt.mp h
  exact (nI_leI hj (by decide)).mp h2
theorem ns_back {x : Int32} (h : ¬ x < 0) : nI x.toNatClampNeg = x := by
  obtain ⟨j, hj, rfl⟩ := nI_of h
  rw [nI_clamp hj]
set_option maxHeartbeats 800000 in
set_option maxRecDepth 100000 in
theorem mX3_drawPermutation (l : Launch) (D : va_G) (ad : Nat → Nat) (ca : Nat → ClassId) (sd : Int64) (tc : Int32) (sc : Int32) (tr : Int32) (st : Int32) (pz : Int32) (T : Nat → Int64) (Wt : Nat → Int64) (O : Nat → Int32) (SA : Nat → Option Nat) (KA : Nat → Option Nat) (R : Nat → Int64) (Ln : Nat → Int32) (Ky : Nat → Int64) (Ch : Nat → Int64) (X : va_W) (run0 : Int64) (p0 c0 : Int32) (nn : Nat) (hp0 : vp_in p0 24) (hn0 : nn ≤ 40) : nkMI l yX3_drawPermutation wsX3_drawPermutation ({ frames := 3, cells := 0, slots := 0, locals := 85 }) D (tC ca) [.ref (ad 0), .long run0, .int p0, .int c0, .int (nI nn)] (wC ad ca sd tc sc tr st pz T Wt O SA KA R Ln Ky Ch X) (fun u : (Nat → Int32) × Int32 => wC ad ca sd tc sc u.2 st pz T Wt u.1 SA KA R Ln Ky Ch X) (fun r u => fPermD (fBase sd run0 (Ky p0.toNatClampNeg)) c0 nn O tr = (r, u)) 0 0 := by
  refine nk_ofM (Qf := fun A => va_Qi (fun r u => fPermD (fBase sd run0 (Ky p0.toNatClampNeg)) c0 nn O tr = (r, u)) (nkB D A (fun u : (Nat → Int32) × Int32 => wC ad ca sd tc sc u.2 st pz T Wt u.1 SA KA R Ln Ky Ch X)) A) (cc := cX3_drawPermutation) (maxL := 11) (ret := (some .boolean)) (by decide) rfl (Nat.le_of_ble_eq_true rfl) ?_
  intro p e s m below meth c A hx hb hr hml hts hown hlocks hin hK hP hD hA hS ls hl
  replace hown : s.vm.findClass RX3 = some m.cls := hown
  replace hl : lv_has ls 11 [(0, .ref (ad 0)), (1, .long run0), (3, .int p0), (4, .int c0), (5, .int (nI nn))] := hl
  have hP : va_P D vwCl (wC ad ca sd tc sc tr st pz T Wt O SA KA R Ln Ky Ch X) s.heap := hP
  have iX1 : ∀ w ∈ u_ws RX1 TX1 5, w ∈ wsX3_drawPermutation := by decide +kernel
  have iX3 : ∀ w ∈ u_ws RX3 TX3 11, w ∈ wsX3_drawPermutation := by decide +kernel
  refine lv_iconst (v := 0) hx hb dX3_drawPermutation_0 (by decide) ?_
  refine lv_istore (lv' := [(6, .int (0 : Int32)), (0, .ref (ad 0)), (1, .long run0), (3, .int p0), (4, .int c0), (5, .int (nI nn))]) hx hb dX3_drawPermutation_1 hl (by decide) rfl (fun ls hl => ?_)
  have lp3 : ∀ (k : Nat) (i : Int32) (O1 : Nat → Int32) (H : Heap) (locs : List Loc) (ls : Array Slot), k ≤ nn → i = nI (nn - k) → fFill nn k O1 = fFill nn nn O → va_P D vwCl (wC ad ca sd tc sc tr st pz T Wt O1 SA KA R Ln Ky Ch X) H → va_D A (wC ad ca sd tc sc tr st pz T Wt O1 SA KA R Ln Ky Ch X) → va_S A s.heap H locs → lv_has ls 11 [(6, .int i), (0, .ref (ad 0)), (1, .long run0), (3, .int p0), (4, .int c0), (5, .int (nI nn))] → W p l e ({ frames := 3, cells := 0, slots := 0, locals := 85 } : Room) s m ([.ref (ad 0), .long run0, .int p0, .int c0, .int (nI nn)] : List Value).toArray below meth c H locs 0 0 (MQ below (va_Qi (fun r u => fPermD (fBase sd run0 (Ky p0.toNatClampNeg)) c0 nn O tr = (r, u)) (nkB D A (fun u : (Nat → Int32) × Int32 => wC ad ca sd tc sc u.2 st pz T Wt u.1 SA KA R Ln Ky Ch X)) A) ([.ref (ad 0), .long run0, .int p0, .int c0, .int (nI nn)] : List Value).toArray s 0 0 A) (F0 m 3 ls []) := by
    intro k
    induction k with
    | zero =>
      intro i O1 H locs ls hk hi ht hP hD hS hl
      refine lv_iload hx hb dX3_drawPermutation_3 (lv_at hl 0 rfl) ?_
      refine lv_iload hx hb dX3_drawPermutation_5 (lv_at hl 5 rfl) ?_
      refine lv_icmp_ge (tgt := 25) hx hb dX3_drawPermutation_7 (by decide) (fun c7 => ?_) (fun c7 => ?_)
      · skip
        refine lv_iload hx hb dX3_drawPermutation_25 (lv_at hl 5 rfl) ?_
        refine lv_iconst (v := 1) hx hb dX3_drawPermutation_27 (by decide) ?_
        refine lv_isub hx hb dX3_drawPermutation_28 ?_
        refine lv_topi (fun z1 ez1 => ?_)
        refine lv_istore (lv' := [(6, .int z1), (0, .ref (ad 0)), (1, .long run0), (3, .int p0), (4, .int c0), (5, .int (nI nn))]) hx hb dX3_drawPermutation_29 hl (by decide) rfl (fun ls hl => ?_)
        have lp31 : ∀ (q : Nat) (j : Int32) (O2 : Nat → Int32) (tr2 : Int32) (H : Heap) (locs : List Loc) (ls : Array Slot), q ≤ nn - 1 → (q = 0 → j < 1) ∧ (0 < q → j = nI q) → fPerm (fBase sd run0 (Ky p0.toNatClampNeg)) c0 q O2 tr2 = fPermD (fBase sd run0 (Ky p0.toNatClampNeg)) c0 nn O tr → va_P D vwCl (wC ad ca sd tc sc tr2 st pz T Wt O2 SA KA R Ln Ky Ch X) H → va_D A (wC ad ca sd tc sc tr2 st pz T Wt O2 SA KA R Ln Ky Ch X) → va_S A s.heap H locs → lv_has ls 11 [(6, .int j), (0, .ref (ad 0)), (1, .long run0), (3, .int p0), (4, .int c0), (5, .int (nI nn))] → W p l e ({ frames := 3, cells := 0, slots := 0, locals := 85 } : Room) s m ([.ref (ad 0), .long run0, .int p0, .int c0, .int (nI nn)] : List Value).toArray below meth c H locs 0 0 (MQ below (va_Qi (fun r u => fPermD (fBase sd run0 (Ky p0.toNatClampNeg)) c0 nn O tr = (r, u)) (nkB D A (fun u : (Nat → Int32) × Int32 => wC ad ca sd tc sc u.2 st pz T Wt u.1 SA KA R Ln Ky Ch X)) A) ([.ref (ad 0), .long run0, .int p0, .int c0, .int (nI nn)] : List Value).toArray s 0 0 A) (F0 m 31 ls []) := by
          intro q
          induction q with
          | zero =>
            intro j O2 tr2 H locs ls hq hj hT hP hD hS hl
            refine lv_iload hx hb dX3_drawPermutation_31 (lv_at hl 0 rfl) ?_
            refine lv_iconst (v := 1) hx hb dX3_drawPermutation_33 (by decide) ?_
            refine lv_icmp_lt (tgt := 107) hx hb dX3_drawPermutation_34 (by decide) (fun c34 => ?_) (fun c34 => ?_)
            · skip
              refine lv_iconst (v := 1) hx hb dX3_drawPermutation_107 (by decide) ?_
              exact nk_retZ (g := _) (O2, tr2) hx hb hr hlocks (by first | rfl | decide) hP hD hS dX3_drawPermutation_108 (by rw [← hT]; rfl)
            · skip
              exact absurd (hj.1 rfl) c34
          | succ q ih31 =>
            intro j O2 tr2 H locs ls hq hj hT hP hD hS hl
            refine lv_iload hx hb dX3_drawPermutation_31 (lv_at hl 0 rfl) ?_
            refine lv_iconst (v := 1) hx hb dX3_drawPermutation_33 (by decide) ?_
            refine lv_icmp_lt (tgt := 107) hx hb dX3_drawPermutation_34 (by decide) (fun c34 => ?_) (fun c34 => ?_)
            · skip
              exact absurd c34 (by rw [hj.2 (Nat.succ_pos _)]; exact Int32.not_lt.mpr (nI_le (a := 1) (by omega) (by omega)))
            · skip
              refine lv_aload_n hx hb dX3_drawPermutation_37 rfl (lv_at hl 1 rfl) ?_
              refine lv_lload_n hx hb dX3_drawPermutation_38 rfl (lv_at hl 2 rfl) ?_
              refine lv_iload_n hx hb dX3_drawPermutation_39 rfl (lv_at hl 3 rfl) ?_
              refine lv_iload hx hb dX3_drawPermutation_40 (lv_at hl 4 rfl) ?_
              refine lv_iload hx hb dX3_drawPermutation_42 (lv_at hl 0 rfl) ?_
              refine lv_iadd hx hb dX3_drawPermutation_44 ?_
              refine lv_iload hx hb dX3_drawPermutation_45 (lv_at hl 0 rfl) ?_
              refine lv_iconst (v := 1) hx hb dX3_drawPermutation_47 (by decide) ?_
              refine lv_iadd hx hb dX3_drawPermutation_48 ?_
              refine lv_i2l hx hb dX3_drawPermutation_49 rfl ?_
              refine nk_VL (As := [.long run0, .int p0, .int (c0 + j), .long (Int32.toInt64 (j + (1 : Int32)))]) (rest := []) ⟨hx, hb, hml, hown, hts⟩ (mX3_drawSpan l D ad ca sd tc sc tr2 st pz T Wt O2 SA KA R Ln Ky Ch X run0 p0 (c0 + j) (Int32.toInt64 (j + (1 : Int32))) hp0 (ns_permN hn0 hq (hj.2 (Nat.succ_pos _)))) (cwV 4 hts gX3_drawPermutation_X3_drawSpan rfl rfl rfl (by decide +kernel) ⟨Nat.le_of_ble_eq_true rfl, Nat.le_of_ble_eq_true rfl⟩) hK hP hD hS hA 0 3 rfl rfl rfl rfl hl.1 rfl (Nat.le_of_ble_eq_true rfl) dX3_drawPermutation_50 ⟨Nat.le_of_ble_eq_true rfl, Nat.le_of_ble_eq_true rfl⟩ (fun r2 ur2 H locs hr2 hP hD hS => ?_)
              obtain ⟨rfl, rfl⟩ : r2 = (fSpan (fBase sd run0 (Ky (Int32.toNatClampNeg p0))) (fFirst (c0 + j)) (Int32.toInt64 (j + (1 : Int32))) tr2).1 ∧ ur2 = (fSpan (fBase sd run0 (Ky (Int32.toNatClampNeg p0))) (fFirst (c0 + j)) (Int32.toInt64 (j + (1 : Int32))) tr2).2 := by rw [hr2]; exact ⟨rfl, rfl⟩
              have hP : va_P D vwCl (wC ad ca sd tc sc ((fSpan (fBase sd run0 (Ky (Int32.toNatClampNeg p0))) (fFirst (c0 + j)) (Int32.toInt64 (j + (1 : Int32))) tr2).2) st pz T Wt O2 SA KA R Ln Ky Ch X) H := hP
              have hD : va_D A (wC ad ca sd tc sc ((fSpan (fBase sd run0 (Ky (Int32.toNatClampNeg p0))) (fFirst (c0 + j)) (Int32.toInt64 (j + (1 : Int32))) tr2).2) st pz T Wt O2 SA KA R Ln Ky Ch X) := hD
              refine lv_topl (fun z3 ez3 => ?_)
              refine lv_lstore (lv' := [(7, .long z3), (6, .int j), (0, .ref (ad 0)), (1, .long run0), (3, .int p0), (4, .int c0), (5, .int (nI nn))]) hx hb dX3_drawPermutation_53 hl (by decide) rfl (fun ls hl => ?_)
              refine lv_lload hx hb dX3_drawPermutation_55 (lv_at hl 0 rfl) ?_
              refine lv_lconst (v := 0) hx hb dX3_drawPermutation_57 (by decide) ?_
              refine W.lcmp hx hb dX3_drawPermutation_58 ?_
              refine lv_if_ge (tgt := 64) hx hb dX3_drawPermutation_59 (by decide) (fun c59 => ?_) (fun c59 => ?_)
              · skip
                have c59 : (0 : Int64) ≤ z3 := (lg_cmp_ge _ _).mp c59
                refine lv_lload hx hb dX3_drawPermutation_64 (lv_at hl 0 rfl) ?_
                refine lv_l2i hx hb dX3_drawPermutation_66 rfl ?_
                refine lv_topi (fun z4 ez4 => ?_)
                refine lv_istore (lv' := [(9, .int z4), (7, .long z3), (6, .int j), (0, .ref (ad 0)), (1, .long run0), (3, .int p0), (4, .int c0), (5, .int (nI nn))]) hx hb dX3_drawPermutation_67 hl (by decide) rfl (fun ls hl => ?_)
                have hO9 : vp_in z4 40 := ns_permIn hn0 hq (hj.2 (Nat.succ_pos _)) (by subst ez4; subst ez3; rfl) (by subst ez3; subst ez4; exact c59)
                refine lv_aload_n hx hb dX3_drawPermutation_69 rfl (lv_at hl 3 rfl) ?_
                refine va_get (D := D) (ci := 3) (v := .ref (ad 4)) (C := RX3) (T := TX3) (N := 11) hx hb hts iX3 hown hK.1 hP 0 rfl rfl 5 (by decide) (hts (.fieldLink RX3 27 "NamedStreams" "order" "[I") (by decide +kernel)) (fun _ h9 => h9) rfl dX3_drawPermutation_70 ?_
                refine lv_iload hx hb dX3_drawPermutation_73 (lv_at hl 2 rfl) ?_
                refine va_iald hx hb hK.1 hP 4 2 rfl rfl (by rw [hj.2 (Nat.succ_pos _)]; exact vp_in_nI (by omega) (by decide)) dX3_drawPermutation_75 ?_
                refine lv_topi (fun z5 ez5 => ?_)
                refine lv_istore (lv' := [(10, .int z5), (9, .int z4), (7, .long z3), (6, .int j), (0, .ref (ad 0)), (1, .long run0), (3, .int p0), (4, .int c0), (5, .int (nI nn))]) hx hb dX3_drawPermutation_76 hl (by decide) rfl (fun ls hl => ?_)
                refine lv_aload_n hx hb dX3_drawPermutation_78 rfl (lv_at hl 4 rfl) ?_
                refine va_get (D := D) (ci := 3) (v := .ref (ad 4)) (C := RX3) (T := TX3) (N := 11) hx hb hts iX3 hown hK.1 hP 0 rfl rfl 5 (by decide) (hts (.fieldLink RX3 27 "NamedStreams" "order" "[I") (by decide +kernel)) (fun _ h9 => h9) rfl dX3_drawPermutation_79 ?_
                refine lv_iload hx hb dX3_drawPermutation_82 (lv_at hl 3 rfl) ?_
                refine lv_aload_n hx hb dX3_drawPermutation_84 rfl (lv_at hl 4 rfl) ?_
                refine va_get (D := D) (ci := 3) (v := .ref (ad 4)) (C := RX3) (T := TX3) (N := 11) hx hb hts iX3 hown hK.1 hP 0 rfl rfl 5 (by decide) (hts (.fieldLink RX3 27 "NamedStreams" "order" "[I") (by decide +kernel)) (fun _ h9 => h9) rfl dX3_drawPermutation_85 ?_
                refine lv_iload hx hb dX3_drawPermutation_88 (lv_at hl 1 rfl) ?_
                refine va_iald hx hb hK.1 hP 4 2 rfl rfl hO9 dX3_drawPermutation_90 ?_
                refine lv_topi (fun z6 ez6 => ?_)
                refine va_iast hx hb hK.1 hP hD hS 4 2 rfl rfl (by rw [hj.2 (Nat.succ_pos _)]; exact vp_in_nI (by omega) (by decide)) dX3_drawPermutation_91 (fun H locs hP hD hS => ?_)
                have hP : va_P D vwCl (wC ad ca sd tc sc ((fSpan (fBase sd run0 (Ky (Int32.toNatClampNeg p0))) (fFirst (c0 + j)) (Int32.toInt64 (j + (1 : Int32))) tr2).2) st pz T Wt (upd O2 (Int32.toNatClampNeg j) z6) SA KA R Ln Ky Ch X) H := hP
                have hD : va_D A (wC ad ca sd tc sc ((fSpan (fBase sd run0 (Ky (Int32.toNatClampNeg p0))) (fFirst (c0 + j)) (Int32.toInt64 (j + (1 : Int32))) tr2).2) st pz T Wt (upd O2 (Int32.toNatClampNeg j) z6) SA KA R Ln Ky Ch X) := hD
                refine lv_aload_n hx hb dX3_drawPermutation_92 rfl (lv_at hl 4 rfl) ?_
                refine va_get (D := D) (ci := 3) (v := .ref (ad 4)) (C := RX3) (T := TX3) (N := 11) hx hb hts iX3 hown hK.1 hP 0 rfl rfl 5 (by decide) (hts (.fieldLink RX3 27 "NamedStreams" "order" "[I") (by decide +kernel)) (fun _ h9 => h9) rfl dX3_drawPermutation_93 ?_
                refine lv_iload hx hb dX3_drawPermutation_96 (lv_at hl 1 rfl) ?_
                refine lv_iload hx hb dX3_drawPermutation_98 (lv_at hl 0 rfl) ?_
                refine va_iast hx hb hK.1 hP hD hS 4 2 rfl rfl hO9 dX3_drawPermutation_100 (fun H locs hP hD hS => ?_)
                have hP : va_P D vwCl (wC ad ca sd tc sc ((fSpan (fBase sd run0 (Ky (Int32.toNatClampNeg p0))) (fFirst (c0 + j)) (Int32.toInt64 (j + (1 : Int32))) tr2).2) st pz T Wt (upd (upd O2 (Int32.toNatClampNeg j) z6) (Int32.toNatClampNeg z4) z5) SA KA R Ln Ky Ch X) H := hP
                have hD : va_D A (wC ad ca sd tc sc ((fSpan (fBase sd run0 (Ky (Int32.toNatClampNeg p0))) (fFirst (c0 + j)) (Int32.toInt64 (j + (1 : Int32))) tr2).2) st pz T Wt (upd (upd O2 (Int32.toNatClampNeg j) z6) (Int32.toNatClampNeg z4) z5) SA KA R Ln Ky Ch X) := hD
                obtain ⟨i7, ei7⟩ : ∃ y : Int32, y = j + (-1) := ⟨_, rfl⟩
                refine lv_iinc (v := i7) (lv' := [(6, .int i7), (10, .int z5), (9, .int z4), (7, .long z3), (0, .ref (ad 0)), (1, .long run0), (3, .int p0), (4, .int c0), (5, .int (nI nn))]) hx hb dX3_drawPermutation_101 hl (k := 3) rfl (by rw [ei7]; rfl) (by decide) rfl (fun ls hl => ?_)
                refine lv_goto (tgt := 31) hx hb dX3_drawPermutation_104 (by decide) ?_
                exact ih31 i7 (upd (upd O2 (Int32.toNatClampNeg j) z6) (Int32.toNatClampNeg z4) z5) ((fSpan (fBase sd run0 (Ky (Int32.toNatClampNeg p0))) (fFirst (c0 + j)) (Int32.toInt64 (j + (1 : Int32))) tr2).2) _ _ _ (Nat.le_of_succ_le hq) (ns_perm1 hj.2 ei7) (by have hi2 := hj.2 (Nat.succ_pos _); subst hi2; subst ez3; subst ez4; subst ez5; subst ez6; rw [← hT, fPerm, if_pos c59]; rfl) hP hD hS (lv_sub hl [0, 4, 5, 6, 7, 8] rfl)
              · skip
                have c59 : ¬ ((0 : Int64) ≤ z3) := fun h => c59 ((lg_cmp_ge _ _).mpr h)
                refine lv_iconst (v := 0) hx hb dX3_drawPermutation_62 (by decide) ?_
                exact nk_retZ (g := _) (O2, (fSpan (fBase sd run0 (Ky (Int32.toNatClampNeg p0))) (fFirst (c0 + j)) (Int32.toInt64 (j + (1 : Int32))) tr2).2) hx hb hr hlocks (by first | rfl | decide) hP hD hS dX3_drawPermutation_63 (by have hi2 := hj.2 (Nat.succ_pos _); subst hi2; subst ez3; rw [← hT, fPerm, if_neg c59])
        exact lp31 (nn - 1) z1 O1 tr _ _ _ (by omega) (by subst ez1; exact ns_perm0 nn) (by have ht2 : O1 = fFill nn nn O := ht; rw [ht2]; rfl) hP hD hS (lv_sub hl [0, 1, 2, 3, 4, 5] rfl)
      · skip
        exact absurd (by rw [hi]; exact nI_le (by omega) (by omega)) c7
    | succ k ih3 =>
      intro i O1 H locs ls hk hi ht hP hD hS hl
      refine lv_iload hx hb dX3_drawPermutation_3 (lv_at hl 0 rfl) ?_
      refine lv_iload hx hb dX3_drawPermutation_5 (lv_at hl 5 rfl) ?_
      refine lv_icmp_ge (tgt := 25) hx hb dX3_drawPermutation_7 (by decide) (fun c7 => ?_) (fun c7 => ?_)
      · skip
        exact absurd c7 (Int32.not_le.mpr (by rw [hi]; exact nI_lt (by omega) (by omega)))
      · skip
        refine lv_aload_n hx hb dX3_drawPermutation_10 rfl (lv_at hl 1 rfl) ?_
        refine va_get (D := D) (ci := 3) (v := .ref (ad 4)) (C := RX3) (T := TX3) (N := 11) hx hb hts iX3 hown hK.1 hP 0 rfl rfl 5 (by decide) (hts (.fieldLink RX3 27 "NamedStreams" "order" "[I") (by decide +kernel)) (fun _ h9 => h9) rfl dX3_drawPermutation_11 ?_
        refine lv_iload hx hb dX3_drawPermutation_14 (lv_at hl 0 rfl) ?_
        refine lv_iload hx hb dX3_drawPermutation_16 (lv_at hl 0 rfl) ?_
        refine va_iast hx hb hK.1 hP hD hS 4 2 rfl rfl (by rw [hi]; exact vp_in_nI (by omega) (by decide)) dX3_drawPermutation_18 (fun H locs hP hD hS => ?_)
        have hP : va_P D vwCl (wC ad ca sd tc sc tr st pz T Wt (upd O1 (Int32.toNatClampNeg i) i) SA KA R Ln Ky Ch X) H := hP
        have hD : va_D A (wC ad ca sd tc sc tr st pz T Wt (upd O1 (Int32.toNatClampNeg i) i) SA KA R Ln Ky Ch X) := hD
        obtain ⟨i8, ei8⟩ : ∃ y : Int32, y = i + 1 := ⟨_, rfl⟩
        refine lv_iinc (v := i8) (lv' := [(6, .int i8), (0, .ref (ad 0)), (1, .long run0), (3, .int p0), (4, .int c0), (5, .int (nI nn))]) hx hb dX3_drawPermutation_19 hl (k := 0) rfl (by rw [ei8]; rfl) (by decide) rfl (fun ls hl => ?_)
        refine lv_goto (tgt := 3) hx hb dX3_drawPermutation_22 (by decide) ?_
        exact ih3 i8 (upd O1 (Int32.toNatClampNeg i) i) _ _ _ (Nat.le_of_succ_le hk) (ns_step hi hk ei8) (by subst hi; exact ht) hP hD hS (lv_sub hl [0, 1, 2, 3, 4, 5] rfl)
  exact lp3 nn (0 : Int32) O _ _ _ (Nat.le_refl nn) (by rw [Nat.sub_self]; rfl) rfl hP hD hS (lv_sub hl [0, 1, 2, 3, 4, 5] rfl)

set_option maxHeartbeats 800000 in
set_option maxRecDepth 100000 in
theorem mX3_permuted (l : Launch) (D : va_G) (ad : Nat → Nat) (ca : Nat → ClassId) (sd : Int64) (tc : Int32) (sc : Int32) (tr : Int32) (st : Int32) (pz : Int32) (T : Nat → Int64) (Wt : Nat → Int64) (O : Nat → Int32) (SA : Nat → Option Nat) (KA : Nat → Option Nat) (R : Nat → Int64) (Ln : Nat → Int32) (Ky : Nat → Int64) (Ch : Nat → Int64) (X : va_W) (run0 : Int64) (p0 c0 n0 k0 : Int32) (hz : pz ≤ 24) : nkMI l yX3_permuted wsX3_permuted ({ frames := 4, cells := 0, slots := 0, locals := 115 }) D (tC ca) [.ref (ad 0), .long run0, .int p0, .int c0, .int n0, .int k0] (wC ad ca sd tc sc tr st pz T Wt O SA KA R Ln Ky Ch X) (fun u : (Nat → Int32) × Int32 => wC ad ca sd tc sc u.2 st pz T Wt u.1 SA KA R Ln Ky Ch X) (fun r u => fPermC sd pz Ky O run0 p0 c0 n0 k0 tr = (r, u)) 0 0 := by
  refine nk_ofM (Qf := fun A => va_Qi (fun r u => fPermC sd pz Ky O run0 p0 c0 n0 k0 tr = (r, u)) (nkB D A (fun u : (Nat → Int32) × Int32 => wC ad ca sd tc sc u.2 st pz T Wt u.1 SA KA R Ln Ky Ch X)) A) (cc := cX3_permuted) (maxL := 7) (ret := (some .int)) (by decide) rfl (Nat.le_of_ble_eq_true rfl) ?_
  intro p e s m below meth c A hx hb hr hml hts hown hlocks hin hK hP hD hA hS ls hl
  replace hown : s.vm.findClass RX3 = some m.cls := hown
  replace hl : lv_has ls 7 [(0, .ref (ad 0)), (1, .long run0), (3, .int p0), (4, .int c0), (5, .int n0), (6, .int k0)] := hl
  have hP : va_P D vwCl (wC ad ca sd tc sc tr st pz T Wt O SA KA R Ln Ky Ch X) s.heap := hP
  have iX1 : ∀ w ∈ u_ws RX1 TX1 5, w ∈ wsX3_permuted := by decide +kernel
  have iX3 : ∀ w ∈ u_ws RX3 TX3 11, w ∈ wsX3_permuted := by decide +kernel
  refine lv_aload_n hx hb dX3_permuted_0 rfl (lv_at hl 0 rfl) ?_
  refine va_get (D := D) (ci := 3) (v := .ref (ad 2)) (C := RX3) (T := TX3) (N := 11) hx hb hts iX3 hown hK.1 hP 0 rfl rfl 3 (by decide) (hts (.fieldLink RX3 20 "NamedStreams" "paths" "LNamedStreams$Paths;") (by decide +kernel)) (fun _ h9 => h9) rfl dX3_permuted_1 ?_
  refine lv_iload_n hx hb dX3_permuted_4 rfl (lv_at hl 2 rfl) ?_
  refine nk_VRI (As := [.int p0]) (rest := []) ⟨hx, hb, hml, hown, hts⟩ (mX1_has l D ad ca sd tc sc tr st pz T Wt O SA KA R Ln Ky Ch X p0) (cwV 1 hts gX3_permuted_X1_has rfl rfl rfl (by decide +kernel) ⟨Nat.le_of_ble_eq_true rfl, Nat.le_of_ble_eq_true rfl⟩) hK hP 2 1 rfl rfl rfl rfl hl.1 rfl (Nat.le_of_ble_eq_true rfl) dX3_permuted_5 ⟨Nat.le_of_ble_eq_true rfl, Nat.le_of_ble_eq_true rfl⟩ (fun r1 hr1 => ?_)
  subst hr1
  refine lv_if_eq (tgt := 40) hx hb dX3_permuted_8 (by decide) (fun c8 => ?_) (fun c8 => ?_)
  · skip
    refine lv_iconst (v := -1) hx hb dX3_permuted_40 (by decide) ?_
    exact nk_retI (g := _) (O, tr) hx hb hr hlocks hP hD hS dX3_permuted_41 (by exact (if_pos c8))
  · skip
    refine lv_iload hx hb dX3_permuted_11 (lv_at hl 3 rfl) ?_
    refine lv_if_lt (tgt := 40) hx hb dX3_permuted_13 (by decide) (fun c13 => ?_) (fun c13 => ?_)
    · skip
      refine lv_iconst (v := -1) hx hb dX3_permuted_40 (by decide) ?_
      exact nk_retI (g := _) (O, tr) hx hb hr hlocks hP hD hS dX3_permuted_41 (by exact ((if_neg c8).trans (if_pos c13)))
    · skip
      refine lv_iload hx hb dX3_permuted_16 (lv_at hl 4 rfl) ?_
      refine lv_if_lt (tgt := 40) hx hb dX3_permuted_18 (by decide) (fun c18 => ?_) (fun c18 => ?_)
      · skip
        refine lv_iconst (v := -1) hx hb dX3_permuted_40 (by decide) ?_
        exact nk_retI (g := _) (O, tr) hx hb hr hlocks hP hD hS dX3_permuted_41 (by exact ((if_neg c8).trans ((if_neg c13).trans (if_pos c18))))
      · skip
        refine lv_iload hx hb dX3_permuted_21 (lv_at hl 4 rfl) ?_
        refine lv_bipush (v := 40) hx hb dX3_permuted_23 (by decide) ?_
        refine lv_icmp_gt (tgt := 40) hx hb dX3_permuted_25 (by decide) (fun c25 => ?_) (fun c25 => ?_)
        · skip
          refine lv_iconst (v := -1) hx hb dX3_permuted_40 (by decide) ?_
          exact nk_retI (g := _) (O, tr) hx hb hr hlocks hP hD hS dX3_permuted_41 (by exact ((if_neg c8).trans ((if_neg c13).trans ((if_neg c18).trans (if_pos c25)))))
        · skip
          refine lv_iload hx hb dX3_permuted_28 (lv_at hl 5 rfl) ?_
          refine lv_if_lt (tgt := 40) hx hb dX3_permuted_30 (by decide) (fun c30 => ?_) (fun c30 => ?_)
          · skip
            refine lv_iconst (v := -1) hx hb dX3_permuted_40 (by decide) ?_
            exact nk_retI (g := _) (O, tr) hx hb hr hlocks hP hD hS dX3_permuted_41 (by exact ((if_neg c8).trans ((if_neg c13).trans ((if_neg c18).trans ((if_neg c25).trans (if_pos c30))))))
          · skip
            refine lv_iload hx hb dX3_permuted_33 (lv_at hl 5 rfl) ?_
            refine lv_iload hx hb dX3_permuted_35 (lv_at hl 4 rfl) ?_
            refine lv_icmp_lt (tgt := 42) hx hb dX3_permuted_37 (by decide) (fun c37 => ?_) (fun c37 => ?_)
            · skip
              refine lv_iload hx hb dX3_permuted_42 (lv_at hl 3 rfl) ?_
              refine lv_ldc (v := 2147483647) hx hb hown (hts (.constant RX3 91 (2147483647)) (by decide +kernel)) dX3_permuted_44 ?_
              refine lv_iload hx hb dX3_permuted_46 (lv_at hl 4 rfl) ?_
              refine lv_isub hx hb dX3_permuted_48 ?_
              refine lv_icmp_le (tgt := 54) hx hb dX3_permuted_49 (by decide) (fun c49 => ?_) (fun c49 => ?_)
              · skip
                refine lv_aload_n hx hb dX3_permuted_54 rfl (lv_at hl 0 rfl) ?_
                refine lv_lload_n hx hb dX3_permuted_55 rfl (lv_at hl 1 rfl) ?_
                refine lv_iload_n hx hb dX3_permuted_56 rfl (lv_at hl 2 rfl) ?_
                refine lv_iload hx hb dX3_permuted_57 (lv_at hl 3 rfl) ?_
                refine lv_iload hx hb dX3_permuted_59 (lv_at hl 4 rfl) ?_
                refine W.eq (g2 := F0 m 61 ls [.int (nI (Int32.toNatClampNeg n0)), .int c0, .int p0, .long run0, .ref (ad 0)]) (by rw [ns_back c18]) ?_
                refine nk_VI (As := [.long run0, .int p0, .int c0, .int (nI (Int32.toNatClampNeg n0))]) (rest := []) ⟨hx, hb, hml, hown, hts⟩ (mX3_drawPermutation l D ad ca sd tc sc tr st pz T Wt O SA KA R Ln Ky Ch X run0 p0 c0 (Int32.toNatClampNeg n0) (ns_hasIn c8 hz) (ns_le40 c18 c25)) (cwV 4 hts gX3_permuted_X3_drawPermutation rfl rfl rfl (by decide +kernel) ⟨Nat.le_of_ble_eq_true rfl, Nat.le_of_ble_eq_true rfl⟩) hK hP hD hS hA 0 3 rfl rfl rfl rfl hl.1 rfl (Nat.le_of_ble_eq_true rfl) dX3_permuted_61 ⟨Nat.le_of_ble_eq_true rfl, Nat.le_of_ble_eq_true rfl⟩ (fun r2 ur2 H locs hr2 hP hD hS => ?_)
                obtain ⟨rfl, rfl⟩ : r2 = (fPermD (fBase sd run0 (Ky (Int32.toNatClampNeg p0))) c0 (Int32.toNatClampNeg n0) O tr).1 ∧ ur2 = (fPermD (fBase sd run0 (Ky (Int32.toNatClampNeg p0))) c0 (Int32.toNatClampNeg n0) O tr).2 := by rw [hr2]; exact ⟨rfl, rfl⟩
                have hP : va_P D vwCl (wC ad ca sd tc sc ((fPermD (fBase sd run0 (Ky (Int32.toNatClampNeg p0))) c0 (Int32.toNatClampNeg n0) O tr).2.2) st pz T Wt ((fPermD (fBase sd run0 (Ky (Int32.toNatClampNeg p0))) c0 (Int32.toNatClampNeg n0) O tr).2.1) SA KA R Ln Ky Ch X) H := hP
                have hD : va_D A (wC ad ca sd tc sc ((fPermD (fBase sd run0 (Ky (Int32.toNatClampNeg p0))) c0 (Int32.toNatClampNeg n0) O tr).2.2) st pz T Wt ((fPermD (fBase sd run0 (Ky (Int32.toNatClampNeg p0))) c0 (Int32.toNatClampNeg n0) O tr).2.1) SA KA R Ln Ky Ch X) := hD
                refine lv_if_eq (tgt := 77) hx hb dX3_permuted_64 (by decide) (fun c64 => ?_) (fun c64 => ?_)
                · skip
                  refine lv_bipush (v := -3) hx hb dX3_permuted_77 (by decide) ?_
                  exact nk_retI (g := _) ((fPermD (fBase sd run0 (Ky (Int32.toNatClampNeg p0))) c0 (Int32.toNatClampNeg n0) O tr).2.1, (fPermD (fBase sd run0 (Ky (Int32.toNatClampNeg p0))) c0 (Int32.toNatClampNeg n0) O tr).2.2) hx hb hr hlocks hP hD hS dX3_permuted_79 (by exact ((if_neg c8).trans ((if_neg c13).trans ((if_neg c18).trans ((if_neg c25).trans ((if_neg c30).trans ((if_pos c37).trans ((if_pos c49).trans (if_pos c64)))))))))
                · skip
                  refine lv_aload_n hx hb dX3_permuted_67 rfl (lv_at hl 0 rfl) ?_
                  refine va_get (D := D) (ci := 3) (v := .ref (ad 4)) (C := RX3) (T := TX3) (N := 11) hx hb hts iX3 hown hK.1 hP 0 rfl rfl 5 (by decide) (hts (.fieldLink RX3 27 "NamedStreams" "order" "[I") (by decide +kernel)) (fun _ h9 => h9) rfl dX3_permuted_68 ?_
                  refine lv_iload hx hb dX3_permuted_71 (lv_at hl 5 rfl) ?_
                  refine va_iald hx hb hK.1 hP 4 2 rfl rfl (ns_in (ns_nn c30) (Int32.lt_of_lt_of_le c37 (Int32.not_lt.mp c25)) (by decide)) dX3_permuted_73 ?_
                  refine lv_goto (tgt := 79) hx hb dX3_permuted_74 (by decide) ?_
                  exact nk_retI (g := _) ((fPermD (fBase sd run0 (Ky (Int32.toNatClampNeg p0))) c0 (Int32.toNatClampNeg n0) O tr).2.1, (fPermD (fBase sd run0 (Ky (Int32.toNatClampNeg p0))) c0 (Int32.toNatClampNeg n0) O tr).2.2) hx hb hr hlocks hP hD hS dX3_permuted_79 (by exact ((if_neg c8).trans ((if_neg c13).trans ((if_neg c18).trans ((if_neg c25).trans ((if_neg c30).trans ((if_pos c37).trans ((if_pos c49).trans (if_neg c64)))))))))
              · skip
                refine lv_iconst (v := -1) hx hb dX3_permuted_52 (by decide) ?_
                exact nk_retI (g := _) (O, tr) hx hb hr hlocks hP hD hS dX3_permuted_53 (by exact ((if_neg c8).trans ((if_neg c13).trans ((if_neg c18).trans ((if_neg c25).trans ((if_neg c30).trans ((if_pos c37).trans (if_neg c49))))))))
            · skip
              refine lv_iconst (v := -1) hx hb dX3_permuted_40 (by decide) ?_
              exact nk_retI (g := _) (O, tr) hx hb hr hlocks hP hD hS dX3_permuted_41 (by exact ((if_neg c8).trans ((if_neg c13).trans ((if_neg c18).trans ((if_neg c25).trans ((if_neg c30).trans (if_neg c37)))))))
