theorem nk_push {X : va_W} {L : List Nat} {f : Nat → va_E} {q : Nat} {e : va_E} (h : q ∉ L) : (X ++ va_pl L f) ++ [(q, e)] = X ++ va_pl (L ++ [q]) (va_up f q e) := by rw [List.append_assoc, va_pl_push h]
set_option maxHeartbeats 800000 in
set_option maxRecDepth 100000 in
theorem mX3_addStream (l : Launch) (D : va_G) (ad : Nat → Nat) (ca : Nat → ClassId) (sd : Int64) (tc : Int32) (sc : Int32) (tr : Int32) (st : Int32) (pz : Int32) (T : Nat → Int64) (Wt : Nat → Int64) (O : Nat → Int32) (SA : Nat → Option Nat) (KA : Nat → Option Nat) (R : Nat → Int64) (Ln : Nat → Int32) (Ky : Nat → Int64) (Ch : Nat → Int64) (X : va_W) (L : List Nat) (f : Nat → va_E) (r0 : Int64) (p0 : Int32) (h0 : 0 ≤ sc) (h8 : sc < 8) : nkMI l yX3_addStream wsX3_addStream ({ frames := 2, cells := 1, slots := 4, locals := 35 }) D (tC ca) [.ref (ad 0), .long r0, .int p0] (wC ad ca sd tc sc tr st pz T Wt O SA KA R Ln Ky Ch (X ++ va_pl L f)) (fun u : Nat × Int32 => wC ad ca sd tc u.2 tr st pz T Wt O (va_up SA (Int32.toNatClampNeg sc) (some u.1)) KA R Ln Ky Ch (X ++ va_pl (L ++ [u.1]) (va_up f u.1 (eSt r0 p0 0 0)))) (fun r u => sc = r ∧ u.1 ∉ L ∧ sc + 1 = u.2) 1 4 := by
  refine nk_ofM (Qf := fun A => va_Qi (fun r u => sc = r ∧ u.1 ∉ L ∧ sc + 1 = u.2) (nkB D A (fun u : Nat × Int32 => wC ad ca sd tc u.2 tr st pz T Wt O (va_up SA (Int32.toNatClampNeg sc) (some u.1)) KA R Ln Ky Ch (X ++ va_pl (L ++ [u.1]) (va_up f u.1 (eSt r0 p0 0 0))))) A) (cc := cX3_addStream) (maxL := 5) (ret := (some .int)) (by decide) rfl (Nat.le_of_ble_eq_true rfl) ?_
  intro p e s m below meth c A hx hb hr hml hts hown hlocks hin hK hP hD hA hS ls hl
  replace hown : s.vm.findClass RX3 = some m.cls := hown
  replace hl : lv_has ls 5 [(0, .ref (ad 0)), (1, .long r0), (3, .int p0)] := hl
  have hP : va_P D vwCl (wC ad ca sd tc sc tr st pz T Wt O SA KA R Ln Ky Ch (X ++ va_pl L f)) s.heap := hP
  have iX3 : ∀ w ∈ u_ws RX3 TX3 11, w ∈ wsX3_addStream := by decide +kernel
  have iX2 : ∀ w ∈ u_ws RX2 TX2 4, w ∈ wsX3_addStream := by decide +kernel
  refine lv_aload_n hx hb dX3_addStream_0 rfl (lv_at hl 0 rfl) ?_
  refine va_get (D := D) (ci := 3) (v := .int sc) (C := RX3) (T := TX3) (N := 11) hx hb hts iX3 hown hK.1 hP 0 rfl rfl 7 (by decide) (hts (.fieldLink RX3 37 "NamedStreams" "streamCount" "I") (by decide +kernel)) (fun _ h9 => h9) rfl dX3_addStream_1 ?_
  refine lv_istore (lv' := [(4, .int sc), (0, .ref (ad 0)), (1, .long r0), (3, .int p0)]) hx hb dX3_addStream_4 hl (by decide) rfl (fun ls hl => ?_)
  refine lv_aload_n hx hb dX3_addStream_6 rfl (lv_at hl 1 rfl) ?_
  refine va_get (D := D) (ci := 3) (v := .ref (ad 5)) (C := RX3) (T := TX3) (N := 11) hx hb hts iX3 hown hK.1 hP 0 rfl rfl 6 (by decide) (hts (.fieldLink RX3 33 "NamedStreams" "streams" "[LNamedStreams$Stream;") (by decide +kernel)) (fun _ h9 => h9) rfl dX3_addStream_7 ?_
  refine lv_iload hx hb dX3_addStream_10 (lv_at hl 0 rfl) ?_
  have hPn := hP
  refine va_new (ci := 2) (fs := [.long 0, .int 0, .int 0, .int 0]) (C := RX2) (T := TX2) (N := 4) hx hb hts iX2 tyX2 tyX2_ok hown (hts (.classLink RX3 31 RX2) (by decide +kernel)) (hts (.instantiable RX2 4) (by decide +kernel)) (hts (.initialized RX2) (by decide +kernel)) hK.1 hP hD hS hA rfl (fun j hj => by rcases (show j = 0 ∨ j = 1 ∨ j = 2 ∨ j = 3 by omega) with rfl | rfl | rfl | rfl <;> rfl) (Nat.le_of_ble_eq_true rfl) (Nat.le_of_ble_eq_true rfl) dX3_addStream_12 (fun q12 H hP hD hS => ?_)
  have hP : va_P D vwCl (((wC ad ca sd tc sc tr st pz T Wt O SA KA R Ln Ky Ch X) ++ va_pl L f) ++ [(q12, .inr (2, [.long 0, .int 0, .int 0, .int 0]))]) H := hP
  have hD : va_D A (((wC ad ca sd tc sc tr st pz T Wt O SA KA R Ln Ky Ch X) ++ va_pl L f) ++ [(q12, .inr (2, [.long 0, .int 0, .int 0, .int 0]))]) := hD
  have hq12 := va_pl_fresh2 hD
  rw [nk_push hq12] at hP hD
  have hP : va_P D vwCl (wC ad ca sd tc sc tr st pz T Wt O SA KA R Ln Ky Ch (X ++ va_pl (L ++ [q12]) (va_up f q12 (.inr (2, [.long 0, .int 0, .int 0, .int 0]))))) H := hP
  have hD : va_D A (wC ad ca sd tc sc tr st pz T Wt O SA KA R Ln Ky Ch (X ++ va_pl (L ++ [q12]) (va_up f q12 (.inr (2, [.long 0, .int 0, .int 0, .int 0]))))) := hD
  refine lv_dup hx hb dX3_addStream_15 rfl ?_
  refine lv_lload_n hx hb dX3_addStream_16 rfl (lv_at hl 2 rfl) ?_
  refine lv_iload_n hx hb dX3_addStream_17 rfl (lv_at hl 3 rfl) ?_
  refine nk_IV (As := [.long r0, .int p0]) (rest := [.ref q12, .int sc, .ref (ad 5)]) ⟨hx, hb, hml, hown, hts⟩ (mX2_init l D (tC ca) (wC ad ca sd tc sc tr st pz T Wt O SA KA R Ln Ky Ch X) (L ++ [q12]) (va_up f q12 (.inr (2, [.long 0, .int 0, .int 0, .int 0]))) q12 (l_in_new L q12) (va_up_self f q12 (.inr (2, [.long 0, .int 0, .int 0, .int 0]))) r0 p0) (cwI 2 hts gX3_addStream_X2_init rfl rfl rfl (hts (.initialized RX2) (by decide +kernel)) (hts (.methodLink RX3 168 yX2_init) (by decide +kernel)) (hts (.instanceMethod yX2_init) (by decide +kernel)) rfl (by decide +kernel) ⟨Nat.le_of_ble_eq_true rfl, Nat.le_of_ble_eq_true rfl⟩) hK hP hD hS hA rfl hl.1 rfl (Nat.le_of_ble_eq_true rfl) dX3_addStream_18 ⟨Nat.le_of_ble_eq_true rfl, Nat.le_of_ble_eq_true rfl⟩ (fun ur1 H locs hr1 hP hD hS => ?_)
  subst hr1
  have hP : va_P D vwCl ((wC ad ca sd tc sc tr st pz T Wt O SA KA R Ln Ky Ch X) ++ va_pl (L ++ [q12]) (va_up (va_up f q12 (.inr (2, [.long 0, .int 0, .int 0, .int 0]))) q12 (.inr (2, [.long r0, .int p0, .int (0 : Int32), .int (0 : Int32)])))) H := hP
  have hD : va_D A ((wC ad ca sd tc sc tr st pz T Wt O SA KA R Ln Ky Ch X) ++ va_pl (L ++ [q12]) (va_up (va_up f q12 (.inr (2, [.long 0, .int 0, .int 0, .int 0]))) q12 (.inr (2, [.long r0, .int p0, .int (0 : Int32), .int (0 : Int32)])))) := hD
  rw [bx_uu] at hP hD
  have hP : va_P D vwCl (wC ad ca sd tc sc tr st pz T Wt O SA KA R Ln Ky Ch (X ++ va_pl (L ++ [q12]) (va_up f q12 (.inr (2, [.long r0, .int p0, .int (0 : Int32), .int (0 : Int32)]))))) H := hP
  have hD : va_D A (wC ad ca sd tc sc tr st pz T Wt O SA KA R Ln Ky Ch (X ++ va_pl (L ++ [q12]) (va_up f q12 (.inr (2, [.long r0, .int p0, .int (0 : Int32), .int (0 : Int32)]))))) := hD
  obtain ⟨k2, hk2⟩ := va_pl_get (X := (wC ad ca sd tc sc tr st pz T Wt O SA KA R Ln Ky Ch X)) (L := (L ++ [q12])) (f := (va_up f q12 (.inr (2, [.long r0, .int p0, .int (0 : Int32), .int (0 : Int32)])))) (l_in_new L q12)
  have hk22 := hk2
  rw [(va_up_self f q12 (.inr (2, [.long r0, .int p0, .int (0 : Int32), .int (0 : Int32)])))] at hk22
  have hPp : va_P D vwCl ((wC ad ca sd tc sc tr st pz T Wt O SA KA R Ln Ky Ch X) ++ va_pl (L ++ [q12]) (va_up f q12 (.inr (2, [.long r0, .int p0, .int (0 : Int32), .int (0 : Int32)])))) _ := hP
  have hDp : va_D A ((wC ad ca sd tc sc tr st pz T Wt O SA KA R Ln Ky Ch X) ++ va_pl (L ++ [q12]) (va_up f q12 (.inr (2, [.long r0, .int p0, .int (0 : Int32), .int (0 : Int32)])))) := hD
  refine va_astq (r := (RX2, TX2, 4)) hx hb hK.1 hPp hDp hS 5 3 k2 2 rfl rfl hk22 rfl (ns_in h0 h8 (by decide)) dX3_addStream_21 (fun H locs hP hD hS => ?_)
  have hP : va_P D vwCl (wC ad ca sd tc sc tr st pz T Wt O (va_up SA (Int32.toNatClampNeg sc) (some q12)) KA R Ln Ky Ch (X ++ va_pl (L ++ [q12]) (va_up f q12 (.inr (2, [.long r0, .int p0, .int (0 : Int32), .int (0 : Int32)]))))) H := hP
  have hD : va_D A (wC ad ca sd tc sc tr st pz T Wt O (va_up SA (Int32.toNatClampNeg sc) (some q12)) KA R Ln Ky Ch (X ++ va_pl (L ++ [q12]) (va_up f q12 (.inr (2, [.long r0, .int p0, .int (0 : Int32), .int (0 : Int32)]))))) := hD
  refine lv_aload_n hx hb dX3_addStream_22 rfl (lv_at hl 1 rfl) ?_
  refine lv_dup hx hb dX3_addStream_23 rfl ?_
  refine va_get (D := D) (ci := 3) (v := .int sc) (C := RX3) (T := TX3) (N := 11) hx hb hts iX3 hown hK.1 hP 0 rfl rfl 7 (by decide) (hts (.fieldLink RX3 37 "NamedStreams" "streamCount" "I") (by decide +kernel)) (fun _ h9 => h9) rfl dX3_addStream_24 ?_
  refine lv_iconst (v := 1) hx hb dX3_addStream_27 (by decide) ?_
  refine lv_iadd hx hb dX3_addStream_28 ?_
  refine lv_topi (fun z3 ez3 => ?_)
  refine va_put (D := D) (ci := 3) (v := .int z3) (ty := .int) (C := RX3) (T := TX3) (N := 11) hx hb hts iX3 tyX3 tyX3_ok nmX3 hown hK.1 hP hD hS 0 rfl rfl 7 (by decide) (hts (.fieldLink RX3 37 "NamedStreams" "streamCount" "I") (by decide +kernel)) (fun _ h9 => h9) rfl (by decide +kernel) rfl rfl (Nat.le_of_ble_eq_true rfl) dX3_addStream_29 (fun H locs hP hD hS => ?_)
  have hP : va_P D vwCl (wC ad ca sd tc z3 tr st pz T Wt O (va_up SA (Int32.toNatClampNeg sc) (some q12)) KA R Ln Ky Ch (X ++ va_pl (L ++ [q12]) (va_up f q12 (.inr (2, [.long r0, .int p0, .int (0 : Int32), .int (0 : Int32)]))))) H := hP
  have hD : va_D A (wC ad ca sd tc z3 tr st pz T Wt O (va_up SA (Int32.toNatClampNeg sc) (some q12)) KA R Ln Ky Ch (X ++ va_pl (L ++ [q12]) (va_up f q12 (.inr (2, [.long r0, .int p0, .int (0 : Int32), .int (0 : Int32)]))))) := hD
  refine lv_iload hx hb dX3_addStream_32 (lv_at hl 0 rfl) ?_
  exact nk_retI (g := _) (q12, z3) hx hb hr hlocks hP hD hS dX3_addStream_34 ⟨rfl, hq12, ez3.symm⟩

set_option maxHeartbeats 800000 in
set_option maxRecDepth 100000 in
theorem mX3_open_B (l : Launch) (D : va_G) (ad : Nat → Nat) (ca : Nat → ClassId) (sd : Int64) (tc : Int32) (sc : Int32) (tr : Int32) (st : Int32) (pz : Int32) (T : Nat → Int64) (Wt : Nat → Int64) (O : Nat → Int32) (SA : Nat → Option Nat) (KA : Nat → Option Nat) (R : Nat → Int64) (Ln : Nat → Int32) (Ky : Nat → Int64) (Ch : Nat → Int64) (X : va_W) (L : List Nat) (f : Nat → va_E) (r0 : Int64) (p0 : Int32) (hB : fHas pz p0 = 0 ∨ ¬ sc < 8) : nkMI l yX3_open wsX3_open ({ frames := 3, cells := 0, slots := 0, locals := 59 }) D (tC ca) [.ref (ad 0), .long r0, .int p0] (wC ad ca sd tc sc tr st pz T Wt O SA KA R Ln Ky Ch (X ++ va_pl L f)) (fun _ : Unit => wC ad ca sd tc sc tr st pz T Wt O SA KA R Ln Ky Ch (X ++ va_pl L f)) (fun r _ => r = if fHas pz p0 = 0 then -1 else -2) 0 0 := by
  refine nk_ofM (Qf := fun A => va_Qi (fun r _ => r = if fHas pz p0 = 0 then -1 else -2) (nkB D A (fun _ : Unit => wC ad ca sd tc sc tr st pz T Wt O SA KA R Ln Ky Ch (X ++ va_pl L f))) A) (cc := cX3_open) (maxL := 4) (ret := (some .int)) (by decide) rfl (Nat.le_of_ble_eq_true rfl) ?_
  intro p e s m below meth c A hx hb hr hml hts hown hlocks hin hK hP hD hA hS ls hl
  replace hown : s.vm.findClass RX3 = some m.cls := hown
  replace hl : lv_has ls 4 [(0, .ref (ad 0)), (1, .long r0), (3, .int p0)] := hl
  have hP : va_P D vwCl (wC ad ca sd tc sc tr st pz T Wt O SA KA R Ln Ky Ch (X ++ va_pl L f)) s.heap := hP
  have iX1 : ∀ w ∈ u_ws RX1 TX1 5, w ∈ wsX3_open := by decide +kernel
  have iX3 : ∀ w ∈ u_ws RX3 TX3 11, w ∈ wsX3_open := by decide +kernel
  have iX2 : ∀ w ∈ u_ws RX2 TX2 4, w ∈ wsX3_open := by decide +kernel
  refine lv_aload_n hx hb dX3_open_0 rfl (lv_at hl 0 rfl) ?_
  refine va_get (D := D) (ci := 3) (v := .ref (ad 2)) (C := RX3) (T := TX3) (N := 11) hx hb hts iX3 hown hK.1 hP 0 rfl rfl 3 (by decide) (hts (.fieldLink RX3 20 "NamedStreams" "paths" "LNamedStreams$Paths;") (by decide +kernel)) (fun _ h9 => h9) rfl dX3_open_1 ?_
  refine lv_iload_n hx hb dX3_open_4 rfl (lv_at hl 2 rfl) ?_
  refine nk_VRI (As := [.int p0]) (rest := []) ⟨hx, hb, hml, hown, hts⟩ (mX1_has l D ad ca sd tc sc tr st pz T Wt O SA KA R Ln Ky Ch (X ++ va_pl L f) p0) (cwV 1 hts gX3_open_X1_has rfl rfl rfl (by decide +kernel) ⟨Nat.le_of_ble_eq_true rfl, Nat.le_of_ble_eq_true rfl⟩) hK hP 2 1 rfl rfl rfl rfl hl.1 rfl (Nat.le_of_ble_eq_true rfl) dX3_open_5 ⟨Nat.le_of_ble_eq_true rfl, Nat.le_of_ble_eq_true rfl⟩ (fun r1 hr1 => ?_)
  subst hr1
  refine lv_if_ne (tgt := 13) hx hb dX3_open_8 (by decide) (fun c8 => ?_) (fun c8 => ?_)
  · skip
    refine lv_aload_n hx hb dX3_open_13 rfl (lv_at hl 0 rfl) ?_
    refine va_get (D := D) (ci := 3) (v := .int sc) (C := RX3) (T := TX3) (N := 11) hx hb hts iX3 hown hK.1 hP 0 rfl rfl 7 (by decide) (hts (.fieldLink RX3 37 "NamedStreams" "streamCount" "I") (by decide +kernel)) (fun _ h9 => h9) rfl dX3_open_14 ?_
    refine lv_bipush (v := 8) hx hb dX3_open_17 (by decide) ?_
    refine lv_icmp_lt (tgt := 25) hx hb dX3_open_19 (by decide) (fun c19 => ?_) (fun c19 => ?_)
    · skip
      exact absurd c19 (hB.elim (fun h => absurd h c8) id)
    · skip
      refine lv_bipush (v := -2) hx hb dX3_open_22 (by decide) ?_
      exact nk_retI (g := _) () hx hb hr hlocks hP hD hS dX3_open_24 (by exact (if_neg c8).symm)
  · skip
    refine lv_iconst (v := -1) hx hb dX3_open_11 (by decide) ?_
    exact nk_retI (g := _) () hx hb hr hlocks hP hD hS dX3_open_12 (by exact (if_pos c8).symm)

set_option maxHeartbeats 800000 in
set_option maxRecDepth 100000 in
theorem mX3_open_A (l : Launch) (D : va_G) (ad : Nat → Nat) (ca : Nat → ClassId) (sd : Int64) (tc : Int32) (sc : Int32) (tr : Int32) (st : Int32) (pz : Int32) (T : Nat → Int64) (Wt : Nat → Int64) (O : Nat → Int32) (SA : Nat → Option Nat) (KA : Nat → Option Nat) (R : Nat → Int64) (Ln : Nat → Int32) (Ky : Nat → Int64) (Ch : Nat → Int64) (X : va_W) (L : List Nat) (f : Nat → va_E) (r0 : Int64) (p0 : Int32) (hB : ¬ fHas pz p0 = 0) (h0 : 0 ≤ sc) (h8 : sc < 8) : nkMI l yX3_open wsX3_open ({ frames := 3, cells := 1, slots := 4, locals := 59 }) D (tC ca) [.ref (ad 0), .long r0, .int p0] (wC ad ca sd tc sc tr st pz T Wt O SA KA R Ln Ky Ch (X ++ va_pl L f)) (fun u : Nat × Int32 => wC ad ca sd tc u.2 tr st pz T Wt O (va_up SA (Int32.toNatClampNeg sc) (some u.1)) KA R Ln Ky Ch (X ++ va_pl (L ++ [u.1]) (va_up f u.1 (eSt r0 p0 0 0)))) (fun r u => sc = r ∧ u.1 ∉ L ∧ sc + 1 = u.2) 1 4 := by
  refine nk_ofM (Qf := fun A => va_Qi (fun r u => sc = r ∧ u.1 ∉ L ∧ sc + 1 = u.2) (nkB D A (fun u : Nat × Int32 => wC ad ca sd tc u.2 tr st pz T Wt O (va_up SA (Int32.toNatClampNeg sc) (some u.1)) KA R Ln Ky Ch (X ++ va_pl (L ++ [u.1]) (va_up f u.1 (eSt r0 p0 0 0))))) A) (cc := cX3_open) (maxL := 4) (ret := (some .int)) (by decide) rfl (Nat.le_of_ble_eq_true rfl) ?_
  intro p e s m below meth c A hx hb hr hml hts hown hlocks hin hK hP hD hA hS ls hl
  replace hown : s.vm.findClass RX3 = some m.cls := hown
  replace hl : lv_has ls 4 [(0, .ref (ad 0)), (1, .long r0), (3, .int p0)] := hl
  have hP : va_P D vwCl (wC ad ca sd tc sc tr st pz T Wt O SA KA R Ln Ky Ch (X ++ va_pl L f)) s.heap := hP
  have iX1 : ∀ w ∈ u_ws RX1 TX1 5, w ∈ wsX3_open := by decide +kernel
  have iX3 : ∀ w ∈ u_ws RX3 TX3 11, w ∈ wsX3_open := by decide +kernel
  have iX2 : ∀ w ∈ u_ws RX2 TX2 4, w ∈ wsX3_open := by decide +kernel
  refine lv_aload_n hx hb dX3_open_0 rfl (lv_at hl 0 rfl) ?_
  refine va_get (D := D) (ci := 3) (v := .ref (ad 2)) (C := RX3) (T := TX3) (N := 11) hx hb hts iX3 hown hK.1 hP 0 rfl rfl 3 (by decide) (hts (.fieldLink RX3 20 "NamedStreams" "paths" "LNamedStreams$Paths;") (by decide +kernel)) (fun _ h9 => h9) rfl dX3_open_1 ?_
  refine lv_iload_n hx hb dX3_open_4 rfl (lv_at hl 2 rfl) ?_
  refine nk_VRI (As := [.int p0]) (rest := []) ⟨hx, hb, hml, hown, hts⟩ (mX1_has l D ad ca sd tc sc tr st pz T Wt O SA KA R Ln Ky Ch (X ++ va_pl L f) p0) (cwV 1 hts gX3_open_X1_has rfl rfl rfl (by decide +kernel) ⟨Nat.le_of_ble_eq_true rfl, Nat.le_of_ble_eq_true rfl⟩) hK hP 2 1 rfl rfl rfl rfl hl.1 rfl (Nat.le_of_ble_eq_true rfl) dX3_open_5 ⟨Nat.le_of_ble_eq_true rfl, Nat.le_of_ble_eq_true rfl⟩ (fun r1 hr1 => ?_)
  subst hr1
  refine lv_if_ne (tgt := 13) hx hb dX3_open_8 (by decide) (fun c8 => ?_) (fun c8 => ?_)
  · skip
    refine lv_aload_n hx hb dX3_open_13 rfl (lv_at hl 0 rfl) ?_
    refine va_get (D := D) (ci := 3) (v := .int sc) (C := RX3) (T := TX3) (N := 11) hx hb hts iX3 hown hK.1 hP 0 rfl rfl 7 (by decide) (hts (.fieldLink RX3 37 "NamedStreams" "streamCount" "I") (by decide +kernel)) (fun _ h9 => h9) rfl dX3_open_14 ?_
    refine lv_bipush (v := 8) hx hb dX3_open_17 (by decide) ?_
    refine lv_icmp_lt (tgt := 25) hx hb dX3_open_19 (by decide) (fun c19 => ?_) (fun c19 => ?_)
    · skip
      refine lv_aload_n hx hb dX3_open_25 rfl (lv_at hl 0 rfl) ?_
      refine lv_lload_n hx hb dX3_open_26 rfl (lv_at hl 1 rfl) ?_
      refine lv_iload_n hx hb dX3_open_27 rfl (lv_at hl 2 rfl) ?_
      refine nk_VI (As := [.long r0, .int p0]) (rest := []) ⟨hx, hb, hml, hown, hts⟩ (mX3_addStream l D ad ca sd tc sc tr st pz T Wt O SA KA R Ln Ky Ch X L f r0 p0 h0 h8) (cwV 2 hts gX3_open_X3_addStream rfl rfl rfl (by decide +kernel) ⟨Nat.le_of_ble_eq_true rfl, Nat.le_of_ble_eq_true rfl⟩) hK hP hD hS hA 0 3 rfl rfl rfl rfl hl.1 rfl (Nat.le_of_ble_eq_true rfl) dX3_open_28 ⟨Nat.le_of_ble_eq_true rfl, Nat.le_of_ble_eq_true rfl⟩ (fun r2 ur2 H locs hr2 hP hD hS => ?_)
      obtain ⟨q9, s9⟩ := ur2
      obtain ⟨rfl, hq9, hs9⟩ := hr2
      have hq9 : q9 ∉ L := hq9
      have hs9 : sc + 1 = s9 := hs9
      have hP : va_P D vwCl (wC ad ca sd tc s9 tr st pz T Wt O (va_up SA (Int32.toNatClampNeg sc) (some q9)) KA R Ln Ky Ch (X ++ va_pl (L ++ [q9]) (va_up f q9 (eSt r0 p0 0 0)))) H := hP
      have hD : va_D A (wC ad ca sd tc s9 tr st pz T Wt O (va_up SA (Int32.toNatClampNeg sc) (some q9)) KA R Ln Ky Ch (X ++ va_pl (L ++ [q9]) (va_up f q9 (eSt r0 p0 0 0)))) := hD
      exact nk_retI (g := _) (q9, s9) hx hb hr hlocks hP hD hS dX3_open_31 ⟨rfl, hq9, hs9⟩
    · skip
      exact absurd h8 c19
  · skip
    exact absurd c8 hB

set_option maxHeartbeats 800000 in
set_option maxRecDepth 100000 in
theorem mX3_split_F (l : Launch) (D : va_G) (ad : Nat → Nat) (ca : Nat → ClassId) (sd : Int64) (tc : Int32) (sc : Int32) (tr : Int32) (st : Int32) (pz : Int32) (T : Nat → Int64) (Wt : Nat → Int64) (O : Nat → Int32) (SA : Nat → Option Nat) (KA : Nat → Option Nat) (R : Nat → Int64) (Ln : Nat → Int32) (Ky : Nat → Int64) (Ch : Nat → Int64) (X : va_W) (L : List Nat) (f : Nat → va_E) (i0 : Int32) (a : Nat) (rn : Int64) (po pl sp : Int32) (hAt : fAt sc SA i0 = some a) (haL : a ∈ L) (hfa : f a = eSt rn po pl sp) (h8 : sc ≤ 8) (hF : ¬ sc < 8) : nkMI l yX3_split wsX3_split ({ frames := 4, cells := 0, slots := 0, locals := 97 }) D (tC ca) [.ref (ad 0), .int i0] (wC ad ca sd tc sc tr st pz T Wt O SA KA R Ln Ky Ch (X ++ va_pl L f)) (fun _ : Unit => wC ad ca sd tc sc tr st pz T Wt O SA KA R Ln Ky Ch (X ++ va_pl L f)) (fun r _ => r = -2) 0 0 := by
  refine nk_ofM (Qf := fun A => va_Qi (fun r _ => r = -2) (nkB D A (fun _ : Unit => wC ad ca sd tc sc tr st pz T Wt O SA KA R Ln Ky Ch (X ++ va_pl L f))) A) (cc := cX3_split) (maxL := 4) (ret := (some .int)) (by decide) rfl (Nat.le_of_ble_eq_true rfl) ?_
  intro p e s m below meth c A hx hb hr hml hts hown hlocks hin hK hP hD hA hS ls hl
  replace hown : s.vm.findClass RX3 = some m.cls := hown
  replace hl : lv_has ls 4 [(0, .ref (ad 0)), (1, .int i0)] := hl
  have hP : va_P D vwCl (wC ad ca sd tc sc tr st pz T Wt O SA KA R Ln Ky Ch (X ++ va_pl L f)) s.heap := hP
  have iX1 : ∀ w ∈ u_ws RX1 TX1 5, w ∈ wsX3_split := by decide +kernel
  have iX3 : ∀ w ∈ u_ws RX3 TX3 11, w ∈ wsX3_split := by decide +kernel
  have iX2 : ∀ w ∈ u_ws RX2 TX2 4, w ∈ wsX3_split := by decide +kernel
  refine lv_aload_n hx hb dX3_split_0 rfl (lv_at hl 0 rfl) ?_
  refine lv_iload_n hx hb dX3_split_1 rfl (lv_at hl 1 rfl) ?_
  refine nk_VRQ (As := [.int i0]) (rest := []) ⟨hx, hb, hml, hown, hts⟩ (mX3_streamAt l D ad ca sd tc sc tr st pz T Wt O SA KA R Ln Ky Ch (X ++ va_pl L f) i0 h8) (cwV 1 hts gX3_split_X3_streamAt rfl rfl rfl (by decide +kernel) ⟨Nat.le_of_ble_eq_true rfl, Nat.le_of_ble_eq_true rfl⟩) hK hP 0 3 rfl rfl rfl rfl hl.1 rfl (Nat.le_of_ble_eq_true rfl) dX3_split_2 ⟨Nat.le_of_ble_eq_true rfl, Nat.le_of_ble_eq_true rfl⟩ (fun r1 hr1 => ?_)
  subst hr1
  refine W.eq (g2 := F0 m 5 ls [.ref a]) (by rw [hAt]; rfl) ?_
  refine lv_astore_n (lv' := [(2, .ref a), (0, .ref (ad 0)), (1, .int i0)]) hx hb dX3_split_5 rfl hl (by decide) rfl (fun ls hl => ?_)
  refine lv_aload_n hx hb dX3_split_6 rfl (lv_at hl 0 rfl) ?_
  refine lv_ifnonnull (tgt := 12) hx hb dX3_split_7 (by decide) ?_
  refine lv_aload_n hx hb dX3_split_12 rfl (lv_at hl 1 rfl) ?_
  refine va_get (D := D) (ci := 3) (v := .int sc) (C := RX3) (T := TX3) (N := 11) hx hb hts iX3 hown hK.1 hP 0 rfl rfl 7 (by decide) (hts (.fieldLink RX3 37 "NamedStreams" "streamCount" "I") (by decide +kernel)) (fun _ h9 => h9) rfl dX3_split_13 ?_
  refine lv_bipush (v := 8) hx hb dX3_split_16 (by decide) ?_
  refine lv_icmp_lt (tgt := 24) hx hb dX3_split_18 (by decide) (fun c18 => ?_) (fun c18 => ?_)
  · skip
    exact absurd c18 hF
  · skip
    refine lv_bipush (v := -2) hx hb dX3_split_21 (by decide) ?_
    exact nk_retI (g := _) () hx hb hr hlocks hP hD hS dX3_split_23 rfl

set_option maxHeartbeats 800000 in
set_option maxRecDepth 100000 in
theorem mX3_split_E (l : Launch) (D : va_G) (ad : Nat → Nat) (ca : Nat → ClassId) (sd : Int64) (tc : Int32) (sc : Int32) (tr : Int32) (st : Int32) (T : Nat → Int64) (Wt : Nat → Int64) (O : Nat → Int32) (SA : Nat → Option Nat) (KA : Nat → Option Nat) (R : Nat → Int64) (Ln : Nat → Int32) (Ky : Nat → Int64) (Ch : Nat → Int64) (X : va_W) (L : List Nat) (f : Nat → va_E) (zz pp ll : Nat) (i0 : Int32) (a : Nat) (rn : Int64) (pl sp : Int32) (hAt : fAt sc SA i0 = some a) (haL : a ∈ L) (hfa : f a = eSt rn (nI pp) pl sp) (hz0 : zz ≤ 24) (hp0 : pp < zz) (hl0 : Ln (Int32.toNatClampNeg (nI pp)) = nI ll) (hl1 : ll ≤ 4) (h8 : sc < 8) (hE : (fEntC R Ch Ln Ky zz (nI pp) ll (Int32.toInt64 sp)).1 = -2) : nkMI l yX3_split wsX3_split ({ frames := 4, cells := 0, slots := 0, locals := 97 }) D (tC ca) [.ref (ad 0), .int i0] (wC ad ca sd tc sc tr st (nI zz) T Wt O SA KA R Ln Ky Ch (X ++ va_pl L f)) (fun u : (Nat → Int64) × sPth => wC ad ca sd tc sc tr st u.2.2.2.2 T Wt O SA KA u.2.1 u.2.2.1 u.2.2.2.1 u.1 (X ++ va_pl L f)) (fun r u => fEntC R Ch Ln Ky zz (nI pp) ll (Int32.toInt64 sp) = (r, u)) 0 0 := by
  refine nk_ofM (Qf := fun A => va_Qi (fun r u => fEntC R Ch Ln Ky zz (nI pp) ll (Int32.toInt64 sp) = (r, u)) (nkB D A (fun u : (Nat → Int64) × sPth => wC ad ca sd tc sc tr st u.2.2.2.2 T Wt O SA KA u.2.1 u.2.2.1 u.2.2.2.1 u.1 (X ++ va_pl L f))) A) (cc := cX3_split) (maxL := 4) (ret := (some .int)) (by decide) rfl (Nat.le_of_ble_eq_true rfl) ?_
  intro p e s m below meth c A hx hb hr hml hts hown hlocks hin hK hP hD hA hS ls hl
  replace hown : s.vm.findClass RX3 = some m.cls := hown
  replace hl : lv_has ls 4 [(0, .ref (ad 0)), (1, .int i0)] := hl
  have hP : va_P D vwCl (wC ad ca sd tc sc tr st (nI zz) T Wt O SA KA R Ln Ky Ch (X ++ va_pl L f)) s.heap := hP
  have iX1 : ∀ w ∈ u_ws RX1 TX1 5, w ∈ wsX3_split := by decide +kernel
  have iX3 : ∀ w ∈ u_ws RX3 TX3 11, w ∈ wsX3_split := by decide +kernel
  have iX2 : ∀ w ∈ u_ws RX2 TX2 4, w ∈ wsX3_split := by decide +kernel
  have h8w : sc ≤ 8 := Int32.le_of_lt h8
  refine lv_aload_n hx hb dX3_split_0 rfl (lv_at hl 0 rfl) ?_
  refine lv_iload_n hx hb dX3_split_1 rfl (lv_at hl 1 rfl) ?_
  refine nk_VRQ (As := [.int i0]) (rest := []) ⟨hx, hb, hml, hown, hts⟩ (mX3_streamAt l D ad ca sd tc sc tr st (nI zz) T Wt O SA KA R Ln Ky Ch (X ++ va_pl L f) i0 h8w) (cwV 1 hts gX3_split_X3_streamAt rfl rfl rfl (by decide +kernel) ⟨Nat.le_of_ble_eq_true rfl, Nat.le_of_ble_eq_true rfl⟩) hK hP 0 3 rfl rfl rfl rfl hl.1 rfl (Nat.le_of_ble_eq_true rfl) dX3_split_2 ⟨Nat.le_of_ble_eq_true rfl, Nat.le_of_ble_eq_true rfl⟩ (fun r1 hr1 => ?_)
  subst hr1
  refine W.eq (g2 := F0 m 5 ls [.ref a]) (by rw [hAt]; rfl) ?_
  refine lv_astore_n (lv' := [(2, .ref a), (0, .ref (ad 0)), (1, .int i0)]) hx hb dX3_split_5 rfl hl (by decide) rfl (fun ls hl => ?_)
  refine lv_aload_n hx hb dX3_split_6 rfl (lv_at hl 0 rfl) ?_
  refine lv_ifnonnull (tgt := 12) hx hb dX3_split_7 (by decide) ?_
  refine lv_aload_n hx hb dX3_split_12 rfl (lv_at hl 1 rfl) ?_
  refine va_get (D := D) (ci := 3) (v := .int sc) (C := RX3) (T := TX3) (N := 11) hx hb hts iX3 hown hK.1 hP 0 rfl rfl 7 (by decide) (hts (.fieldLink RX3 37 "NamedStreams" "streamCount" "I") (by decide +kernel)) (fun _ h9 => h9) rfl dX3_split_13 ?_
  refine lv_bipush (v := 8) hx hb dX3_split_16 (by decide) ?_
  refine lv_icmp_lt (tgt := 24) hx hb dX3_split_18 (by decide) (fun c18 => ?_) (fun c18 => ?_)
  · skip
    refine lv_aload_n hx hb dX3_split_24 rfl (lv_at hl 1 rfl) ?_
    refine va_get (D := D) (ci := 3) (v := .ref (ad 2)) (C := RX3) (T := TX3) (N := 11) hx hb hts iX3 hown hK.1 hP 0 rfl rfl 3 (by decide) (hts (.fieldLink RX3 20 "NamedStreams" "paths" "LNamedStreams$Paths;") (by decide +kernel)) (fun _ h9 => h9) rfl dX3_split_25 ?_
    refine lv_aload_n hx hb dX3_split_28 rfl (lv_at hl 0 rfl) ?_
    obtain ⟨k2, hk2⟩ := va_pl_get (X := (wC ad ca sd tc sc tr st (nI zz) T Wt O SA KA R Ln Ky Ch X)) (L := L) (f := f) haL
    have hk22 := hk2
    rw [hfa] at hk22
    have hPp : va_P D vwCl ((wC ad ca sd tc sc tr st (nI zz) T Wt O SA KA R Ln Ky Ch X) ++ va_pl L f) _ := hP
    have hDp : va_D A ((wC ad ca sd tc sc tr st (nI zz) T Wt O SA KA R Ln Ky Ch X) ++ va_pl L f) := hD
    refine va_get (D := D) (ci := 2) (v := .int (nI pp)) (C := RX2) (T := TX2) (N := 4) hx hb hts iX2 hown hK.1 hPp k2 hk22 rfl 1 (by decide) (hts (.fieldLink RX3 110 "NamedStreams$Stream" "path" "I") (by decide +kernel)) (fun _ h9 => h9) rfl dX3_split_29 ?_
    refine lv_aload_n hx hb dX3_split_32 rfl (lv_at hl 0 rfl) ?_
    obtain ⟨k3, hk3⟩ := va_pl_get (X := (wC ad ca sd tc sc tr st (nI zz) T Wt O SA KA R Ln Ky Ch X)) (L := L) (f := f) haL
    have hk32 := hk3
    rw [hfa] at hk32
    have hPp : va_P D vwCl ((wC ad ca sd tc sc tr st (nI zz) T Wt O SA KA R Ln Ky Ch X) ++ va_pl L f) _ := hP
    have hDp : va_D A ((wC ad ca sd tc sc tr st (nI zz) T Wt O SA KA R Ln Ky Ch X) ++ va_pl L f) := hD
    refine va_get (D := D) (ci := 2) (v := .int sp) (C := RX2) (T := TX2) (N := 4) hx hb hts iX2 hown hK.1 hPp k3 hk32 rfl 3 (by decide) (hts (.fieldLink RX3 113 "NamedStreams$Stream" "splits" "I") (by decide +kernel)) (fun _ h9 => h9) rfl dX3_split_33 ?_
    refine lv_i2l hx hb dX3_split_36 rfl ?_
    refine nk_VI (As := [.int (nI pp), .long (Int32.toInt64 sp)]) (rest := []) ⟨hx, hb, hml, hown, hts⟩ (mX1_enterChild l D ad ca sd tc sc tr st T Wt O SA KA R Ln Ky Ch (X ++ va_pl L f) zz pp ll (Int32.toInt64 sp) hz0 hp0 hl0 hl1) (cwV 2 hts gX3_split_X1_enterChild rfl rfl rfl (by decide +kernel) ⟨Nat.le_of_ble_eq_true rfl, Nat.le_of_ble_eq_true rfl⟩) hK hP hD hS hA 2 1 rfl rfl rfl rfl hl.1 rfl (Nat.le_of_ble_eq_true rfl) dX3_split_37 ⟨Nat.le_of_ble_eq_true rfl, Nat.le_of_ble_eq_true rfl⟩ (fun r4 ur4 H locs hr4 hP hD hS => ?_)
    obtain ⟨rfl, rfl⟩ : r4 = (fEntC R Ch Ln Ky zz (nI pp) ll (Int32.toInt64 sp)).1 ∧ ur4 = (fEntC R Ch Ln Ky zz (nI pp) ll (Int32.toInt64 sp)).2 := by rw [hr4]; exact ⟨rfl, rfl⟩
    have hP : va_P D vwCl (wC ad ca sd tc sc tr st ((fEntC R Ch Ln Ky zz (nI pp) ll (Int32.toInt64 sp)).2.2.2.2.2) T Wt O SA KA ((fEntC R Ch Ln Ky zz (nI pp) ll (Int32.toInt64 sp)).2.2.1) ((fEntC R Ch Ln Ky zz (nI pp) ll (Int32.toInt64 sp)).2.2.2.1) ((fEntC R Ch Ln Ky zz (nI pp) ll (Int32.toInt64 sp)).2.2.2.2.1) ((fEntC R Ch Ln Ky zz (nI pp) ll (Int32.toInt64 sp)).2.1) (X ++ va_pl L f)) H := hP
    have hD : va_D A (wC ad ca sd tc sc tr st ((fEntC R Ch Ln Ky zz (nI pp) ll (Int32.toInt64 sp)).2.2.2.2.2) T Wt O SA KA ((fEntC R Ch Ln Ky zz (nI pp) ll (Int32.toInt64 sp)).2.2.1) ((fEntC R Ch Ln Ky zz (nI pp) ll (Int32.toInt64 sp)).2.2.2.1) ((fEntC R Ch Ln Ky zz (nI pp) ll (Int32.toInt64 sp)).2.2.2.2.1) ((fEntC R Ch Ln Ky zz (nI pp) ll (Int32.toInt64 sp)).2.1) (X ++ va_pl L f)) := hD
    refine lv_topi (fun z5 ez5 => ?_)
    refine lv_istore_n (lv' := [(3, .int z5), (2, .ref a), (0, .ref (ad 0)), (1, .int i0)]) hx hb dX3_split_40 rfl hl (by decide) rfl (fun ls hl => ?_)
    refine lv_iload_n hx hb dX3_split_41 rfl (lv_at hl 0 rfl) ?_
    refine lv_bipush (v := -2) hx hb dX3_split_42 (by decide) ?_
    refine lv_icmp_ne (tgt := 50) hx hb dX3_split_44 (by decide) (fun c44 => ?_) (fun c44 => ?_)
    · skip
      exact absurd (by subst ez5; exact hE) c44
    · skip
      refine lv_bipush (v := -2) hx hb dX3_split_47 (by decide) ?_
      exact nk_retI (g := _) (fEntC R Ch Ln Ky zz (nI pp) ll (Int32.toInt64 sp)).2 hx hb hr hlocks hP hD hS dX3_split_49 (by rw [← hE])
  · skip
    exact absurd h8 c18

set_option maxHeartbeats 800000 in
set_option maxRecDepth 100000 in
theorem mX3_split_A (l : Launch) (D : va_G) (ad : Nat → Nat) (ca : Nat → ClassId) (sd : Int64) (tc : Int32) (sc : Int32) (tr : Int32) (st : Int32) (T : Nat → Int64) (Wt : Nat → Int64) (O : Nat → Int32) (SA : Nat → Option Nat) (KA : Nat → Option Nat) (R : Nat → Int64) (Ln : Nat → Int32) (Ky : Nat → Int64) (Ch : Nat → Int64) (X : va_W) (L : List Nat) (f : Nat → va_E) (zz pp ll : Nat) (i0 : Int32) (a : Nat) (rn : Int64) (pl sp : Int32) (hAt : fAt sc SA i0 = some a) (haL : a ∈ L) (hfa : f a = eSt rn (nI pp) pl sp) (hz0 : zz ≤ 24) (hp0 : pp < zz) (hl0 : Ln (Int32.toNatClampNeg (nI pp)) = nI ll) (hl1 : ll ≤ 4) (h0 : 0 ≤ sc) (h8 : sc < 8) (hE : ¬ (fEntC R Ch Ln Ky zz (nI pp) ll (Int32.toInt64 sp)).1 = -2) : nkMI l yX3_split wsX3_split ({ frames := 4, cells := 1, slots := 4, locals := 97 }) D (tC ca) [.ref (ad 0), .int i0] (wC ad ca sd tc sc tr st (nI zz) T Wt O SA KA R Ln Ky Ch (X ++ va_pl L f)) (fun u : Nat × Int32 => wC ad ca sd tc u.2 tr st ((fEntC R Ch Ln Ky zz (nI pp) ll (Int32.toInt64 sp)).2.2.2.2.2) T Wt O (va_up SA (Int32.toNatClampNeg sc) (some u.1)) KA ((fEntC R Ch Ln Ky zz (nI pp) ll (Int32.toInt64 sp)).2.2.1) ((fEntC R Ch Ln Ky zz (nI pp) ll (Int32.toInt64 sp)).2.2.2.1) ((fEntC R Ch Ln Ky zz (nI pp) ll (Int32.toInt64 sp)).2.2.2.2.1) ((fEntC R Ch Ln Ky zz (nI pp) ll (Int32.toInt64 sp)).2.1) (X ++ va_pl (L ++ [u.1]) (va_up (va_up f a (eSt rn (nI pp) pl (sp + 1))) u.1 (eSt rn (fEntC R Ch Ln Ky zz (nI pp) ll (Int32.toInt64 sp)).1 0 0)))) (fun r u => sc = r ∧ u.1 ∉ L ∧ sc + 1 = u.2) 1 4 := by
  refine nk_ofM (Qf := fun A => va_Qi (fun r u => sc = r ∧ u.1 ∉ L ∧ sc + 1 = u.2) (nkB D A (fun u : Nat × Int32 => wC ad ca sd tc u.2 tr st ((fEntC R Ch Ln Ky zz (nI pp) ll (Int32.toInt64 sp)).2.2.2.2.2) T Wt O (va_up SA (Int32.toNatClampNeg sc) (some u.1)) KA ((fEntC R Ch Ln Ky zz (nI pp) ll (Int32.toInt64 sp)).2.2.1) ((fEntC R Ch Ln Ky zz (nI pp) ll (Int32.toInt64 sp)).2.2.2.1) ((fEntC R Ch Ln Ky zz (nI pp) ll (Int32.toInt64 sp)).2.2.2.2.1) ((fEntC R Ch Ln Ky zz (nI pp) ll (Int32.toInt64 sp)).2.1) (X ++ va_pl (L ++ [u.1]) (va_up (va_up f a (eSt rn (nI pp) pl (sp + 1))) u.1 (eSt rn (fEntC R Ch Ln Ky zz (nI pp) ll (Int32.toInt64 sp)).1 0 0))))) A) (cc := cX3_split) (maxL := 4) (ret := (some .int)) (by decide) rfl (Nat.le_of_ble_eq_true rfl) ?_
  intro p e s m below meth c A hx hb hr hml hts hown hlocks hin hK hP hD hA hS ls hl
  replace hown : s.vm.findClass RX3 = some m.cls := hown
  replace hl : lv_has ls 4 [(0, .ref (ad 0)), (1, .int i0)] := hl
  have hP : va_P D vwCl (wC ad ca sd tc sc tr st (nI zz) T Wt O SA KA R Ln Ky Ch (X ++ va_pl L f)) s.heap := hP
  have iX1 : ∀ w ∈ u_ws RX1 TX1 5, w ∈ wsX3_split := by decide +kernel
  have iX3 : ∀ w ∈ u_ws RX3 TX3 11, w ∈ wsX3_split := by decide +kernel
  have iX2 : ∀ w ∈ u_ws RX2 TX2 4, w ∈ wsX3_split := by decide +kernel
  have h8w : sc ≤ 8 := Int32.le_of_lt h8
  refine lv_aload_n hx hb dX3_split_0 rfl (lv_at hl 0 rfl) ?_
  refine lv_iload_n hx hb dX3_split_1 rfl (lv_at hl 1 rfl) ?_
  refine nk_VRQ (As := [.int i0]) (rest := []) ⟨hx, hb, hml, hown, hts⟩ (mX3_streamAt l D ad ca sd tc sc tr st (nI zz) T Wt O SA KA R Ln Ky Ch (X ++ va_pl L f) i0 h8w) (cwV 1 hts gX3_split_X3_streamAt rfl rfl rfl (by decide +kernel) ⟨Nat.le_of_ble_eq_true rfl, Nat.le_of_ble_eq_true rfl⟩) hK hP 0 3 rfl rfl rfl rfl hl.1 rfl (Nat.le_of_ble_eq_true rfl) dX3_split_2 ⟨Nat.le_of_ble_eq_true rfl, Nat.le_of_ble_eq_true rfl⟩ (fun r1 hr1 => ?_)
  subst hr1
  refine W.eq (g2 := F0 m 5 ls [.ref a]) (by rw [hAt]; rfl) ?_
  refine lv_astore_n (lv' := [(2, .ref a), (0, .ref (ad 0)), (1, .int i0)]) hx hb dX3_split_5 rfl hl (by decide) rfl (fun ls hl => ?_)
  refine lv_aload_n hx hb dX3_split_6 rfl (lv_at hl 0 rfl) ?_
  refine lv_ifnonnull (tgt := 12) hx hb dX3_split_7 (by decide) ?_
  refine lv_aload_n hx hb dX3_split_12 rfl (lv_at hl 1 rfl) ?_
  refine va_get (D := D) (ci := 3) (v := .int sc) (C := RX3) (T := TX3) (N := 11) hx hb hts iX3 hown hK.1 hP 0 rfl rfl 7 (by decide) (hts (.fieldLink RX3 37 "NamedStreams" "streamCount" "I") (by decide +kernel)) (fun _ h9 => h9) rfl dX3_split_13 ?_
  refine lv_bipush (v := 8) hx hb dX3_split_16 (by decide) ?_
  refine lv_icmp_lt (tgt := 24) hx hb dX3_split_18 (by decide) (fun c18 => ?_) (fun c18 => ?_)
  · skip
    refine lv_aload_n hx hb dX3_split_24 rfl (lv_at hl 1 rfl) ?_
    refine va_get (D := D) (ci := 3) (v := .ref (ad 2)) (C := RX3) (T := TX3) (N := 11) hx hb hts iX3 hown hK.1 hP 0 rfl rfl 3 (by decide) (hts (.fieldLink RX3 20 "NamedStreams" "paths" "LNamedStreams$Paths;") (by decide +kernel)) (fun _ h9 => h9) rfl dX3_split_25 ?_
    refine lv_aload_n hx hb dX3_split_28 rfl (lv_at hl 0 rfl) ?_
    obtain ⟨k2, hk2⟩ := va_pl_get (X := (wC ad ca sd tc sc tr st (nI zz) T Wt O SA KA R Ln Ky Ch X)) (L := L) (f := f) haL
    have hk22 := hk2
    rw [hfa] at hk22
    have hPp : va_P D vwCl ((wC ad ca sd tc sc tr st (nI zz) T Wt O SA KA R Ln Ky Ch X) ++ va_pl L f) _ := hP
    have hDp : va_D A ((wC ad ca sd tc sc tr st (nI zz) T Wt O SA KA R Ln Ky Ch X) ++ va_pl L f) := hD
    refine va_get (D := D) (ci := 2) (v := .int (nI pp)) (C := RX2) (T := TX2) (N := 4) hx hb hts iX2 hown hK.1 hPp k2 hk22 rfl 1 (by decide) (hts (.fieldLink RX3 110 "NamedStreams$Stream" "path" "I") (by decide +kernel)) (fun _ h9 => h9) rfl dX3_split_29 ?_
    refine lv_aload_n hx hb dX3_split_32 rfl (lv_at hl 0 rfl) ?_
    obtain ⟨k3, hk3⟩ := va_pl_get (X := (wC ad ca sd tc sc tr st (nI zz) T Wt O SA KA R Ln Ky Ch X)) (L := L) (f := f) haL
    have hk32 := hk3
    rw [hfa] at hk32
    have hPp : va_P D vwCl ((wC ad ca sd tc sc tr st (nI zz) T Wt O SA KA R Ln Ky Ch X) ++ va_pl L f) _ := hP
    have hDp : va_D A ((wC ad ca sd tc sc tr st (nI zz) T Wt O SA KA R Ln Ky Ch X) ++ va_pl L f) := hD
    refine va_get (D := D) (ci := 2) (v := .int sp) (C := RX2) (T := TX2) (N := 4) hx hb hts iX2 hown hK.1 hPp k3 hk32 rfl 3 (by decide) (hts (.fieldLink RX3 113 "NamedStreams$Stream" "splits" "I") (by decide +kernel)) (fun _ h9 => h9) rfl dX3_split_33 ?_
    refine lv_i2l hx hb dX3_split_36 rfl ?_
    refine nk_VI (As := [.int (nI pp), .long (Int32.toInt64 sp)]) (rest := []) ⟨hx, hb, hml, hown, hts⟩ (mX1_enterChild l D ad ca sd tc sc tr st T Wt O SA KA R Ln Ky Ch (X ++ va_pl L f) zz pp ll (Int32.toInt64 sp) hz0 hp0 hl0 hl1) (cwV 2 hts gX3_split_X1_enterChild rfl rfl rfl (by decide +kernel) ⟨Nat.le_of_ble_eq_true rfl, Nat.le_of_ble_eq_true rfl⟩) hK hP hD hS hA 2 1 rfl rfl rfl rfl hl.1 rfl (Nat.le_of_ble_eq_true rfl) dX3_split_37 ⟨Nat.le_of_ble_eq_true rfl, Nat.le_of_ble_eq_true rfl⟩ (fun r4 ur4 H locs hr4 hP hD hS => ?_)
    obtain ⟨rfl, rfl⟩ : r4 = (fEntC R Ch Ln Ky zz (nI pp) ll (Int32.toInt64 sp)).1 ∧ ur4 = (fEntC R Ch Ln Ky zz (nI pp) ll (Int32.toInt64 sp)).2 := by rw [hr4]; exact ⟨rfl, rfl⟩
    have hP : va_P D vwCl (wC ad ca sd tc sc tr st ((fEntC R Ch Ln Ky zz (nI pp) ll (Int32.toInt64 sp)).2.2.2.2.2) T Wt O SA KA ((fEntC R Ch Ln Ky zz (nI pp) ll (Int32.toInt64 sp)).2.2.1) ((fEntC R Ch Ln Ky zz (nI pp) ll (Int32.toInt64 sp)).2.2.2.1) ((fEntC R Ch Ln Ky zz (nI pp) ll (Int32.toInt64 sp)).2.2.2.2.1) ((fEntC R Ch Ln Ky zz (nI pp) ll (Int32.toInt64 sp)).2.1) (X ++ va_pl L f)) H := hP
    have hD : va_D A (wC ad ca sd tc sc tr st ((fEntC R Ch Ln Ky zz (nI pp) ll (Int32.toInt64 sp)).2.2.2.2.2) T Wt O SA KA ((fEntC R Ch Ln Ky zz (nI pp) ll (Int32.toInt64 sp)).2.2.1) ((fEntC R Ch Ln Ky zz (nI pp) ll (Int32.toInt64 sp)).2.2.2.1) ((fEntC R Ch Ln Ky zz (nI pp) ll (Int32.toInt64 sp)).2.2.2.2.1) ((fEntC R Ch Ln Ky zz (nI pp) ll (Int32.toInt64 sp)).2.1) (X ++ va_pl L f)) := hD
    refine lv_topi (fun z5 ez5 => ?_)
    refine lv_istore_n (lv' := [(3, .int z5), (2, .ref a), (0, .ref (ad 0)), (1, .int i0)]) hx hb dX3_split_40 rfl hl (by decide) rfl (fun ls hl => ?_)
    refine lv_iload_n hx hb dX3_split_41 rfl (lv_at hl 0 rfl) ?_
    refine lv_bipush (v := -2) hx hb dX3_split_42 (by decide) ?_
    refine lv_icmp_ne (tgt := 50) hx hb dX3_split_44 (by decide) (fun c44 => ?_) (fun c44 => ?_)
    · skip
      refine lv_aload_n hx hb dX3_split_50 rfl (lv_at hl 1 rfl) ?_
      refine lv_dup hx hb dX3_split_51 rfl ?_
      obtain ⟨k6, hk6⟩ := va_pl_get (X := (wC ad ca sd tc sc tr st ((fEntC R Ch Ln Ky zz (nI pp) ll (Int32.toInt64 sp)).2.2.2.2.2) T Wt O SA KA ((fEntC R Ch Ln Ky zz (nI pp) ll (Int32.toInt64 sp)).2.2.1) ((fEntC R Ch Ln Ky zz (nI pp) ll (Int32.toInt64 sp)).2.2.2.1) ((fEntC R Ch Ln Ky zz (nI pp) ll (Int32.toInt64 sp)).2.2.2.2.1) ((fEntC R Ch Ln Ky zz (nI pp) ll (Int32.toInt64 sp)).2.1) X)) (L := L) (f := f) haL
      have hk62 := hk6
      rw [hfa] at hk62
      have hPp : va_P D vwCl ((wC ad ca sd tc sc tr st ((fEntC R Ch Ln Ky zz (nI pp) ll (Int32.toInt64 sp)).2.2.2.2.2) T Wt O SA KA ((fEntC R Ch Ln Ky zz (nI pp) ll (Int32.toInt64 sp)).2.2.1) ((fEntC R Ch Ln Ky zz (nI pp) ll (Int32.toInt64 sp)).2.2.2.1) ((fEntC R Ch Ln Ky zz (nI pp) ll (Int32.toInt64 sp)).2.2.2.2.1) ((fEntC R Ch Ln Ky zz (nI pp) ll (Int32.toInt64 sp)).2.1) X) ++ va_pl L f) _ := hP
      have hDp : va_D A ((wC ad ca sd tc sc tr st ((fEntC R Ch Ln Ky zz (nI pp) ll (Int32.toInt64 sp)).2.2.2.2.2) T Wt O SA KA ((fEntC R Ch Ln Ky zz (nI pp) ll (Int32.toInt64 sp)).2.2.1) ((fEntC R Ch Ln Ky zz (nI pp) ll (Int32.toInt64 sp)).2.2.2.1) ((fEntC R Ch Ln Ky zz (nI pp) ll (Int32.toInt64 sp)).2.2.2.2.1) ((fEntC R Ch Ln Ky zz (nI pp) ll (Int32.toInt64 sp)).2.1) X) ++ va_pl L f) := hD
      refine va_get (D := D) (ci := 2) (v := .int sp) (C := RX2) (T := TX2) (N := 4) hx hb hts iX2 hown hK.1 hPp k6 hk62 rfl 3 (by decide) (hts (.fieldLink RX3 113 "NamedStreams$Stream" "splits" "I") (by decide +kernel)) (fun _ h9 => h9) rfl dX3_split_52 ?_
      refine lv_iconst (v := 1) hx hb dX3_split_55 (by decide) ?_
      refine lv_iadd hx hb dX3_split_56 ?_
      refine lv_topi (fun z7 ez7 => ?_)
      obtain ⟨k8, hk8⟩ := va_pl_get (X := (wC ad ca sd tc sc tr st ((fEntC R Ch Ln Ky zz (nI pp) ll (Int32.toInt64 sp)).2.2.2.2.2) T Wt O SA KA ((fEntC R Ch Ln Ky zz (nI pp) ll (Int32.toInt64 sp)).2.2.1) ((fEntC R Ch Ln Ky zz (nI pp) ll (Int32.toInt64 sp)).2.2.2.1) ((fEntC R Ch Ln Ky zz (nI pp) ll (Int32.toInt64 sp)).2.2.2.2.1) ((fEntC R Ch Ln Ky zz (nI pp) ll (Int32.toInt64 sp)).2.1) X)) (L := L) (f := f) haL
      have hk82 := hk8
      rw [hfa] at hk82
      have hPp : va_P D vwCl ((wC ad ca sd tc sc tr st ((fEntC R Ch Ln Ky zz (nI pp) ll (Int32.toInt64 sp)).2.2.2.2.2) T Wt O SA KA ((fEntC R Ch Ln Ky zz (nI pp) ll (Int32.toInt64 sp)).2.2.1) ((fEntC R Ch Ln Ky zz (nI pp) ll (Int32.toInt64 sp)).2.2.2.1) ((fEntC R Ch Ln Ky zz (nI pp) ll (Int32.toInt64 sp)).2.2.2.2.1) ((fEntC R Ch Ln Ky zz (nI pp) ll (Int32.toInt64 sp)).2.1) X) ++ va_pl L f) _ := hP
      have hDp : va_D A ((wC ad ca sd tc sc tr st ((fEntC R Ch Ln Ky zz (nI pp) ll (Int32.toInt64 sp)).2.2.2.2.2) T Wt O SA KA ((fEntC R Ch Ln Ky zz (nI pp) ll (Int32.toInt64 sp)).2.2.1) ((fEntC R Ch Ln Ky zz (nI pp) ll (Int32.toInt64 sp)).2.2.2.1) ((fEntC R Ch Ln Ky zz (nI pp) ll (Int32.toInt64 sp)).2.2.2.2.1) ((fEntC R Ch Ln Ky zz (nI pp) ll (Int32.toInt64 sp)).2.1) X) ++ va_pl L f) := hD
      refine va_put (D := D) (ci := 2) (v := .int z7) (ty := .int) (C := RX2) (T := TX2) (N := 4) hx hb hts iX2 tyX2 tyX2_ok nmX2 hown hK.1 hPp hDp hS k8 hk82 rfl 3 (by decide) (hts (.fieldLink RX3 113 "NamedStreams$Stream" "splits" "I") (by decide +kernel)) (fun _ h9 => h9) rfl (by decide +kernel) rfl rfl (Nat.le_of_ble_eq_true rfl) dX3_split_57 (fun H locs hP hD hS => ?_)
      have hP : va_P D vwCl (((wC ad ca sd tc sc tr st ((fEntC R Ch Ln Ky zz (nI pp) ll (Int32.toInt64 sp)).2.2.2.2.2) T Wt O SA KA ((fEntC R Ch Ln Ky zz (nI pp) ll (Int32.toInt64 sp)).2.2.1) ((fEntC R Ch Ln Ky zz (nI pp) ll (Int32.toInt64 sp)).2.2.2.1) ((fEntC R Ch Ln Ky zz (nI pp) ll (Int32.toInt64 sp)).2.2.2.2.1) ((fEntC R Ch Ln Ky zz (nI pp) ll (Int32.toInt64 sp)).2.1) X) ++ va_pl L f).set k8 (a, .inr (2, [.long rn, .int (nI pp), .int pl, .int z7]))) H := hP
      have hD : va_D A (((wC ad ca sd tc sc tr st ((fEntC R Ch Ln Ky zz (nI pp) ll (Int32.toInt64 sp)).2.2.2.2.2) T Wt O SA KA ((fEntC R Ch Ln Ky zz (nI pp) ll (Int32.toInt64 sp)).2.2.1) ((fEntC R Ch Ln Ky zz (nI pp) ll (Int32.toInt64 sp)).2.2.2.1) ((fEntC R Ch Ln Ky zz (nI pp) ll (Int32.toInt64 sp)).2.2.2.2.1) ((fEntC R Ch Ln Ky zz (nI pp) ll (Int32.toInt64 sp)).2.1) X) ++ va_pl L f).set k8 (a, .inr (2, [.long rn, .int (nI pp), .int pl, .int z7]))) := hD
      rw [va_pl_set hDp haL hk8] at hP hD
      have hP : va_P D vwCl (wC ad ca sd tc sc tr st ((fEntC R Ch Ln Ky zz (nI pp) ll (Int32.toInt64 sp)).2.2.2.2.2) T Wt O SA KA ((fEntC R Ch Ln Ky zz (nI pp) ll (Int32.toInt64 sp)).2.2.1) ((fEntC R Ch Ln Ky zz (nI pp) ll (Int32.toInt64 sp)).2.2.2.1) ((fEntC R Ch Ln Ky zz (nI pp) ll (Int32.toInt64 sp)).2.2.2.2.1) ((fEntC R Ch Ln Ky zz (nI pp) ll (Int32.toInt64 sp)).2.1) (X ++ va_pl L (va_up f a (.inr (2, [.long rn, .int (nI pp), .int pl, .int z7]))))) H := hP
      have hD : va_D A (wC ad ca sd tc sc tr st ((fEntC R Ch Ln Ky zz (nI pp) ll (Int32.toInt64 sp)).2.2.2.2.2) T Wt O SA KA ((fEntC R Ch Ln Ky zz (nI pp) ll (Int32.toInt64 sp)).2.2.1) ((fEntC R Ch Ln Ky zz (nI pp) ll (Int32.toInt64 sp)).2.2.2.1) ((fEntC R Ch Ln Ky zz (nI pp) ll (Int32.toInt64 sp)).2.2.2.2.1) ((fEntC R Ch Ln Ky zz (nI pp) ll (Int32.toInt64 sp)).2.1) (X ++ va_pl L (va_up f a (.inr (2, [.long rn, .int (nI pp), .int pl, .int z7]))))) := hD
      refine lv_aload_n hx hb dX3_split_60 rfl (lv_at hl 2 rfl) ?_
      refine lv_aload_n hx hb dX3_split_61 rfl (lv_at hl 1 rfl) ?_
      obtain ⟨k9, hk9⟩ := va_pl_get (X := (wC ad ca sd tc sc tr st ((fEntC R Ch Ln Ky zz (nI pp) ll (Int32.toInt64 sp)).2.2.2.2.2) T Wt O SA KA ((fEntC R Ch Ln Ky zz (nI pp) ll (Int32.toInt64 sp)).2.2.1) ((fEntC R Ch Ln Ky zz (nI pp) ll (Int32.toInt64 sp)).2.2.2.1) ((fEntC R Ch Ln Ky zz (nI pp) ll (Int32.toInt64 sp)).2.2.2.2.1) ((fEntC R Ch Ln Ky zz (nI pp) ll (Int32.toInt64 sp)).2.1) X)) (L := L) (f := (va_up f a (.inr (2, [.long rn, .int (nI pp), .int pl, .int z7])))) haL
      have hk92 := hk9
      rw [(va_up_self f a (.inr (2, [.long rn, .int (nI pp), .int pl, .int z7])))] at hk92
      have hPp : va_P D vwCl ((wC ad ca sd tc sc tr st ((fEntC R Ch Ln Ky zz (nI pp) ll (Int32.toInt64 sp)).2.2.2.2.2) T Wt O SA KA ((fEntC R Ch Ln Ky zz (nI pp) ll (Int32.toInt64 sp)).2.2.1) ((fEntC R Ch Ln Ky zz (nI pp) ll (Int32.toInt64 sp)).2.2.2.1) ((fEntC R Ch Ln Ky zz (nI pp) ll (Int32.toInt64 sp)).2.2.2.2.1) ((fEntC R Ch Ln Ky zz (nI pp) ll (Int32.toInt64 sp)).2.1) X) ++ va_pl L (va_up f a (.inr (2, [.long rn, .int (nI pp), .int pl, .int z7])))) _ := hP
      have hDp : va_D A ((wC ad ca sd tc sc tr st ((fEntC R Ch Ln Ky zz (nI pp) ll (Int32.toInt64 sp)).2.2.2.2.2) T Wt O SA KA ((fEntC R Ch Ln Ky zz (nI pp) ll (Int32.toInt64 sp)).2.2.1) ((fEntC R Ch Ln Ky zz (nI pp) ll (Int32.toInt64 sp)).2.2.2.1) ((fEntC R Ch Ln Ky zz (nI pp) ll (Int32.toInt64 sp)).2.2.2.2.1) ((fEntC R Ch Ln Ky zz (nI pp) ll (Int32.toInt64 sp)).2.1) X) ++ va_pl L (va_up f a (.inr (2, [.long rn, .int (nI pp), .int pl, .int z7])))) := hD
      refine va_get (D := D) (ci := 2) (v := .long rn) (C := RX2) (T := TX2) (N := 4) hx hb hts iX2 hown hK.1 hPp k9 hk92 rfl 0 (by decide) (hts (.fieldLink RX3 107 "NamedStreams$Stream" "run" "J") (by decide +kernel)) (fun _ h9 => h9) rfl dX3_split_62 ?_
      refine lv_iload_n hx hb dX3_split_65 rfl (lv_at hl 0 rfl) ?_
      refine nk_VI (As := [.long rn, .int z5]) (rest := []) ⟨hx, hb, hml, hown, hts⟩ (mX3_addStream l D ad ca sd tc sc tr st ((fEntC R Ch Ln Ky zz (nI pp) ll (Int32.toInt64 sp)).2.2.2.2.2) T Wt O SA KA ((fEntC R Ch Ln Ky zz (nI pp) ll (Int32.toInt64 sp)).2.2.1) ((fEntC R Ch Ln Ky zz (nI pp) ll (Int32.toInt64 sp)).2.2.2.1) ((fEntC R Ch Ln Ky zz (nI pp) ll (Int32.toInt64 sp)).2.2.2.2.1) ((fEntC R Ch Ln Ky zz (nI pp) ll (Int32.toInt64 sp)).2.1) X L (va_up f a (.inr (2, [.long rn, .int (nI pp), .int pl, .int z7]))) rn z5 h0 h8) (cwV 2 hts gX3_split_X3_addStream rfl rfl rfl (by decide +kernel) ⟨Nat.le_of_ble_eq_true rfl, Nat.le_of_ble_eq_true rfl⟩) hK hP hD hS hA 0 3 rfl rfl rfl rfl hl.1 rfl (Nat.le_of_ble_eq_true rfl) dX3_split_66 ⟨Nat.le_of_ble_eq_true rfl, Nat.le_of_ble_eq_true rfl⟩ (fun r10 ur10 H locs hr10 hP hD hS => ?_)
      obtain ⟨q9, s9⟩ := ur10
      obtain ⟨rfl, hq9, hs9⟩ := hr10
      have hq9 : q9 ∉ L := hq9
      have hs9 : sc + 1 = s9 := hs9
      have hP : va_P D vwCl (wC ad ca sd tc s9 tr st ((fEntC R Ch Ln Ky zz (nI pp) ll (Int32.toInt64 sp)).2.2.2.2.2) T Wt O (va_up SA (Int32.toNatClampNeg sc) (some q9)) KA ((fEntC R Ch Ln Ky zz (nI pp) ll (Int32.toInt64 sp)).2.2.1) ((fEntC R Ch Ln Ky zz (nI pp) ll (Int32.toInt64 sp)).2.2.2.1) ((fEntC R Ch Ln Ky zz (nI pp) ll (Int32.toInt64 sp)).2.2.2.2.1) ((fEntC R Ch Ln Ky zz (nI pp) ll (Int32.toInt64 sp)).2.1) (X ++ va_pl (L ++ [q9]) (va_up (va_up f a (.inr (2, [.long rn, .int (nI pp), .int pl, .int z7]))) q9 (eSt rn z5 0 0)))) H := hP
      have hD : va_D A (wC ad ca sd tc s9 tr st ((fEntC R Ch Ln Ky zz (nI pp) ll (Int32.toInt64 sp)).2.2.2.2.2) T Wt O (va_up SA (Int32.toNatClampNeg sc) (some q9)) KA ((fEntC R Ch Ln Ky zz (nI pp) ll (Int32.toInt64 sp)).2.2.1) ((fEntC R Ch Ln Ky zz (nI pp) ll (Int32.toInt64 sp)).2.2.2.1) ((fEntC R Ch Ln Ky zz (nI pp) ll (Int32.toInt64 sp)).2.2.2.2.1) ((fEntC R Ch Ln Ky zz (nI pp) ll (Int32.toInt64 sp)).2.1) (X ++ va_pl (L ++ [q9]) (va_up (va_up f a (.inr (2, [.long rn, .int (nI pp), .int pl, .int z7]))) q9 (eSt rn z5 0 0)))) := hD
      subst ez5
      subst ez7
      exact nk_retI (g := _) (q9, s9) hx hb hr hlocks hP hD hS dX3_split_69 ⟨rfl, hq9, hs9⟩
    · skip
      exact absurd (by subst ez5; exact c44) hE
  · skip
    exact absurd h8 c18

set_option maxHeartbeats 800000 in
set_option maxRecDepth 100000 in
theorem mX3_keep_B (l : Launch) (D : va_G) (ad : Nat → Nat) (ca : Nat → ClassId) (sd : Int64) (tc : Int32) (sc : Int32) (tr : Int32) (st : Int32) (pz : Int32) (T : Nat → Int64) (Wt : Nat → Int64) (O : Nat → Int32) (SA : Nat → Option Nat) (KA : Nat → Option Nat) (R : Nat → Int64) (Ln : Nat → Int32) (Ky : Nat → Int64) (Ch : Nat → Int64) (X : va_W) (L : List Nat) (f : Nat → va_E) (i0 : Int32) (a : Nat) (rn : Int64) (po pl sp : Int32) (hAt : fAt sc SA i0 = some a) (haL : a ∈ L) (hfa : f a = eSt rn po pl sp) (k0 : Int32) (h8 : sc ≤ 8) (hk : k0 < 0 ∨ 4 ≤ k0) : nkMI l yX3_keep wsX3_keep ({ frames := 2, cells := 0, slots := 0, locals := 32 }) D (tC ca) [.ref (ad 0), .int k0, .int i0] (wC ad ca sd tc sc tr st pz T Wt O SA KA R Ln Ky Ch (X ++ va_pl L f)) (fun _ : Unit => wC ad ca sd tc sc tr st pz T Wt O SA KA R Ln Ky Ch (X ++ va_pl L f)) (fun r _ => r = -1) 0 0 := by
  refine nk_ofM (Qf := fun A => va_Qi (fun r _ => r = -1) (nkB D A (fun _ : Unit => wC ad ca sd tc sc tr st pz T Wt O SA KA R Ln Ky Ch (X ++ va_pl L f))) A) (cc := cX3_keep) (maxL := 5) (ret := (some .int)) (by decide) rfl (Nat.le_of_ble_eq_true rfl) ?_
  intro p e s m below meth c A hx hb hr hml hts hown hlocks hin hK hP hD hA hS ls hl
  replace hown : s.vm.findClass RX3 = some m.cls := hown
  replace hl : lv_has ls 5 [(0, .ref (ad 0)), (1, .int k0), (2, .int i0)] := hl
  have hP : va_P D vwCl (wC ad ca sd tc sc tr st pz T Wt O SA KA R Ln Ky Ch (X ++ va_pl L f)) s.heap := hP
  have iX3 : ∀ w ∈ u_ws RX3 TX3 11, w ∈ wsX3_keep := by decide +kernel
  have iX2 : ∀ w ∈ u_ws RX2 TX2 4, w ∈ wsX3_keep := by decide +kernel
  have iX0 : ∀ w ∈ u_ws RX0 TX0 3, w ∈ wsX3_keep := by decide +kernel
  refine lv_aload_n hx hb dX3_keep_0 rfl (lv_at hl 0 rfl) ?_
  refine lv_iload_n hx hb dX3_keep_1 rfl (lv_at hl 2 rfl) ?_
  refine nk_VRQ (As := [.int i0]) (rest := []) ⟨hx, hb, hml, hown, hts⟩ (mX3_streamAt l D ad ca sd tc sc tr st pz T Wt O SA KA R Ln Ky Ch (X ++ va_pl L f) i0 h8) (cwV 1 hts gX3_keep_X3_streamAt rfl rfl rfl (by decide +kernel) ⟨Nat.le_of_ble_eq_true rfl, Nat.le_of_ble_eq_true rfl⟩) hK hP 0 3 rfl rfl rfl rfl hl.1 rfl (Nat.le_of_ble_eq_true rfl) dX3_keep_2 ⟨Nat.le_of_ble_eq_true rfl, Nat.le_of_ble_eq_true rfl⟩ (fun r1 hr1 => ?_)
  subst hr1
  refine W.eq (g2 := F0 m 5 ls [.ref a]) (by rw [hAt]; rfl) ?_
  refine lv_astore_n (lv' := [(3, .ref a), (0, .ref (ad 0)), (1, .int k0), (2, .int i0)]) hx hb dX3_keep_5 rfl hl (by decide) rfl (fun ls hl => ?_)
  refine lv_iload_n hx hb dX3_keep_6 rfl (lv_at hl 2 rfl) ?_
  refine lv_if_lt (tgt := 19) hx hb dX3_keep_7 (by decide) (fun c7 => ?_) (fun c7 => ?_)
  · skip
    refine lv_iconst (v := -1) hx hb dX3_keep_19 (by decide) ?_
    exact nk_retI (g := _) () hx hb hr hlocks hP hD hS dX3_keep_20 rfl
  · skip
    refine lv_iload_n hx hb dX3_keep_10 rfl (lv_at hl 2 rfl) ?_
    refine lv_iconst (v := 4) hx hb dX3_keep_11 (by decide) ?_
    refine lv_icmp_ge (tgt := 19) hx hb dX3_keep_12 (by decide) (fun c12 => ?_) (fun c12 => ?_)
    · skip
      refine lv_iconst (v := -1) hx hb dX3_keep_19 (by decide) ?_
      exact nk_retI (g := _) () hx hb hr hlocks hP hD hS dX3_keep_20 rfl
    · skip
      exact absurd (hk.elim (fun h => absurd h c7) id) c12

set_option maxHeartbeats 800000 in
set_option maxRecDepth 100000 in
theorem mX3_keep_E (l : Launch) (D : va_G) (ad : Nat → Nat) (ca : Nat → ClassId) (sd : Int64) (tc : Int32) (sc : Int32) (tr : Int32) (st : Int32) (pz : Int32) (T : Nat → Int64) (Wt : Nat → Int64) (O : Nat → Int32) (SA : Nat → Option Nat) (KA : Nat → Option Nat) (R : Nat → Int64) (Ln : Nat → Int32) (Ky : Nat → Int64) (Ch : Nat → Int64) (X : va_W) (L : List Nat) (f : Nat → va_E) (i0 : Int32) (a : Nat) (rn : Int64) (po pl sp : Int32) (hAt : fAt sc SA i0 = some a) (haL : a ∈ L) (hfa : f a = eSt rn po pl sp) (k0 : Int32) (b : Nat) (ks kp kc : Int32) (hKA : KA (Int32.toNatClampNeg k0) = some b) (hbL : b ∈ L) (hfb : f b = eKp ks kp kc) (h8 : sc ≤ 8) (hk1 : ¬ k0 < 0) (hk2 : ¬ 4 ≤ k0) : nkMI l yX3_keep wsX3_keep ({ frames := 2, cells := 0, slots := 0, locals := 32 }) D (tC ca) [.ref (ad 0), .int k0, .int i0] (wC ad ca sd tc sc tr st pz T Wt O SA KA R Ln Ky Ch (X ++ va_pl L f)) (fun u : Nat → va_E => wC ad ca sd tc sc tr st pz T Wt O SA KA R Ln Ky Ch (X ++ va_pl L u)) (fun r u => pl = r ∧ u = va_up f b (eKp i0 pl sp)) 0 0 := by
  refine nk_ofM (Qf := fun A => va_Qi (fun r u => pl = r ∧ u = va_up f b (eKp i0 pl sp)) (nkB D A (fun u : Nat → va_E => wC ad ca sd tc sc tr st pz T Wt O SA KA R Ln Ky Ch (X ++ va_pl L u))) A) (cc := cX3_keep) (maxL := 5) (ret := (some .int)) (by decide) rfl (Nat.le_of_ble_eq_true rfl) ?_
  intro p e s m below meth c A hx hb hr hml hts hown hlocks hin hK hP hD hA hS ls hl
  replace hown : s.vm.findClass RX3 = some m.cls := hown
  replace hl : lv_has ls 5 [(0, .ref (ad 0)), (1, .int k0), (2, .int i0)] := hl
  have hP : va_P D vwCl (wC ad ca sd tc sc tr st pz T Wt O SA KA R Ln Ky Ch (X ++ va_pl L f)) s.heap := hP
  have iX3 : ∀ w ∈ u_ws RX3 TX3 11, w ∈ wsX3_keep := by decide +kernel
  have iX2 : ∀ w ∈ u_ws RX2 TX2 4, w ∈ wsX3_keep := by decide +kernel
  have iX0 : ∀ w ∈ u_ws RX0 TX0 3, w ∈ wsX3_keep := by decide +kernel
  have hab : a ≠ b := (ns_ne02 hfa hfb).symm
  refine lv_aload_n hx hb dX3_keep_0 rfl (lv_at hl 0 rfl) ?_
  refine lv_iload_n hx hb dX3_keep_1 rfl (lv_at hl 2 rfl) ?_
  refine nk_VRQ (As := [.int i0]) (rest := []) ⟨hx, hb, hml, hown, hts⟩ (mX3_streamAt l D ad ca sd tc sc tr st pz T Wt O SA KA R Ln Ky Ch (X ++ va_pl L f) i0 h8) (cwV 1 hts gX3_keep_X3_streamAt rfl rfl rfl (by decide +kernel) ⟨Nat.le_of_ble_eq_true rfl, Nat.le_of_ble_eq_true rfl⟩) hK hP 0 3 rfl rfl rfl rfl hl.1 rfl (Nat.le_of_ble_eq_true rfl) dX3_keep_2 ⟨Nat.le_of_ble_eq_true rfl, Nat.le_of_ble_eq_true rfl⟩ (fun r1 hr1 => ?_)
  subst hr1
  refine W.eq (g2 := F0 m 5 ls [.ref a]) (by rw [hAt]; rfl) ?_
  refine lv_astore_n (lv' := [(3, .ref a), (0, .ref (ad 0)), (1, .int k0), (2, .int i0)]) hx hb dX3_keep_5 rfl hl (by decide) rfl (fun ls hl => ?_)
  refine lv_iload_n hx hb dX3_keep_6 rfl (lv_at hl 2 rfl) ?_
  refine lv_if_lt (tgt := 19) hx hb dX3_keep_7 (by decide) (fun c7 => ?_) (fun c7 => ?_)
  · skip
    exact absurd c7 hk1
  · skip
    refine lv_iload_n hx hb dX3_keep_10 rfl (lv_at hl 2 rfl) ?_
    refine lv_iconst (v := 4) hx hb dX3_keep_11 (by decide) ?_
    refine lv_icmp_ge (tgt := 19) hx hb dX3_keep_12 (by decide) (fun c12 => ?_) (fun c12 => ?_)
    · skip
      exact absurd c12 hk2
    · skip
      refine lv_aload_n hx hb dX3_keep_15 rfl (lv_at hl 0 rfl) ?_
      refine lv_ifnonnull (tgt := 21) hx hb dX3_keep_16 (by decide) ?_
      refine lv_aload_n hx hb dX3_keep_21 rfl (lv_at hl 1 rfl) ?_
      refine va_get (D := D) (ci := 3) (v := .ref (ad 6)) (C := RX3) (T := TX3) (N := 11) hx hb hts iX3 hown hK.1 hP 0 rfl rfl 8 (by decide) (hts (.fieldLink RX3 42 "NamedStreams" "kept" "[LNamedStreams$Kept;") (by decide +kernel)) (fun _ h9 => h9) rfl dX3_keep_22 ?_
      refine lv_iload_n hx hb dX3_keep_25 rfl (lv_at hl 2 rfl) ?_
      refine va_aldq hx hb hK.1 hP 6 4 rfl rfl (ns_in (ns_nn c7) (Int32.not_le.mp c12) (by decide)) dX3_keep_26 ?_
      refine W.eq (g2 := F0 m 27 ls [.ref b]) (by rw [hKA]; rfl) ?_
      refine lv_astore (lv' := [(4, .ref b), (3, .ref a), (0, .ref (ad 0)), (1, .int k0), (2, .int i0)]) hx hb dX3_keep_27 hl (by decide) rfl (fun ls hl => ?_)
      refine lv_aload hx hb dX3_keep_29 (lv_at hl 0 rfl) ?_
      refine lv_ifnonnull (tgt := 51) hx hb dX3_keep_31 (by decide) ?_
      refine lv_aload hx hb dX3_keep_51 (lv_at hl 0 rfl) ?_
      refine lv_iload_n hx hb dX3_keep_53 rfl (lv_at hl 4 rfl) ?_
      obtain ⟨k2, hk2⟩ := va_pl_get (X := (wC ad ca sd tc sc tr st pz T Wt O SA KA R Ln Ky Ch X)) (L := L) (f := f) hbL
      have hk22 := hk2
      rw [hfb] at hk22
      have hPp : va_P D vwCl ((wC ad ca sd tc sc tr st pz T Wt O SA KA R Ln Ky Ch X) ++ va_pl L f) _ := hP
      have hDp : va_D A ((wC ad ca sd tc sc tr st pz T Wt O SA KA R Ln Ky Ch X) ++ va_pl L f) := hD
      refine va_put (D := D) (ci := 0) (v := .int i0) (ty := .int) (C := RX0) (T := TX0) (N := 3) hx hb hts iX0 tyX0 tyX0_ok nmX0 hown hK.1 hPp hDp hS k2 hk22 rfl 0 (by decide) (hts (.fieldLink RX3 122 "NamedStreams$Kept" "stream" "I") (by decide +kernel)) (fun _ h9 => h9) rfl (by decide +kernel) rfl rfl (Nat.le_of_ble_eq_true rfl) dX3_keep_54 (fun H locs hP hD hS => ?_)
      have hP : va_P D vwCl (((wC ad ca sd tc sc tr st pz T Wt O SA KA R Ln Ky Ch X) ++ va_pl L f).set k2 (b, .inr (0, [.int i0, .int kp, .int kc]))) H := hP
      have hD : va_D A (((wC ad ca sd tc sc tr st pz T Wt O SA KA R Ln Ky Ch X) ++ va_pl L f).set k2 (b, .inr (0, [.int i0, .int kp, .int kc]))) := hD
      rw [va_pl_set hDp hbL hk2] at hP hD
      have hP : va_P D vwCl (wC ad ca sd tc sc tr st pz T Wt O SA KA R Ln Ky Ch (X ++ va_pl L (va_up f b (.inr (0, [.int i0, .int kp, .int kc]))))) H := hP
      have hD : va_D A (wC ad ca sd tc sc tr st pz T Wt O SA KA R Ln Ky Ch (X ++ va_pl L (va_up f b (.inr (0, [.int i0, .int kp, .int kc]))))) := hD
      refine lv_aload hx hb dX3_keep_57 (lv_at hl 0 rfl) ?_
      refine lv_aload_n hx hb dX3_keep_59 rfl (lv_at hl 1 rfl) ?_
      obtain ⟨k3, hk3⟩ := va_pl_get (X := (wC ad ca sd tc sc tr st pz T Wt O SA KA R Ln Ky Ch X)) (L := L) (f := (va_up f b (.inr (0, [.int i0, .int kp, .int kc])))) haL
      have hk32 := hk3
      rw [((va_up_ne f (.inr (0, [.int i0, .int kp, .int kc])) hab).trans hfa)] at hk32
      have hPp : va_P D vwCl ((wC ad ca sd tc sc tr st pz T Wt O SA KA R Ln Ky Ch X) ++ va_pl L (va_up f b (.inr (0, [.int i0, .int kp, .int kc])))) _ := hP
      have hDp : va_D A ((wC ad ca sd tc sc tr st pz T Wt O SA KA R Ln Ky Ch X) ++ va_pl L (va_up f b (.inr (0, [.int i0, .int kp, .int kc])))) := hD
      refine va_get (D := D) (ci := 2) (v := .int pl) (C := RX2) (T := TX2) (N := 4) hx hb hts iX2 hown hK.1 hPp k3 hk32 rfl 2 (by decide) (hts (.fieldLink RX3 104 "NamedStreams$Stream" "place" "I") (by decide +kernel)) (fun _ h9 => h9) rfl dX3_keep_60 ?_
      obtain ⟨k4, hk4⟩ := va_pl_get (X := (wC ad ca sd tc sc tr st pz T Wt O SA KA R Ln Ky Ch X)) (L := L) (f := (va_up f b (.inr (0, [.int i0, .int kp, .int kc])))) hbL
      have hk42 := hk4
      rw [(va_up_self f b (.inr (0, [.int i0, .int kp, .int kc])))] at hk42
      have hPp : va_P D vwCl ((wC ad ca sd tc sc tr st pz T Wt O SA KA R Ln Ky Ch X) ++ va_pl L (va_up f b (.inr (0, [.int i0, .int kp, .int kc])))) _ := hP
      have hDp : va_D A ((wC ad ca sd tc sc tr st pz T Wt O SA KA R Ln Ky Ch X) ++ va_pl L (va_up f b (.inr (0, [.int i0, .int kp, .int kc])))) := hD
      refine va_put (D := D) (ci := 0) (v := .int pl) (ty := .int) (C := RX0) (T := TX0) (N := 3) hx hb hts iX0 tyX0 tyX0_ok nmX0 hown hK.1 hPp hDp hS k4 hk42 rfl 1 (by decide) (hts (.fieldLink RX3 125 "NamedStreams$Kept" "place" "I") (by decide +kernel)) (fun _ h9 => h9) rfl (by decide +kernel) rfl rfl (Nat.le_of_ble_eq_true rfl) dX3_keep_63 (fun H locs hP hD hS => ?_)
      have hP : va_P D vwCl (((wC ad ca sd tc sc tr st pz T Wt O SA KA R Ln Ky Ch X) ++ va_pl L (va_up f b (.inr (0, [.int i0, .int kp, .int kc])))).set k4 (b, .inr (0, [.int i0, .int pl, .int kc]))) H := hP
      have hD : va_D A (((wC ad ca sd tc sc tr st pz T Wt O SA KA R Ln Ky Ch X) ++ va_pl L (va_up f b (.inr (0, [.int i0, .int kp, .int kc])))).set k4 (b, .inr (0, [.int i0, .int pl, .int kc]))) := hD
      rw [va_pl_set hDp hbL hk4] at hP hD
      have hP : va_P D vwCl (wC ad ca sd tc sc tr st pz T Wt O SA KA R Ln Ky Ch (X ++ va_pl L (va_up (va_up f b (.inr (0, [.int i0, .int kp, .int kc]))) b (.inr (0, [.int i0, .int pl, .int kc]))))) H := hP
      have hD : va_D A (wC ad ca sd tc sc tr st pz T Wt O SA KA R Ln Ky Ch (X ++ va_pl L (va_up (va_up f b (.inr (0, [.int i0, .int kp, .int kc]))) b (.inr (0, [.int i0, .int pl, .int kc]))))) := hD
      refine lv_aload hx hb dX3_keep_66 (lv_at hl 0 rfl) ?_
      refine lv_aload_n hx hb dX3_keep_68 rfl (lv_at hl 1 rfl) ?_
      obtain ⟨k5, hk5⟩ := va_pl_get (X := (wC ad ca sd tc sc tr st pz T Wt O SA KA R Ln Ky Ch X)) (L := L) (f := (va_up (va_up f b (.inr (0, [.int i0, .int kp, .int kc]))) b (.inr (0, [.int i0, .int pl, .int kc])))) haL
      have hk52 := hk5
      rw [((va_up_ne (va_up f b (.inr (0, [.int i0, .int kp, .int kc]))) (.inr (0, [.int i0, .int pl, .int kc])) hab).trans ((va_up_ne f (.inr (0, [.int i0, .int kp, .int kc])) hab).trans hfa))] at hk52
      have hPp : va_P D vwCl ((wC ad ca sd tc sc tr st pz T Wt O SA KA R Ln Ky Ch X) ++ va_pl L (va_up (va_up f b (.inr (0, [.int i0, .int kp, .int kc]))) b (.inr (0, [.int i0, .int pl, .int kc])))) _ := hP
      have hDp : va_D A ((wC ad ca sd tc sc tr st pz T Wt O SA KA R Ln Ky Ch X) ++ va_pl L (va_up (va_up f b (.inr (0, [.int i0, .int kp, .int kc]))) b (.inr (0, [.int i0, .int pl, .int kc])))) := hD
      refine va_get (D := D) (ci := 2) (v := .int sp) (C := RX2) (T := TX2) (N := 4) hx hb hts iX2 hown hK.1 hPp k5 hk52 rfl 3 (by decide) (hts (.fieldLink RX3 113 "NamedStreams$Stream" "splits" "I") (by decide +kernel)) (fun _ h9 => h9) rfl dX3_keep_69 ?_
      obtain ⟨k6, hk6⟩ := va_pl_get (X := (wC ad ca sd tc sc tr st pz T Wt O SA KA R Ln Ky Ch X)) (L := L) (f := (va_up (va_up f b (.inr (0, [.int i0, .int kp, .int kc]))) b (.inr (0, [.int i0, .int pl, .int kc])))) hbL
      have hk62 := hk6
      rw [(va_up_self (va_up f b (.inr (0, [.int i0, .int kp, .int kc]))) b (.inr (0, [.int i0, .int pl, .int kc])))] at hk62
      have hPp : va_P D vwCl ((wC ad ca sd tc sc tr st pz T Wt O SA KA R Ln Ky Ch X) ++ va_pl L (va_up (va_up f b (.inr (0, [.int i0, .int kp, .int kc]))) b (.inr (0, [.int i0, .int pl, .int kc])))) _ := hP
      have hDp : va_D A ((wC ad ca sd tc sc tr st pz T Wt O SA KA R Ln Ky Ch X) ++ va_pl L (va_up (va_up f b (.inr (0, [.int i0, .int kp, .int kc]))) b (.inr (0, [.int i0, .int pl, .int kc])))) := hD
      refine va_put (D := D) (ci := 0) (v := .int sp) (ty := .int) (C := RX0) (T := TX0) (N := 3) hx hb hts iX0 tyX0 tyX0_ok nmX0 hown hK.1 hPp hDp hS k6 hk62 rfl 2 (by decide) (hts (.fieldLink RX3 126 "NamedStreams$Kept" "splits" "I") (by decide +kernel)) (fun _ h9 => h9) rfl (by decide +kernel) rfl rfl (Nat.le_of_ble_eq_true rfl) dX3_keep_72 (fun H locs hP hD hS => ?_)
      have hP : va_P D vwCl (((wC ad ca sd tc sc tr st pz T Wt O SA KA R Ln Ky Ch X) ++ va_pl L (va_up (va_up f b (.inr (0, [.int i0, .int kp, .int kc]))) b (.inr (0, [.int i0, .int pl, .int kc])))).set k6 (b, .inr (0, [.int i0, .int pl, .int sp]))) H := hP
      have hD : va_D A (((wC ad ca sd tc sc tr st pz T Wt O SA KA R Ln Ky Ch X) ++ va_pl L (va_up (va_up f b (.inr (0, [.int i0, .int kp, .int kc]))) b (.inr (0, [.int i0, .int pl, .int kc])))).set k6 (b, .inr (0, [.int i0, .int pl, .int sp]))) := hD
      rw [va_pl_set hDp hbL hk6] at hP hD
      have hP : va_P D vwCl (wC ad ca sd tc sc tr st pz T Wt O SA KA R Ln Ky Ch (X ++ va_pl L (va_up (va_up (va_up f b (.inr (0, [.int i0, .int kp, .int kc]))) b (.inr (0, [.int i0, .int pl, .int kc]))) b (.inr (0, [.int i0, .int pl, .int sp]))))) H := hP
      have hD : va_D A (wC ad ca sd tc sc tr st pz T Wt O SA KA R Ln Ky Ch (X ++ va_pl L (va_up (va_up (va_up f b (.inr (0, [.int i0, .int kp, .int kc]))) b (.inr (0, [.int i0, .int pl, .int kc]))) b (.inr (0, [.int i0, .int pl, .int sp]))))) := hD
      refine lv_aload_n hx hb dX3_keep_75 rfl (lv_at hl 1 rfl) ?_
      obtain ⟨k7, hk7⟩ := va_pl_get (X := (wC ad ca sd tc sc tr st pz T Wt O SA KA R Ln Ky Ch X)) (L := L) (f := (va_up (va_up (va_up f b (.inr (0, [.int i0, .int kp, .int kc]))) b (.inr (0, [.int i0, .int pl, .int kc]))) b (.inr (0, [.int i0, .int pl, .int sp])))) haL
      have hk72 := hk7
      rw [((va_up_ne (va_up (va_up f b (.inr (0, [.int i0, .int kp, .int kc]))) b (.inr (0, [.int i0, .int pl, .int kc]))) (.inr (0, [.int i0, .int pl, .int sp])) hab).trans ((va_up_ne (va_up f b (.inr (0, [.int i0, .int kp, .int kc]))) (.inr (0, [.int i0, .int pl, .int kc])) hab).trans ((va_up_ne f (.inr (0, [.int i0, .int kp, .int kc])) hab).trans hfa)))] at hk72
      have hPp : va_P D vwCl ((wC ad ca sd tc sc tr st pz T Wt O SA KA R Ln Ky Ch X) ++ va_pl L (va_up (va_up (va_up f b (.inr (0, [.int i0, .int kp, .int kc]))) b (.inr (0, [.int i0, .int pl, .int kc]))) b (.inr (0, [.int i0, .int pl, .int sp])))) _ := hP
      have hDp : va_D A ((wC ad ca sd tc sc tr st pz T Wt O SA KA R Ln Ky Ch X) ++ va_pl L (va_up (va_up (va_up f b (.inr (0, [.int i0, .int kp, .int kc]))) b (.inr (0, [.int i0, .int pl, .int kc]))) b (.inr (0, [.int i0, .int pl, .int sp])))) := hD
      refine va_get (D := D) (ci := 2) (v := .int pl) (C := RX2) (T := TX2) (N := 4) hx hb hts iX2 hown hK.1 hPp k7 hk72 rfl 2 (by decide) (hts (.fieldLink RX3 104 "NamedStreams$Stream" "place" "I") (by decide +kernel)) (fun _ h9 => h9) rfl dX3_keep_76 ?_
      exact nk_retI (g := _) (va_up (va_up (va_up f b (.inr (0, [.int i0, .int kp, .int kc]))) b (.inr (0, [.int i0, .int pl, .int kc]))) b (.inr (0, [.int i0, .int pl, .int sp]))) hx hb hr hlocks hP hD hS dX3_keep_79 ⟨rfl, by simp only [bx_uu]⟩

set_option maxHeartbeats 800000 in
set_option maxRecDepth 100000 in
theorem mX3_keep_W (l : Launch) (D : va_G) (ad : Nat → Nat) (ca : Nat → ClassId) (sd : Int64) (tc : Int32) (sc : Int32) (tr : Int32) (st : Int32) (pz : Int32) (T : Nat → Int64) (Wt : Nat → Int64) (O : Nat → Int32) (SA : Nat → Option Nat) (KA : Nat → Option Nat) (R : Nat → Int64) (Ln : Nat → Int32) (Ky : Nat → Int64) (Ch : Nat → Int64) (X : va_W) (L : List Nat) (f : Nat → va_E) (i0 : Int32) (a : Nat) (rn : Int64) (po pl sp : Int32) (hAt : fAt sc SA i0 = some a) (haL : a ∈ L) (hfa : f a = eSt rn po pl sp) (k0 : Int32) (hKA : KA (Int32.toNatClampNeg k0) = none) (h8 : sc ≤ 8) (hk1 : ¬ k0 < 0) (hk2 : ¬ 4 ≤ k0) : nkMI l yX3_keep wsX3_keep ({ frames := 2, cells := 1, slots := 3, locals := 32 }) D (tC ca) [.ref (ad 0), .int k0, .int i0] (wC ad ca sd tc sc tr st pz T Wt O SA KA R Ln Ky Ch (X ++ va_pl L f)) (fun u : Nat × (Nat → va_E) => wC ad ca sd tc sc tr st pz T Wt O SA (va_up KA (Int32.toNatClampNeg k0) (some u.1)) R Ln Ky Ch (X ++ va_pl (L ++ [u.1]) u.2)) (fun r u => pl = r ∧ u.1 ∉ L ∧ u.2 = va_up f u.1 (eKp i0 pl sp)) 1 3 := by
  refine nk_ofM (Qf := fun A => va_Qi (fun r u => pl = r ∧ u.1 ∉ L ∧ u.2 = va_up f u.1 (eKp i0 pl sp)) (nkB D A (fun u : Nat × (Nat → va_E) => wC ad ca sd tc sc tr st pz T Wt O SA (va_up KA (Int32.toNatClampNeg k0) (some u.1)) R Ln Ky Ch (X ++ va_pl (L ++ [u.1]) u.2))) A) (cc := cX3_keep) (maxL := 5) (ret := (some .int)) (by decide) rfl (Nat.le_of_ble_eq_true rfl) ?_
  intro p e s m below meth c A hx hb hr hml hts hown hlocks hin hK hP hD hA hS ls hl
  replace hown : s.vm.findClass RX3 = some m.cls := hown
  replace hl : lv_has ls 5 [(0, .ref (ad 0)), (1, .int k0), (2, .int i0)] := hl
  have hP : va_P D vwCl (wC ad ca sd tc sc tr st pz T Wt O SA KA R Ln Ky Ch (X ++ va_pl L f)) s.heap := hP
  have iX3 : ∀ w ∈ u_ws RX3 TX3 11, w ∈ wsX3_keep := by decide +kernel
  have iX2 : ∀ w ∈ u_ws RX2 TX2 4, w ∈ wsX3_keep := by decide +kernel
  have iX0 : ∀ w ∈ u_ws RX0 TX0 3, w ∈ wsX3_keep := by decide +kernel
  refine lv_aload_n hx hb dX3_keep_0 rfl (lv_at hl 0 rfl) ?_
  refine lv_iload_n hx hb dX3_keep_1 rfl (lv_at hl 2 rfl) ?_
  refine nk_VRQ (As := [.int i0]) (rest := []) ⟨hx, hb, hml, hown, hts⟩ (mX3_streamAt l D ad ca sd tc sc tr st pz T Wt O SA KA R Ln Ky Ch (X ++ va_pl L f) i0 h8) (cwV 1 hts gX3_keep_X3_streamAt rfl rfl rfl (by decide +kernel) ⟨Nat.le_of_ble_eq_true rfl, Nat.le_of_ble_eq_true rfl⟩) hK hP 0 3 rfl rfl rfl rfl hl.1 rfl (Nat.le_of_ble_eq_true rfl) dX3_keep_2 ⟨Nat.le_of_ble_eq_true rfl, Nat.le_of_ble_eq_true rfl⟩ (fun r1 hr1 => ?_)
  subst hr1
  refine W.eq (g2 := F0 m 5 ls [.ref a]) (by rw [hAt]; rfl) ?_
  refine lv_astore_n (lv' := [(3, .ref a), (0, .ref (ad 0)), (1, .int k0), (2, .int i0)]) hx hb dX3_keep_5 rfl hl (by decide) rfl (fun ls hl => ?_)
  refine lv_iload_n hx hb dX3_keep_6 rfl (lv_at hl 2 rfl) ?_
  refine lv_if_lt (tgt := 19) hx hb dX3_keep_7 (by decide) (fun c7 => ?_) (fun c7 => ?_)
  · skip
    exact absurd c7 hk1
  · skip
    refine lv_iload_n hx hb dX3_keep_10 rfl (lv_at hl 2 rfl) ?_
    refine lv_iconst (v := 4) hx hb dX3_keep_11 (by decide) ?_
    refine lv_icmp_ge (tgt := 19) hx hb dX3_keep_12 (by decide) (fun c12 => ?_) (fun c12 => ?_)
    · skip
      exact absurd c12 hk2
    · skip
      refine lv_aload_n hx hb dX3_keep_15 rfl (lv_at hl 0 rfl) ?_
      refine lv_ifnonnull (tgt := 21) hx hb dX3_keep_16 (by decide) ?_
      refine lv_aload_n hx hb dX3_keep_21 rfl (lv_at hl 1 rfl) ?_
      refine va_get (D := D) (ci := 3) (v := .ref (ad 6)) (C := RX3) (T := TX3) (N := 11) hx hb hts iX3 hown hK.1 hP 0 rfl rfl 8 (by decide) (hts (.fieldLink RX3 42 "NamedStreams" "kept" "[LNamedStreams$Kept;") (by decide +kernel)) (fun _ h9 => h9) rfl dX3_keep_22 ?_
      refine lv_iload_n hx hb dX3_keep_25 rfl (lv_at hl 2 rfl) ?_
      refine va_aldq hx hb hK.1 hP 6 4 rfl rfl (ns_in (ns_nn c7) (Int32.not_le.mp c12) (by decide)) dX3_keep_26 ?_
      refine W.eq (g2 := F0 m 27 ls [.null]) (by rw [hKA]; rfl) ?_
      refine lv_astoreN (lv' := [(4, .null), (3, .ref a), (0, .ref (ad 0)), (1, .int k0), (2, .int i0)]) hx hb dX3_keep_27 hl (by decide) rfl (fun ls hl => ?_)
      refine lv_aloadN hx hb dX3_keep_29 (lv_at hl 0 rfl) ?_
      refine lv_ifnonnullN hx hb dX3_keep_31 ?_
      have hPn := hP
      refine va_new (ci := 0) (fs := [.int 0, .int 0, .int 0]) (C := RX0) (T := TX0) (N := 3) hx hb hts iX0 tyX0 tyX0_ok hown (hts (.classLink RX3 40 RX0) (by decide +kernel)) (hts (.instantiable RX0 3) (by decide +kernel)) (hts (.initialized RX0) (by decide +kernel)) hK.1 hP hD hS hA rfl (fun j hj => by rcases (show j = 0 ∨ j = 1 ∨ j = 2 by omega) with rfl | rfl | rfl <;> rfl) (Nat.le_of_ble_eq_true rfl) (Nat.le_of_ble_eq_true rfl) dX3_keep_34 (fun q34 H hP hD hS => ?_)
      have hP : va_P D vwCl (((wC ad ca sd tc sc tr st pz T Wt O SA KA R Ln Ky Ch X) ++ va_pl L f) ++ [(q34, .inr (0, [.int 0, .int 0, .int 0]))]) H := hP
      have hD : va_D A (((wC ad ca sd tc sc tr st pz T Wt O SA KA R Ln Ky Ch X) ++ va_pl L f) ++ [(q34, .inr (0, [.int 0, .int 0, .int 0]))]) := hD
      have hq34 := va_pl_fresh2 hD
      rw [nk_push hq34] at hP hD
      have hP : va_P D vwCl (wC ad ca sd tc sc tr st pz T Wt O SA KA R Ln Ky Ch (X ++ va_pl (L ++ [q34]) (va_up f q34 (.inr (0, [.int 0, .int 0, .int 0]))))) H := hP
      have hD : va_D A (wC ad ca sd tc sc tr st pz T Wt O SA KA R Ln Ky Ch (X ++ va_pl (L ++ [q34]) (va_up f q34 (.inr (0, [.int 0, .int 0, .int 0]))))) := hD
      refine lv_dup hx hb dX3_keep_37 rfl ?_
      refine nk_INV (As := []) (rest := [.ref q34]) ⟨hx, hb, hml, hown, hts⟩ (mX0_init l D (tC ca) (wC ad ca sd tc sc tr st pz T Wt O SA KA R Ln Ky Ch X) (L ++ [q34]) (va_up f q34 (.inr (0, [.int 0, .int 0, .int 0]))) q34 (l_in_new L q34) (va_up_self f q34 (.inr (0, [.int 0, .int 0, .int 0]))) ) ⟨va_cnB 0 hts gX3_keep_X0_init_n121 rfl rfl rfl hK.2.2.2.1 (hts (.initialized RX0) (by decide +kernel)) (by decide +kernel) ⟨Nat.le_of_ble_eq_true rfl, Nat.le_of_ble_eq_true rfl⟩, rfl, hts (.instanceMethod yX0_init) (by decide +kernel)⟩ hK hP hD hS hA rfl hl.1 rfl (Nat.le_of_ble_eq_true rfl) dX3_keep_38 ⟨Nat.le_of_ble_eq_true rfl, Nat.le_of_ble_eq_true rfl⟩ (fun ur2 H locs hr2 hP hD hS => ?_)
      subst hr2
      have hP : va_P D vwCl ((wC ad ca sd tc sc tr st pz T Wt O SA KA R Ln Ky Ch X) ++ va_pl (L ++ [q34]) (va_up (va_up f q34 (.inr (0, [.int 0, .int 0, .int 0]))) q34 (.inr (0, [.int (0 : Int32), .int (0 : Int32), .int (0 : Int32)])))) H := hP
      have hD : va_D A ((wC ad ca sd tc sc tr st pz T Wt O SA KA R Ln Ky Ch X) ++ va_pl (L ++ [q34]) (va_up (va_up f q34 (.inr (0, [.int 0, .int 0, .int 0]))) q34 (.inr (0, [.int (0 : Int32), .int (0 : Int32), .int (0 : Int32)])))) := hD
      rw [bx_uu] at hP hD
      have hP : va_P D vwCl (wC ad ca sd tc sc tr st pz T Wt O SA KA R Ln Ky Ch (X ++ va_pl (L ++ [q34]) (va_up f q34 (.inr (0, [.int (0 : Int32), .int (0 : Int32), .int (0 : Int32)]))))) H := hP
      have hD : va_D A (wC ad ca sd tc sc tr st pz T Wt O SA KA R Ln Ky Ch (X ++ va_pl (L ++ [q34]) (va_up f q34 (.inr (0, [.int (0 : Int32), .int (0 : Int32), .int (0 : Int32)]))))) := hD
      refine lv_astore (lv' := [(4, .ref q34), (3, .ref a), (0, .ref (ad 0)), (1, .int k0), (2, .int i0)]) hx hb dX3_keep_41 hl (by decide) rfl (fun ls hl => ?_)
      refine lv_aload_n hx hb dX3_keep_43 rfl (lv_at hl 2 rfl) ?_
      refine va_get (D := D) (ci := 3) (v := .ref (ad 6)) (C := RX3) (T := TX3) (N := 11) hx hb hts iX3 hown hK.1 hP 0 rfl rfl 8 (by decide) (hts (.fieldLink RX3 42 "NamedStreams" "kept" "[LNamedStreams$Kept;") (by decide +kernel)) (fun _ h9 => h9) rfl dX3_keep_44 ?_
      refine lv_iload_n hx hb dX3_keep_47 rfl (lv_at hl 3 rfl) ?_
      refine lv_aload hx hb dX3_keep_48 (lv_at hl 0 rfl) ?_
      obtain ⟨k3, hk3⟩ := va_pl_get (X := (wC ad ca sd tc sc tr st pz T Wt O SA KA R Ln Ky Ch X)) (L := (L ++ [q34])) (f := (va_up f q34 (.inr (0, [.int (0 : Int32), .int (0 : Int32), .int (0 : Int32)])))) (l_in_new L q34)
      have hk32 := hk3
      rw [(va_up_self f q34 (.inr (0, [.int (0 : Int32), .int (0 : Int32), .int (0 : Int32)])))] at hk32
      have hPp : va_P D vwCl ((wC ad ca sd tc sc tr st pz T Wt O SA KA R Ln Ky Ch X) ++ va_pl (L ++ [q34]) (va_up f q34 (.inr (0, [.int (0 : Int32), .int (0 : Int32), .int (0 : Int32)])))) _ := hP
      have hDp : va_D A ((wC ad ca sd tc sc tr st pz T Wt O SA KA R Ln Ky Ch X) ++ va_pl (L ++ [q34]) (va_up f q34 (.inr (0, [.int (0 : Int32), .int (0 : Int32), .int (0 : Int32)])))) := hD
      refine va_astq (r := (RX0, TX0, 3)) hx hb hK.1 hPp hDp hS 6 4 k3 0 rfl rfl hk32 rfl (ns_in (ns_nn c7) (Int32.not_le.mp c12) (by decide)) dX3_keep_50 (fun H locs hP hD hS => ?_)
      have hP : va_P D vwCl (wC ad ca sd tc sc tr st pz T Wt O SA (va_up KA (Int32.toNatClampNeg k0) (some q34)) R Ln Ky Ch (X ++ va_pl (L ++ [q34]) (va_up f q34 (.inr (0, [.int (0 : Int32), .int (0 : Int32), .int (0 : Int32)]))))) H := hP
      have hD : va_D A (wC ad ca sd tc sc tr st pz T Wt O SA (va_up KA (Int32.toNatClampNeg k0) (some q34)) R Ln Ky Ch (X ++ va_pl (L ++ [q34]) (va_up f q34 (.inr (0, [.int (0 : Int32), .int (0 : Int32), .int (0 : Int32)]))))) := hD
      refine lv_aload hx hb dX3_keep_51 (lv_at hl 0 rfl) ?_
      refine lv_iload_n hx hb dX3_keep_53 rfl (lv_at hl 4 rfl) ?_
      obtain ⟨k4, hk4⟩ := va_pl_get (X := (wC ad ca sd tc sc tr st pz T Wt O SA (va_up KA (Int32.toNatClampNeg k0) (some q34)) R Ln Ky Ch X)) (L := (L ++ [q34])) (f := (va_up f q34 (.inr (0, [.int (0 : Int32), .int (0 : Int32), .int (0 : Int32)])))) (l_in_new L q34)
      have hk42 := hk4
      rw [(va_up_self f q34 (.inr (0, [.int (0 : Int32), .int (0 : Int32), .int (0 : Int32)])))] at hk42
      have hPp : va_P D vwCl ((wC ad ca sd tc sc tr st pz T Wt O SA (va_up KA (Int32.toNatClampNeg k0) (some q34)) R Ln Ky Ch X) ++ va_pl (L ++ [q34]) (va_up f q34 (.inr (0, [.int (0 : Int32), .int (0 : Int32), .int (0 : Int32)])))) _ := hP
      have hDp : va_D A ((wC ad ca sd tc sc tr st pz T Wt O SA (va_up KA (Int32.toNatClampNeg k0) (some q34)) R Ln Ky Ch X) ++ va_pl (L ++ [q34]) (va_up f q34 (.inr (0, [.int (0 : Int32), .int (0 : Int32), .int (0 : Int32)])))) := hD
      refine va_put (D := D) (ci := 0) (v := .int i0) (ty := .int) (C := RX0) (T := TX0) (N := 3) hx hb hts iX0 tyX0 tyX0_ok nmX0 hown hK.1 hPp hDp hS k4 hk42 rfl 0 (by decide) (hts (.fieldLink RX3 122 "NamedStreams$Kept" "stream" "I") (by decide +kernel)) (fun _ h9 => h9) rfl (by decide +kernel) rfl rfl (Nat.le_of_ble_eq_true rfl) dX3_keep_54 (fun H locs hP hD hS => ?_)
      have hP : va_P D vwCl (((wC ad ca sd tc sc tr st pz T Wt O SA (va_up KA (Int32.toNatClampNeg k0) (some q34)) R Ln Ky Ch X) ++ va_pl (L ++ [q34]) (va_up f q34 (.inr (0, [.int (0 : Int32), .int (0 : Int32), .int (0 : Int32)])))).set k4 (q34, .inr (0, [.int i0, .int (0 : Int32), .int (0 : Int32)]))) H := hP
      have hD : va_D A (((wC ad ca sd tc sc tr st pz T Wt O SA (va_up KA (Int32.toNatClampNeg k0) (some q34)) R Ln Ky Ch X) ++ va_pl (L ++ [q34]) (va_up f q34 (.inr (0, [.int (0 : Int32), .int (0 : Int32), .int (0 : Int32)])))).set k4 (q34, .inr (0, [.int i0, .int (0 : Int32), .int (0 : Int32)]))) := hD
      rw [va_pl_set hDp (l_in_new L q34) hk4] at hP hD
      have hP : va_P D vwCl (wC ad ca sd tc sc tr st pz T Wt O SA (va_up KA (Int32.toNatClampNeg k0) (some q34)) R Ln Ky Ch (X ++ va_pl (L ++ [q34]) (va_up (va_up f q34 (.inr (0, [.int (0 : Int32), .int (0 : Int32), .int (0 : Int32)]))) q34 (.inr (0, [.int i0, .int (0 : Int32), .int (0 : Int32)]))))) H := hP
      have hD : va_D A (wC ad ca sd tc sc tr st pz T Wt O SA (va_up KA (Int32.toNatClampNeg k0) (some q34)) R Ln Ky Ch (X ++ va_pl (L ++ [q34]) (va_up (va_up f q34 (.inr (0, [.int (0 : Int32), .int (0 : Int32), .int (0 : Int32)]))) q34 (.inr (0, [.int i0, .int (0 : Int32), .int (0 : Int32)]))))) := hD
      refine lv_aload hx hb dX3_keep_57 (lv_at hl 0 rfl) ?_
      refine lv_aload_n hx hb dX3_keep_59 rfl (lv_at hl 1 rfl) ?_
      obtain ⟨k5, hk5⟩ := va_pl_get (X := (wC ad ca sd tc sc tr st pz T Wt O SA (va_up KA (Int32.toNatClampNeg k0) (some q34)) R Ln Ky Ch X)) (L := (L ++ [q34])) (f := (va_up (va_up f q34 (.inr (0, [.int (0 : Int32), .int (0 : Int32), .int (0 : Int32)]))) q34 (.inr (0, [.int i0, .int (0 : Int32), .int (0 : Int32)])))) (List.mem_append_left [q34] haL)
      have hk52 := hk5
      rw [((va_up_ne (va_up f q34 (.inr (0, [.int (0 : Int32), .int (0 : Int32), .int (0 : Int32)]))) (.inr (0, [.int i0, .int (0 : Int32), .int (0 : Int32)])) (show a ≠ q34 from fun h => hq34 (h ▸ haL))).trans ((va_up_ne f (.inr (0, [.int (0 : Int32), .int (0 : Int32), .int (0 : Int32)])) (show a ≠ q34 from fun h => hq34 (h ▸ haL))).trans hfa))] at hk52
      have hPp : va_P D vwCl ((wC ad ca sd tc sc tr st pz T Wt O SA (va_up KA (Int32.toNatClampNeg k0) (some q34)) R Ln Ky Ch X) ++ va_pl (L ++ [q34]) (va_up (va_up f q34 (.inr (0, [.int (0 : Int32), .int (0 : Int32), .int (0 : Int32)]))) q34 (.inr (0, [.int i0, .int (0 : Int32), .int (0 : Int32)])))) _ := hP
      have hDp : va_D A ((wC ad ca sd tc sc tr st pz T Wt O SA (va_up KA (Int32.toNatClampNeg k0) (some q34)) R Ln Ky Ch X) ++ va_pl (L ++ [q34]) (va_up (va_up f q34 (.inr (0, [.int (0 : Int32), .int (0 : Int32), .int (0 : Int32)]))) q34 (.inr (0, [.int i0, .int (0 : Int32), .int (0 : Int32)])))) := hD
      refine va_get (D := D) (ci := 2) (v := .int pl) (C := RX2) (T := TX2) (N := 4) hx hb hts iX2 hown hK.1 hPp k5 hk52 rfl 2 (by decide) (hts (.fieldLink RX3 104 "NamedStreams$Stream" "place" "I") (by decide +kernel)) (fun _ h9 => h9) rfl dX3_keep_60 ?_
      obtain ⟨k6, hk6⟩ := va_pl_get (X := (wC ad ca sd tc sc tr st pz T Wt O SA (va_up KA (Int32.toNatClampNeg k0) (some q34)) R Ln Ky Ch X)) (L := (L ++ [q34])) (f := (va_up (va_up f q34 (.inr (0, [.int (0 : Int32), .int (0 : Int32), .int (0 : Int32)]))) q34 (.inr (0, [.int i0, .int (0 : Int32), .int (0 : Int32)])))) (l_in_new L q34)
      have hk62 := hk6
      rw [(va_up_self (va_up f q34 (.inr (0, [.int (0 : Int32), .int (0 : Int32), .int (0 : Int32)]))) q34 (.inr (0, [.int i0, .int (0 : Int32), .int (0 : Int32)])))] at hk62
      have hPp : va_P D vwCl ((wC ad ca sd tc sc tr st pz T Wt O SA (va_up KA (Int32.toNatClampNeg k0) (some q34)) R Ln Ky Ch X) ++ va_pl (L ++ [q34]) (va_up (va_up f q34 (.inr (0, [.int (0 : Int32), .int (0 : Int32), .int (0 : Int32)]))) q34 (.inr (0, [.int i0, .int (0 : Int32), .int (0 : Int32)])))) _ := hP
      have hDp : va_D A ((wC ad ca sd tc sc tr st pz T Wt O SA (va_up KA (Int32.toNatClampNeg k0) (some q34)) R Ln Ky Ch X) ++ va_pl (L ++ [q34]) (va_up (va_up f q34 (.inr (0, [.int (0 : Int32), .int (0 : Int32), .int (0 : Int32)]))) q34 (.inr (0, [.int i0, .int (0 : Int32), .int (0 : Int32)])))) := hD
      refine va_put (D := D) (ci := 0) (v := .int pl) (ty := .int) (C := RX0) (T := TX0) (N := 3) hx hb hts iX0 tyX0 tyX0_ok nmX0 hown hK.1 hPp hDp hS k6 hk62 rfl 1 (by decide) (hts (.fieldLink RX3 125 "NamedStreams$Kept" "place" "I") (by decide +kernel)) (fun _ h9 => h9) rfl (by decide +kernel) rfl rfl (Nat.le_of_ble_eq_true rfl) dX3_keep_63 (fun H locs hP hD hS => ?_)
      have hP : va_P D vwCl (((wC ad ca sd tc sc tr st pz T Wt O SA (va_up KA (Int32.toNatClampNeg k0) (some q34)) R Ln Ky Ch X) ++ va_pl (L ++ [q34]) (va_up (va_up f q34 (.inr (0, [.int (0 : Int32), .int (0 : Int32), .int (0 : Int32)]))) q34 (.inr (0, [.int i0, .int (0 : Int32), .int (0 : Int32)])))).set k6 (q34, .inr (0, [.int i0, .int pl, .int (0 : Int32)]))) H := hP
      have hD : va_D A (((wC ad ca sd tc sc tr st pz T Wt O SA (va_up KA (Int32.toNatClampNeg k0) (some q34)) R Ln Ky Ch X) ++ va_pl (L ++ [q34]) (va_up (va_up f q34 (.inr (0, [.int (0 : Int32), .int (0 : Int32), .int (0 : Int32)]))) q34 (.inr (0, [.int i0, .int (0 : Int32), .int (0 : Int32)])))).set k6 (q34, .inr (0, [.int i0, .int pl, .int (0 : Int32)]))) := hD
      rw [va_pl_set hDp (l_in_new L q34) hk6] at hP hD
      have hP : va_P D vwCl (wC ad ca sd tc sc tr st pz T Wt O SA (va_up KA (Int32.toNatClampNeg k0) (some q34)) R Ln Ky Ch (X ++ va_pl (L ++ [q34]) (va_up (va_up (va_up f q34 (.inr (0, [.int (0 : Int32), .int (0 : Int32), .int (0 : Int32)]))) q34 (.inr (0, [.int i0, .int (0 : Int32), .int (0 : Int32)]))) q34 (.inr (0, [.int i0, .int pl, .int (0 : Int32)]))))) H := hP
      have hD : va_D A (wC ad ca sd tc sc tr st pz T Wt O SA (va_up KA (Int32.toNatClampNeg k0) (some q34)) R Ln Ky Ch (X ++ va_pl (L ++ [q34]) (va_up (va_up (va_up f q34 (.inr (0, [.int (0 : Int32), .int (0 : Int32), .int (0 : Int32)]))) q34 (.inr (0, [.int i0, .int (0 : Int32), .int (0 : Int32)]))) q34 (.inr (0, [.int i0, .int pl, .int (0 : Int32)]))))) := hD
      refine lv_aload hx hb dX3_keep_66 (lv_at hl 0 rfl) ?_
      refine lv_aload_n hx hb dX3_keep_68 rfl (lv_at hl 1 rfl) ?_
      obtain ⟨k7, hk7⟩ := va_pl_get (X := (wC ad ca sd tc sc tr st pz T Wt O SA (va_up KA (Int32.toNatClampNeg k0) (some q34)) R Ln Ky Ch X)) (L := (L ++ [q34])) (f := (va_up (va_up (va_up f q34 (.inr (0, [.int (0 : Int32), .int (0 : Int32), .int (0 : Int32)]))) q34 (.inr (0, [.int i0, .int (0 : Int32), .int (0 : Int32)]))) q34 (.inr (0, [.int i0, .int pl, .int (0 : Int32)])))) (List.mem_append_left [q34] haL)
      have hk72 := hk7
      rw [((va_up_ne (va_up (va_up f q34 (.inr (0, [.int (0 : Int32), .int (0 : Int32), .int (0 : Int32)]))) q34 (.inr (0, [.int i0, .int (0 : Int32), .int (0 : Int32)]))) (.inr (0, [.int i0, .int pl, .int (0 : Int32)])) (show a ≠ q34 from fun h => hq34 (h ▸ haL))).trans ((va_up_ne (va_up f q34 (.inr (0, [.int (0 : Int32), .int (0 : Int32), .int (0 : Int32)]))) (.inr (0, [.int i0, .int (0 : Int32), .int (0 : Int32)])) (show a ≠ q34 from fun h => hq34 (h ▸ haL))).trans ((va_up_ne f (.inr (0, [.int (0 : Int32), .int (0 : Int32), .int (0 : Int32)])) (show a ≠ q34 from fun h => hq34 (h ▸ haL))).trans hfa)))] at hk72
      have hPp : va_P D vwCl ((wC ad ca sd tc sc tr st pz T Wt O SA (va_up KA (Int32.toNatClampNeg k0) (some q34)) R Ln Ky Ch X) ++ va_pl (L ++ [q34]) (va_up (va_up (va_up f q34 (.inr (0, [.int (0 : Int32), .int (0 : Int32), .int (0 : Int32)]))) q34 (.inr (0, [.int i0, .int (0 : Int32), .int (0 : Int32)]))) q34 (.inr (0, [.int i0, .int pl, .int (0 : Int32)])))) _ := hP
      have hDp : va_D A ((wC ad ca sd tc sc tr st pz T Wt O SA (va_up KA (Int32.toNatClampNeg k0) (some q34)) R Ln Ky Ch X) ++ va_pl (L ++ [q34]) (va_up (va_up (va_up f q34 (.inr (0, [.int (0 : Int32), .int (0 : Int32), .int (0 : Int32)]))) q34 (.inr (0, [.int i0, .int (0 : Int32), .int (0 : Int32)]))) q34 (.inr (0, [.int i0, .int pl, .int (0 : Int32)])))) := hD
      refine va_get (D := D) (ci := 2) (v := .int sp) (C := RX2) (T := TX2) (N := 4) hx hb hts iX2 hown hK.1 hPp k7 hk72 rfl 3 (by decide) (hts (.fieldLink RX3 113 "NamedStreams$Stream" "splits" "I") (by decide +kernel)) (fun _ h9 => h9) rfl dX3_keep_69 ?_
      obtain ⟨k8, hk8⟩ := va_pl_get (X := (wC ad ca sd tc sc tr st pz T Wt O SA (va_up KA (Int32.toNatClampNeg k0) (some q34)) R Ln Ky Ch X)) (L := (L ++ [q34])) (f := (va_up (va_up (va_up f q34 (.inr (0, [.int (0 : Int32), .int (0 : Int32), .int (0 : Int32)]))) q34 (.inr (0, [.int i0, .int (0 : Int32), .int (0 : Int32)]))) q34 (.inr (0, [.int i0, .int pl, .int (0 : Int32)])))) (l_in_new L q34)
      have hk82 := hk8
      rw [(va_up_self (va_up (va_up f q34 (.inr (0, [.int (0 : Int32), .int (0 : Int32), .int (0 : Int32)]))) q34 (.inr (0, [.int i0, .int (0 : Int32), .int (0 : Int32)]))) q34 (.inr (0, [.int i0, .int pl, .int (0 : Int32)])))] at hk82
      have hPp : va_P D vwCl ((wC ad ca sd tc sc tr st pz T Wt O SA (va_up KA (Int32.toNatClampNeg k0) (some q34)) R Ln Ky Ch X) ++ va_pl (L ++ [q34]) (va_up (va_up (va_up f q34 (.inr (0, [.int (0 : Int32), .int (0 : Int32), .int (0 : Int32)]))) q34 (.inr (0, [.int i0, .int (0 : Int32), .int (0 : Int32)]))) q34 (.inr (0, [.int i0, .int pl, .int (0 : Int32)])))) _ := hP
      have hDp : va_D A ((wC ad ca sd tc sc tr st pz T Wt O SA (va_up KA (Int32.toNatClampNeg k0) (some q34)) R Ln Ky Ch X) ++ va_pl (L ++ [q34]) (va_up (va_up (va_up f q34 (.inr (0, [.int (0 : Int32), .int (0 : Int32), .int (0 : Int32)]))) q34 (.inr (0, [.int i0, .int (0 : Int32), .int (0 : Int32)]))) q34 (.inr (0, [.int i0, .int pl, .int (0 : Int32)])))) := hD
      refine va_put (D := D) (ci := 0) (v := .int sp) (ty := .int) (C := RX0) (T := TX0) (N := 3) hx hb hts iX0 tyX0 tyX0_ok nmX0 hown hK.1 hPp hDp hS k8 hk82 rfl 2 (by decide) (hts (.fieldLink RX3 126 "NamedStreams$Kept" "splits" "I") (by decide +kernel)) (fun _ h9 => h9) rfl (by decide +kernel) rfl rfl (Nat.le_of_ble_eq_true rfl) dX3_keep_72 (fun H locs hP hD hS => ?_)
      have hP : va_P D vwCl (((wC ad ca sd tc sc tr st pz T Wt O SA (va_up KA (Int32.toNatClampNeg k0) (some q34)) R Ln Ky Ch X) ++ va_pl (L ++ [q34]) (va_up (va_up (va_up f q34 (.inr (0, [.int (0 : Int32), .int (0 : Int32), .int (0 : Int32)]))) q34 (.inr (0, [.int i0, .int (0 : Int32), .int (0 : Int32)]))) q34 (.inr (0, [.int i0, .int pl, .int (0 : Int32)])))).set k8 (q34, .inr (0, [.int i0, .int pl, .int sp]))) H := hP
      have hD : va_D A (((wC ad ca sd tc sc tr st pz T Wt O SA (va_up KA (Int32.toNatClampNeg k0) (some q34)) R Ln Ky Ch X) ++ va_pl (L ++ [q34]) (va_up (va_up (va_up f q34 (.inr (0, [.int (0 : Int32), .int (0 : Int32), .int (0 : Int32)]))) q34 (.inr (0, [.int i0, .int (0 : Int32), .int (0 : Int32)]))) q34 (.inr (0, [.int i0, .int pl, .int (0 : Int32)])))).set k8 (q34, .inr (0, [.int i0, .int pl, .int sp]))) := hD
      rw [va_pl_set hDp (l_in_new L q34) hk8] at hP hD
      have hP : va_P D vwCl (wC ad ca sd tc sc tr st pz T Wt O SA (va_up KA (Int32.toNatClampNeg k0) (some q34)) R Ln Ky Ch (X ++ va_pl (L ++ [q34]) (va_up (va_up (va_up (va_up f q34 (.inr (0, [.int (0 : Int32), .int (0 : Int32), .int (0 : Int32)]))) q34 (.inr (0, [.int i0, .int (0 : Int32), .int (0 : Int32)]))) q34 (.inr (0, [.int i0, .int pl, .int (0 : Int32)]))) q34 (.inr (0, [.int i0, .int pl, .int sp]))))) H := hP
      have hD : va_D A (wC ad ca sd tc sc tr st pz T Wt O SA (va_up KA (Int32.toNatClampNeg k0) (some q34)) R Ln Ky Ch (X ++ va_pl (L ++ [q34]) (va_up (va_up (va_up (va_up f q34 (.inr (0, [.int (0 : Int32), .int (0 : Int32), .int (0 : Int32)]))) q34 (.inr (0, [.int i0, .int (0 : Int32), .int (0 : Int32)]))) q34 (.inr (0, [.int i0, .int pl, .int (0 : Int32)]))) q34 (.inr (0, [.int i0, .int pl, .int sp]))))) := hD
      refine lv_aload_n hx hb dX3_keep_75 rfl (lv_at hl 1 rfl) ?_
      obtain ⟨k9, hk9⟩ := va_pl_get (X := (wC ad ca sd tc sc tr st pz T Wt O SA (va_up KA (Int32.toNatClampNeg k0) (some q34)) R Ln Ky Ch X)) (L := (L ++ [q34])) (f := (va_up (va_up (va_up (va_up f q34 (.inr (0, [.int (0 : Int32), .int (0 : Int32), .int (0 : Int32)]))) q34 (.inr (0, [.int i0, .int (0 : Int32), .int (0 : Int32)]))) q34 (.inr (0, [.int i0, .int pl, .int (0 : Int32)]))) q34 (.inr (0, [.int i0, .int pl, .int sp])))) (List.mem_append_left [q34] haL)
      have hk92 := hk9
      rw [((va_up_ne (va_up (va_up (va_up f q34 (.inr (0, [.int (0 : Int32), .int (0 : Int32), .int (0 : Int32)]))) q34 (.inr (0, [.int i0, .int (0 : Int32), .int (0 : Int32)]))) q34 (.inr (0, [.int i0, .int pl, .int (0 : Int32)]))) (.inr (0, [.int i0, .int pl, .int sp])) (show a ≠ q34 from fun h => hq34 (h ▸ haL))).trans ((va_up_ne (va_up (va_up f q34 (.inr (0, [.int (0 : Int32), .int (0 : Int32), .int (0 : Int32)]))) q34 (.inr (0, [.int i0, .int (0 : Int32), .int (0 : Int32)]))) (.inr (0, [.int i0, .int pl, .int (0 : Int32)])) (show a ≠ q34 from fun h => hq34 (h ▸ haL))).trans ((va_up_ne (va_up f q34 (.inr (0, [.int (0 : Int32), .int (0 : Int32), .int (0 : Int32)]))) (.inr (0, [.int i0, .int (0 : Int32), .int (0 : Int32)])) (show a ≠ q34 from fun h => hq34 (h ▸ haL))).trans ((va_up_ne f (.inr (0, [.int (0 : Int32), .int (0 : Int32), .int (0 : Int32)])) (show a ≠ q34 from fun h => hq34 (h ▸ haL))).trans hfa))))] at hk92
      have hPp : va_P D vwCl ((wC ad ca sd tc sc tr st pz T Wt O SA (va_up KA (Int32.toNatClampNeg k0) (some q34)) R Ln Ky Ch X) ++ va_pl (L ++ [q34]) (va_up (va_up (va_up (va_up f q34 (.inr (0, [.int (0 : Int32), .int (0 : Int32), .int (0 : Int32)]))) q34 (.inr (0, [.int i0, .int (0 : Int32), .int (0 : Int32)]))) q34 (.inr (0, [.int i0, .int pl, .int (0 : Int32)]))) q34 (.inr (0, [.int i0, .int pl, .int sp])))) _ := hP
      have hDp : va_D A ((wC ad ca sd tc sc tr st pz T Wt O SA (va_up KA (Int32.toNatClampNeg k0) (some q34)) R Ln Ky Ch X) ++ va_pl (L ++ [q34]) (va_up (va_up (va_up (va_up f q34 (.inr (0, [.int (0 : Int32), .int (0 : Int32), .int (0 : Int32)]))) q34 (.inr (0, [.int i0, .int (0 : Int32), .int (0 : Int32)]))) q34 (.inr (0, [.int i0, .int pl, .int (0 : Int32)]))) q34 (.inr (0, [.int i0, .int pl, .int sp])))) := hD
      refine va_get (D := D) (ci := 2) (v := .int pl) (C := RX2) (T := TX2) (N := 4) hx hb hts iX2 hown hK.1 hPp k9 hk92 rfl 2 (by decide) (hts (.fieldLink RX3 104 "NamedStreams$Stream" "place" "I") (by decide +kernel)) (fun _ h9 => h9) rfl dX3_keep_76 ?_
      exact nk_retI (g := _) (q34, (va_up (va_up (va_up (va_up f q34 (.inr (0, [.int (0 : Int32), .int (0 : Int32), .int (0 : Int32)]))) q34 (.inr (0, [.int i0, .int (0 : Int32), .int (0 : Int32)]))) q34 (.inr (0, [.int i0, .int pl, .int (0 : Int32)]))) q34 (.inr (0, [.int i0, .int pl, .int sp])))) hx hb hr hlocks hP hD hS dX3_keep_79 ⟨rfl, hq34, by simp only [bx_uu]⟩

set_option maxHeartbeats 800000 in
set_option maxRecDepth 100000 in
theorem mX3_back_B (l : Launch) (D : va_G) (ad : Nat → Nat) (ca : Nat → ClassId) (sd : Int64) (tc : Int32) (sc : Int32) (tr : Int32) (st : Int32) (pz : Int32) (T : Nat → Int64) (Wt : Nat → Int64) (O : Nat → Int32) (SA : Nat → Option Nat) (KA : Nat → Option Nat) (R : Nat → Int64) (Ln : Nat → Int32) (Ky : Nat → Int64) (Ch : Nat → Int64) (X : va_W) (L : List Nat) (f : Nat → va_E) (k0 : Int32) (hk : k0 < 0 ∨ 4 ≤ k0) : nkMI l yX3_back wsX3_back ({ frames := 1, cells := 0, slots := 0, locals := 21 }) D (tC ca) [.ref (ad 0), .int k0] (wC ad ca sd tc sc tr st pz T Wt O SA KA R Ln Ky Ch (X ++ va_pl L f)) (fun _ : Unit => wC ad ca sd tc sc tr st pz T Wt O SA KA R Ln Ky Ch (X ++ va_pl L f)) (fun r _ => r = -1) 0 0 := by
  refine nk_ofM (Qf := fun A => va_Qi (fun r _ => r = -1) (nkB D A (fun _ : Unit => wC ad ca sd tc sc tr st pz T Wt O SA KA R Ln Ky Ch (X ++ va_pl L f))) A) (cc := cX3_back) (maxL := 4) (ret := (some .int)) (by decide) rfl (Nat.le_of_ble_eq_true rfl) ?_
  intro p e s m below meth c A hx hb hr hml hts hown hlocks hin hK hP hD hA hS ls hl
  replace hown : s.vm.findClass RX3 = some m.cls := hown
  replace hl : lv_has ls 4 [(0, .ref (ad 0)), (1, .int k0)] := hl
  have hP : va_P D vwCl (wC ad ca sd tc sc tr st pz T Wt O SA KA R Ln Ky Ch (X ++ va_pl L f)) s.heap := hP
  have iX3 : ∀ w ∈ u_ws RX3 TX3 11, w ∈ wsX3_back := by decide +kernel
  have iX2 : ∀ w ∈ u_ws RX2 TX2 4, w ∈ wsX3_back := by decide +kernel
  have iX0 : ∀ w ∈ u_ws RX0 TX0 3, w ∈ wsX3_back := by decide +kernel
  refine lv_iload_n hx hb dX3_back_0 rfl (lv_at hl 1 rfl) ?_
  refine lv_if_lt (tgt := 9) hx hb dX3_back_1 (by decide) (fun c1 => ?_) (fun c1 => ?_)
  · skip
    refine lv_iconst (v := -1) hx hb dX3_back_9 (by decide) ?_
    exact nk_retI (g := _) () hx hb hr hlocks hP hD hS dX3_back_10 rfl
  · skip
    refine lv_iload_n hx hb dX3_back_4 rfl (lv_at hl 1 rfl) ?_
    refine lv_iconst (v := 4) hx hb dX3_back_5 (by decide) ?_
    refine lv_icmp_lt (tgt := 11) hx hb dX3_back_6 (by decide) (fun c6 => ?_) (fun c6 => ?_)
    · skip
      exact absurd c6 (Int32.not_lt.mpr (hk.elim (fun h => absurd h c1) id))
    · skip
      refine lv_iconst (v := -1) hx hb dX3_back_9 (by decide) ?_
      exact nk_retI (g := _) () hx hb hr hlocks hP hD hS dX3_back_10 rfl

set_option maxHeartbeats 800000 in
set_option maxRecDepth 100000 in
theorem mX3_back_0 (l : Launch) (D : va_G) (ad : Nat → Nat) (ca : Nat → ClassId) (sd : Int64) (tc : Int32) (sc : Int32) (tr : Int32) (st : Int32) (pz : Int32) (T : Nat → Int64) (Wt : Nat → Int64) (O : Nat → Int32) (SA : Nat → Option Nat) (KA : Nat → Option Nat) (R : Nat → Int64) (Ln : Nat → Int32) (Ky : Nat → Int64) (Ch : Nat → Int64) (X : va_W) (L : List Nat) (f : Nat → va_E) (k0 : Int32) (hKA : KA (Int32.toNatClampNeg k0) = none) (hk1 : ¬ k0 < 0) (hk2 : ¬ 4 ≤ k0) : nkMI l yX3_back wsX3_back ({ frames := 1, cells := 0, slots := 0, locals := 21 }) D (tC ca) [.ref (ad 0), .int k0] (wC ad ca sd tc sc tr st pz T Wt O SA KA R Ln Ky Ch (X ++ va_pl L f)) (fun _ : Unit => wC ad ca sd tc sc tr st pz T Wt O SA KA R Ln Ky Ch (X ++ va_pl L f)) (fun r _ => r = -3) 0 0 := by
  refine nk_ofM (Qf := fun A => va_Qi (fun r _ => r = -3) (nkB D A (fun _ : Unit => wC ad ca sd tc sc tr st pz T Wt O SA KA R Ln Ky Ch (X ++ va_pl L f))) A) (cc := cX3_back) (maxL := 4) (ret := (some .int)) (by decide) rfl (Nat.le_of_ble_eq_true rfl) ?_
  intro p e s m below meth c A hx hb hr hml hts hown hlocks hin hK hP hD hA hS ls hl
  replace hown : s.vm.findClass RX3 = some m.cls := hown
  replace hl : lv_has ls 4 [(0, .ref (ad 0)), (1, .int k0)] := hl
  have hP : va_P D vwCl (wC ad ca sd tc sc tr st pz T Wt O SA KA R Ln Ky Ch (X ++ va_pl L f)) s.heap := hP
  have iX3 : ∀ w ∈ u_ws RX3 TX3 11, w ∈ wsX3_back := by decide +kernel
  have iX2 : ∀ w ∈ u_ws RX2 TX2 4, w ∈ wsX3_back := by decide +kernel
  have iX0 : ∀ w ∈ u_ws RX0 TX0 3, w ∈ wsX3_back := by decide +kernel
  refine lv_iload_n hx hb dX3_back_0 rfl (lv_at hl 1 rfl) ?_
  refine lv_if_lt (tgt := 9) hx hb dX3_back_1 (by decide) (fun c1 => ?_) (fun c1 => ?_)
  · skip
    exact absurd c1 hk1
  · skip
    refine lv_iload_n hx hb dX3_back_4 rfl (lv_at hl 1 rfl) ?_
    refine lv_iconst (v := 4) hx hb dX3_back_5 (by decide) ?_
    refine lv_icmp_lt (tgt := 11) hx hb dX3_back_6 (by decide) (fun c6 => ?_) (fun c6 => ?_)
    · skip
      refine lv_aload_n hx hb dX3_back_11 rfl (lv_at hl 0 rfl) ?_
      refine va_get (D := D) (ci := 3) (v := .ref (ad 6)) (C := RX3) (T := TX3) (N := 11) hx hb hts iX3 hown hK.1 hP 0 rfl rfl 8 (by decide) (hts (.fieldLink RX3 42 "NamedStreams" "kept" "[LNamedStreams$Kept;") (by decide +kernel)) (fun _ h9 => h9) rfl dX3_back_12 ?_
      refine lv_iload_n hx hb dX3_back_15 rfl (lv_at hl 1 rfl) ?_
      refine va_aldq hx hb hK.1 hP 6 4 rfl rfl (ns_in (ns_nn c1) c6 (by decide)) dX3_back_16 ?_
      refine W.eq (g2 := F0 m 17 ls [.null]) (by rw [hKA]; rfl) ?_
      refine lv_astore_nN (lv' := [(2, .null), (0, .ref (ad 0)), (1, .int k0)]) hx hb dX3_back_17 rfl hl (by decide) rfl (fun ls hl => ?_)
      refine lv_aload_nN hx hb dX3_back_18 rfl (lv_at hl 0 rfl) ?_
      refine lv_ifnonnullN hx hb dX3_back_19 ?_
      refine lv_bipush (v := -3) hx hb dX3_back_22 (by decide) ?_
      exact nk_retI (g := _) () hx hb hr hlocks hP hD hS dX3_back_24 rfl
    · skip
      exact absurd (Int32.not_le.mp hk2) c6

set_option maxHeartbeats 800000 in
set_option maxRecDepth 100000 in
theorem mX3_back_S (l : Launch) (D : va_G) (ad : Nat → Nat) (ca : Nat → ClassId) (sd : Int64) (tc : Int32) (sc : Int32) (tr : Int32) (st : Int32) (pz : Int32) (T : Nat → Int64) (Wt : Nat → Int64) (O : Nat → Int32) (SA : Nat → Option Nat) (KA : Nat → Option Nat) (R : Nat → Int64) (Ln : Nat → Int32) (Ky : Nat → Int64) (Ch : Nat → Int64) (X : va_W) (L : List Nat) (f : Nat → va_E) (k0 : Int32) (b : Nat) (ks kp kc : Int32) (hKA : KA (Int32.toNatClampNeg k0) = some b) (hbL : b ∈ L) (hfb : f b = eKp ks kp kc) (a : Nat) (rn : Int64) (po pl sp : Int32) (hAt : fAt sc SA ks = some a) (haL : a ∈ L) (hfa : f a = eSt rn po pl sp) (h8 : sc ≤ 8) (hk1 : ¬ k0 < 0) (hk2 : ¬ 4 ≤ k0) : nkMI l yX3_back wsX3_back ({ frames := 1, cells := 0, slots := 0, locals := 21 }) D (tC ca) [.ref (ad 0), .int k0] (wC ad ca sd tc sc tr st pz T Wt O SA KA R Ln Ky Ch (X ++ va_pl L f)) (fun u : Nat → va_E => wC ad ca sd tc sc tr st pz T Wt O SA KA R Ln Ky Ch (X ++ va_pl L u)) (fun r u => ks = r ∧ u = va_up f a (eSt rn po kp kc)) 0 0 := by
  refine nk_ofM (Qf := fun A => va_Qi (fun r u => ks = r ∧ u = va_up f a (eSt rn po kp kc)) (nkB D A (fun u : Nat → va_E => wC ad ca sd tc sc tr st pz T Wt O SA KA R Ln Ky Ch (X ++ va_pl L u))) A) (cc := cX3_back) (maxL := 4) (ret := (some .int)) (by decide) rfl (Nat.le_of_ble_eq_true rfl) ?_
  intro p e s m below meth c A hx hb hr hml hts hown hlocks hin hK hP hD hA hS ls hl
  replace hown : s.vm.findClass RX3 = some m.cls := hown
  replace hl : lv_has ls 4 [(0, .ref (ad 0)), (1, .int k0)] := hl
  have hP : va_P D vwCl (wC ad ca sd tc sc tr st pz T Wt O SA KA R Ln Ky Ch (X ++ va_pl L f)) s.heap := hP
  have iX3 : ∀ w ∈ u_ws RX3 TX3 11, w ∈ wsX3_back := by decide +kernel
  have iX2 : ∀ w ∈ u_ws RX2 TX2 4, w ∈ wsX3_back := by decide +kernel
  have iX0 : ∀ w ∈ u_ws RX0 TX0 3, w ∈ wsX3_back := by decide +kernel
  have hba : b ≠ a := ns_ne02 hfa hfb
  refine lv_iload_n hx hb dX3_back_0 rfl (lv_at hl 1 rfl) ?_
  refine lv_if_lt (tgt := 9) hx hb dX3_back_1 (by decide) (fun c1 => ?_) (fun c1 => ?_)
  · skip
    exact absurd c1 hk1
  · skip
    refine lv_iload_n hx hb dX3_back_4 rfl (lv_at hl 1 rfl) ?_
    refine lv_iconst (v := 4) hx hb dX3_back_5 (by decide) ?_
    refine lv_icmp_lt (tgt := 11) hx hb dX3_back_6 (by decide) (fun c6 => ?_) (fun c6 => ?_)
    · skip
      refine lv_aload_n hx hb dX3_back_11 rfl (lv_at hl 0 rfl) ?_
      refine va_get (D := D) (ci := 3) (v := .ref (ad 6)) (C := RX3) (T := TX3) (N := 11) hx hb hts iX3 hown hK.1 hP 0 rfl rfl 8 (by decide) (hts (.fieldLink RX3 42 "NamedStreams" "kept" "[LNamedStreams$Kept;") (by decide +kernel)) (fun _ h9 => h9) rfl dX3_back_12 ?_
      refine lv_iload_n hx hb dX3_back_15 rfl (lv_at hl 1 rfl) ?_
      refine va_aldq hx hb hK.1 hP 6 4 rfl rfl (ns_in (ns_nn c1) c6 (by decide)) dX3_back_16 ?_
      refine W.eq (g2 := F0 m 17 ls [.ref b]) (by rw [hKA]; rfl) ?_
      refine lv_astore_n (lv' := [(2, .ref b), (0, .ref (ad 0)), (1, .int k0)]) hx hb dX3_back_17 rfl hl (by decide) rfl (fun ls hl => ?_)
      refine lv_aload_n hx hb dX3_back_18 rfl (lv_at hl 0 rfl) ?_
      refine lv_ifnonnull (tgt := 25) hx hb dX3_back_19 (by decide) ?_
      refine lv_aload_n hx hb dX3_back_25 rfl (lv_at hl 1 rfl) ?_
      refine lv_aload_n hx hb dX3_back_26 rfl (lv_at hl 0 rfl) ?_
      obtain ⟨k1, hk1⟩ := va_pl_get (X := (wC ad ca sd tc sc tr st pz T Wt O SA KA R Ln Ky Ch X)) (L := L) (f := f) hbL
      have hk12 := hk1
      rw [hfb] at hk12
      have hPp : va_P D vwCl ((wC ad ca sd tc sc tr st pz T Wt O SA KA R Ln Ky Ch X) ++ va_pl L f) _ := hP
      have hDp : va_D A ((wC ad ca sd tc sc tr st pz T Wt O SA KA R Ln Ky Ch X) ++ va_pl L f) := hD
      refine va_get (D := D) (ci := 0) (v := .int ks) (C := RX0) (T := TX0) (N := 3) hx hb hts iX0 hown hK.1 hPp k1 hk12 rfl 0 (by decide) (hts (.fieldLink RX3 122 "NamedStreams$Kept" "stream" "I") (by decide +kernel)) (fun _ h9 => h9) rfl dX3_back_27 ?_
      refine nk_VRQ (As := [.int ks]) (rest := []) ⟨hx, hb, hml, hown, hts⟩ (mX3_streamAt l D ad ca sd tc sc tr st pz T Wt O SA KA R Ln Ky Ch (X ++ va_pl L f) ks h8) (cwV 1 hts gX3_back_X3_streamAt rfl rfl rfl (by decide +kernel) ⟨Nat.le_of_ble_eq_true rfl, Nat.le_of_ble_eq_true rfl⟩) hK hP 0 3 rfl rfl rfl rfl hl.1 rfl (Nat.le_of_ble_eq_true rfl) dX3_back_30 ⟨Nat.le_of_ble_eq_true rfl, Nat.le_of_ble_eq_true rfl⟩ (fun r2 hr2 => ?_)
      subst hr2
      refine W.eq (g2 := F0 m 33 ls [.ref a]) (by rw [hAt]; rfl) ?_
      refine lv_astore_n (lv' := [(3, .ref a), (2, .ref b), (0, .ref (ad 0)), (1, .int k0)]) hx hb dX3_back_33 rfl hl (by decide) rfl (fun ls hl => ?_)
      refine lv_aload_n hx hb dX3_back_34 rfl (lv_at hl 0 rfl) ?_
      refine lv_ifnonnull (tgt := 41) hx hb dX3_back_35 (by decide) ?_
      refine lv_aload_n hx hb dX3_back_41 rfl (lv_at hl 0 rfl) ?_
      refine lv_aload_n hx hb dX3_back_42 rfl (lv_at hl 1 rfl) ?_
      obtain ⟨k3, hk3⟩ := va_pl_get (X := (wC ad ca sd tc sc tr st pz T Wt O SA KA R Ln Ky Ch X)) (L := L) (f := f) hbL
      have hk32 := hk3
      rw [hfb] at hk32
      have hPp : va_P D vwCl ((wC ad ca sd tc sc tr st pz T Wt O SA KA R Ln Ky Ch X) ++ va_pl L f) _ := hP
      have hDp : va_D A ((wC ad ca sd tc sc tr st pz T Wt O SA KA R Ln Ky Ch X) ++ va_pl L f) := hD
      refine va_get (D := D) (ci := 0) (v := .int kp) (C := RX0) (T := TX0) (N := 3) hx hb hts iX0 hown hK.1 hPp k3 hk32 rfl 1 (by decide) (hts (.fieldLink RX3 125 "NamedStreams$Kept" "place" "I") (by decide +kernel)) (fun _ h9 => h9) rfl dX3_back_43 ?_
      obtain ⟨k4, hk4⟩ := va_pl_get (X := (wC ad ca sd tc sc tr st pz T Wt O SA KA R Ln Ky Ch X)) (L := L) (f := f) haL
      have hk42 := hk4
      rw [hfa] at hk42
      have hPp : va_P D vwCl ((wC ad ca sd tc sc tr st pz T Wt O SA KA R Ln Ky Ch X) ++ va_pl L f) _ := hP
      have hDp : va_D A ((wC ad ca sd tc sc tr st pz T Wt O SA KA R Ln Ky Ch X) ++ va_pl L f) := hD
      refine va_put (D := D) (ci := 2) (v := .int kp) (ty := .int) (C := RX2) (T := TX2) (N := 4) hx hb hts iX2 tyX2 tyX2_ok nmX2 hown hK.1 hPp hDp hS k4 hk42 rfl 2 (by decide) (hts (.fieldLink RX3 104 "NamedStreams$Stream" "place" "I") (by decide +kernel)) (fun _ h9 => h9) rfl (by decide +kernel) rfl rfl (Nat.le_of_ble_eq_true rfl) dX3_back_46 (fun H locs hP hD hS => ?_)
      have hP : va_P D vwCl (((wC ad ca sd tc sc tr st pz T Wt O SA KA R Ln Ky Ch X) ++ va_pl L f).set k4 (a, .inr (2, [.long rn, .int po, .int kp, .int sp]))) H := hP
      have hD : va_D A (((wC ad ca sd tc sc tr st pz T Wt O SA KA R Ln Ky Ch X) ++ va_pl L f).set k4 (a, .inr (2, [.long rn, .int po, .int kp, .int sp]))) := hD
      rw [va_pl_set hDp haL hk4] at hP hD
      have hP : va_P D vwCl (wC ad ca sd tc sc tr st pz T Wt O SA KA R Ln Ky Ch (X ++ va_pl L (va_up f a (.inr (2, [.long rn, .int po, .int kp, .int sp]))))) H := hP
      have hD : va_D A (wC ad ca sd tc sc tr st pz T Wt O SA KA R Ln Ky Ch (X ++ va_pl L (va_up f a (.inr (2, [.long rn, .int po, .int kp, .int sp]))))) := hD
      refine lv_aload_n hx hb dX3_back_49 rfl (lv_at hl 0 rfl) ?_
      refine lv_aload_n hx hb dX3_back_50 rfl (lv_at hl 1 rfl) ?_
      obtain ⟨k5, hk5⟩ := va_pl_get (X := (wC ad ca sd tc sc tr st pz T Wt O SA KA R Ln Ky Ch X)) (L := L) (f := (va_up f a (.inr (2, [.long rn, .int po, .int kp, .int sp])))) hbL
      have hk52 := hk5
      rw [((va_up_ne f (.inr (2, [.long rn, .int po, .int kp, .int sp])) hba).trans hfb)] at hk52
      have hPp : va_P D vwCl ((wC ad ca sd tc sc tr st pz T Wt O SA KA R Ln Ky Ch X) ++ va_pl L (va_up f a (.inr (2, [.long rn, .int po, .int kp, .int sp])))) _ := hP
      have hDp : va_D A ((wC ad ca sd tc sc tr st pz T Wt O SA KA R Ln Ky Ch X) ++ va_pl L (va_up f a (.inr (2, [.long rn, .int po, .int kp, .int sp])))) := hD
      refine va_get (D := D) (ci := 0) (v := .int kc) (C := RX0) (T := TX0) (N := 3) hx hb hts iX0 hown hK.1 hPp k5 hk52 rfl 2 (by decide) (hts (.fieldLink RX3 126 "NamedStreams$Kept" "splits" "I") (by decide +kernel)) (fun _ h9 => h9) rfl dX3_back_51 ?_
      obtain ⟨k6, hk6⟩ := va_pl_get (X := (wC ad ca sd tc sc tr st pz T Wt O SA KA R Ln Ky Ch X)) (L := L) (f := (va_up f a (.inr (2, [.long rn, .int po, .int kp, .int sp])))) haL
      have hk62 := hk6
      rw [(va_up_self f a (.inr (2, [.long rn, .int po, .int kp, .int sp])))] at hk62
      have hPp : va_P D vwCl ((wC ad ca sd tc sc tr st pz T Wt O SA KA R Ln Ky Ch X) ++ va_pl L (va_up f a (.inr (2, [.long rn, .int po, .int kp, .int sp])))) _ := hP
      have hDp : va_D A ((wC ad ca sd tc sc tr st pz T Wt O SA KA R Ln Ky Ch X) ++ va_pl L (va_up f a (.inr (2, [.long rn, .int po, .int kp, .int sp])))) := hD
      refine va_put (D := D) (ci := 2) (v := .int kc) (ty := .int) (C := RX2) (T := TX2) (N := 4) hx hb hts iX2 tyX2 tyX2_ok nmX2 hown hK.1 hPp hDp hS k6 hk62 rfl 3 (by decide) (hts (.fieldLink RX3 113 "NamedStreams$Stream" "splits" "I") (by decide +kernel)) (fun _ h9 => h9) rfl (by decide +kernel) rfl rfl (Nat.le_of_ble_eq_true rfl) dX3_back_54 (fun H locs hP hD hS => ?_)
      have hP : va_P D vwCl (((wC ad ca sd tc sc tr st pz T Wt O SA KA R Ln Ky Ch X) ++ va_pl L (va_up f a (.inr (2, [.long rn, .int po, .int kp, .int sp])))).set k6 (a, .inr (2, [.long rn, .int po, .int kp, .int kc]))) H := hP
      have hD : va_D A (((wC ad ca sd tc sc tr st pz T Wt O SA KA R Ln Ky Ch X) ++ va_pl L (va_up f a (.inr (2, [.long rn, .int po, .int kp, .int sp])))).set k6 (a, .inr (2, [.long rn, .int po, .int kp, .int kc]))) := hD
      rw [va_pl_set hDp haL hk6] at hP hD
      have hP : va_P D vwCl (wC ad ca sd tc sc tr st pz T Wt O SA KA R Ln Ky Ch (X ++ va_pl L (va_up (va_up f a (.inr (2, [.long rn, .int po, .int kp, .int sp]))) a (.inr (2, [.long rn, .int po, .int kp, .int kc]))))) H := hP
      have hD : va_D A (wC ad ca sd tc sc tr st pz T Wt O SA KA R Ln Ky Ch (X ++ va_pl L (va_up (va_up f a (.inr (2, [.long rn, .int po, .int kp, .int sp]))) a (.inr (2, [.long rn, .int po, .int kp, .int kc]))))) := hD
      refine lv_aload_n hx hb dX3_back_57 rfl (lv_at hl 1 rfl) ?_
      obtain ⟨k7, hk7⟩ := va_pl_get (X := (wC ad ca sd tc sc tr st pz T Wt O SA KA R Ln Ky Ch X)) (L := L) (f := (va_up (va_up f a (.inr (2, [.long rn, .int po, .int kp, .int sp]))) a (.inr (2, [.long rn, .int po, .int kp, .int kc])))) hbL
      have hk72 := hk7
      rw [((va_up_ne (va_up f a (.inr (2, [.long rn, .int po, .int kp, .int sp]))) (.inr (2, [.long rn, .int po, .int kp, .int kc])) hba).trans ((va_up_ne f (.inr (2, [.long rn, .int po, .int kp, .int sp])) hba).trans hfb))] at hk72
      have hPp : va_P D vwCl ((wC ad ca sd tc sc tr st pz T Wt O SA KA R Ln Ky Ch X) ++ va_pl L (va_up (va_up f a (.inr (2, [.long rn, .int po, .int kp, .int sp]))) a (.inr (2, [.long rn, .int po, .int kp, .int kc])))) _ := hP
      have hDp : va_D A ((wC ad ca sd tc sc tr st pz T Wt O SA KA R Ln Ky Ch X) ++ va_pl L (va_up (va_up f a (.inr (2, [.long rn, .int po, .int kp, .int sp]))) a (.inr (2, [.long rn, .int po, .int kp, .int kc])))) := hD
      refine va_get (D := D) (ci := 0) (v := .int ks) (C := RX0) (T := TX0) (N := 3) hx hb hts iX0 hown hK.1 hPp k7 hk72 rfl 0 (by decide) (hts (.fieldLink RX3 122 "NamedStreams$Kept" "stream" "I") (by decide +kernel)) (fun _ h9 => h9) rfl dX3_back_58 ?_
      exact nk_retI (g := _) (va_up (va_up f a (.inr (2, [.long rn, .int po, .int kp, .int sp]))) a (.inr (2, [.long rn, .int po, .int kp, .int kc]))) hx hb hr hlocks hP hD hS dX3_back_61 ⟨rfl, by simp only [bx_uu]⟩
    · skip
      exact absurd (Int32.not_le.mp hk2) c6
