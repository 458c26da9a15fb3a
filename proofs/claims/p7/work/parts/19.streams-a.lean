section NK4
variable {p : Program} {l : Launch} {e : Env} {R : Room} {s : State} {m : MethodId} {args : Array Value} {below : List Frame} {meth : Method} {c : Code} {H : Heap} {locs : List Loc} {cells slots : Nat} {Q : State → Prop}
variable {y : MethodName} {bytes cc : ByteArray} {maxL nL mc ms n index : Nat} {ws : List Cond} {rm : Room} {Ts : List Cond} {own : String} {b : Addr} {As rest st0 : List Value} {pc : Nat} {ls : Array Slot} {D : va_G} {tys : List (ClassId × FieldType)} {w : va_W} {S : Type} {g : S → va_W} {A0 : Nat → Prop} {H0 : Heap}
theorem nk_IV {post : S → Prop} (F : CallFix p m c cc nL s args Ts own) (hM : nkMV l y ws rm D tys (.ref b :: As) w g post mc ms) (cw : CallB R s args own index y bytes maxL none ws rm mc ms n ∧ y.name = "<init>" ∧ (Cond.instanceMethod y).before args s = true) (hK : nkK D tys s) (hP : va_P D vwCl w H) (hD : va_D A0 w) (hS : va_S A0 H0 H locs) (hA : ∀ q : Nat, H0.size ≤ q → A0 q) (hn : As.length = n) (hsize : ls.size = nL) (hst : st0 = As.reverse ++ .ref b :: rest) (hW : (rest.map fun v => v.category).sum ≤ 8) (hdg : decode cc pc = .ok (.invokespecial index, 3)) (hf : cells + mc ≤ R.cells ∧ slots + ms ≤ R.slots)
    (kk : ∀ (u : S) (H1 : Heap) (locs1 : List Loc), post u → va_P D vwCl (g u) H1 → va_D A0 (g u) → va_S A0 H0 H1 locs1 → W p l e R s m args below meth c H1 locs1 (cells + mc) (slots + ms) Q (F0 m (pc + 3) ls rest)) : W p l e R s m args below meth c H locs cells slots Q (F0 m pc ls st0) := by
  subst hst
  have hfree := nk_free hD hS hA
  exact va_callv (va_runI F (hM H.size) cw (nk_preM hK hP hD (.ref b :: As)) rfl hn hsize rfl (lv_room hW) hdg hf) hS (fun q _ h => hfree q h) hfree (fun u t H1 locs1 ht _ hw hB _ _ hS1 => kk u H1 locs1 hw (by rw [← ht]; exact hB.1) (hB.2.weaken (fun _ q _ h => hfree q.1 h)) hS1)
theorem nk_INV {host : String} {post : S → Prop} (F : CallFix p m c cc nL s args Ts own) (hM : nkMV l y ws rm D tys (.ref b :: As) w g post mc ms) (cw : va_CN R s args own index y host bytes maxL none ws rm mc ms n ∧ y.name = "<init>" ∧ (Cond.instanceMethod y).before args s = true) (hK : nkK D tys s) (hP : va_P D vwCl w H) (hD : va_D A0 w) (hS : va_S A0 H0 H locs) (hA : ∀ q : Nat, H0.size ≤ q → A0 q) (hn : As.length = n) (hsize : ls.size = nL) (hst : st0 = As.reverse ++ .ref b :: rest) (hW : (rest.map fun v => v.category).sum ≤ 8) (hdg : decode cc pc = .ok (.invokespecial index, 3)) (hf : cells + mc ≤ R.cells ∧ slots + ms ≤ R.slots)
    (kk : ∀ (u : S) (H1 : Heap) (locs1 : List Loc), post u → va_P D vwCl (g u) H1 → va_D A0 (g u) → va_S A0 H0 H1 locs1 → W p l e R s m args below meth c H1 locs1 (cells + mc) (slots + ms) Q (F0 m (pc + 3) ls rest)) : W p l e R s m args below meth c H locs cells slots Q (F0 m pc ls st0) := by
  subst hst
  have hfree := nk_free hD hS hA
  exact va_callv (va_runIN F (hM H.size) cw (nk_preM hK hP hD (.ref b :: As)) rfl hn hsize rfl (lv_room hW) hdg hf) hS (fun q _ h => hfree q h) hfree (fun u t H1 locs1 ht _ hw hB _ _ hS1 => kk u H1 locs1 hw (by rw [← ht]; exact hB.1) (hB.2.weaken (fun _ q _ h => hfree q.1 h)) hS1)
theorem nk_endQ {post : Option Nat → Prop} {r : Option Nat} {C : String} (hx : p.tables.exec = Jvm.exec) (hb : c.code = cc) (hr : meth.sig.returnType = some (.object C)) (hlocks : meth.locks = false) (hdg : decode cc pc = .ok (.areturn, 1)) (hw : post r) :
    W p l e R s m args below meth c s.heap [] cells slots (MQ below (va_Sq post) args s cells slots (fun _ => False)) (F0 m pc ls [va_rf r]) :=
  W.aret hx hb hr (Or.inl ⟨_, rfl⟩) (va_rf_or r) (fun t ht _ => ⟨r, rfl, hw, ht⟩) (fun _ h => absurd h List.not_mem_nil) hdg hlocks
end NK4
/-! streams and what is kept: one pool -/
abbrev eSt (rn : Int64) (po pl sp : Int32) : va_E := .inr (2, [.long rn, .int po, .int pl, .int sp])
abbrev eKp (ks kp kc : Int32) : va_E := .inr (0, [.int ks, .int kp, .int kc])
def fAt (sc : Int32) (SA : Nat → Option Nat) (i : Int32) : Option Nat := if i < 0 then none else if i < sc then SA i.toNatClampNeg else none
theorem ns_ne02 {f : Nat → va_E} {a b : Nat} {xs ys : List Value} (ha : f a = .inr (2, xs)) (hb : f b = .inr (0, ys)) : b ≠ a := by
  intro h
  rw [h, ha] at hb
  cases hb
def fNext (sd : Int64) (Ky : Nat → Int64) (n : Int64) (tr : Int32) (f : Nat → va_E) (a : Nat) (rn : Int64) (po pl sp : Int32) : Int64 × Int32 × (Nat → va_E) := if n < 0 then (-1, tr, f) else if pl = 2147483647 then (-1, tr, f) else if n = 0 then (-4, tr, f) else ((fSpan (fBase sd rn (Ky po.toNatClampNeg)) (fFirst pl) n tr).1, (fSpan (fBase sd rn (Ky po.toNatClampNeg)) (fFirst pl) n tr).2, va_up f a (eSt rn po (pl + 1) sp))
def fNPick (sd : Int64) (Ky Wt : Nat → Int64) (tr : Int32) (f : Nat → va_E) (a : Nat) (rn : Int64) (po pl sp : Int32) : Int32 × Int32 × (Nat → va_E) := if pl = 2147483647 then (-1, tr, f) else if (fPick (fBase sd rn (Ky po.toNatClampNeg)) (fFirst pl) Wt tr).1 = -4 then ((fPick (fBase sd rn (Ky po.toNatClampNeg)) (fFirst pl) Wt tr).1, (fPick (fBase sd rn (Ky po.toNatClampNeg)) (fFirst pl) Wt tr).2, f) else if (fPick (fBase sd rn (Ky po.toNatClampNeg)) (fFirst pl) Wt tr).1 = -5 then ((fPick (fBase sd rn (Ky po.toNatClampNeg)) (fFirst pl) Wt tr).1, (fPick (fBase sd rn (Ky po.toNatClampNeg)) (fFirst pl) Wt tr).2, f) else ((fPick (fBase sd rn (Ky po.toNatClampNeg)) (fFirst pl) Wt tr).1, (fPick (fBase sd rn (Ky po.toNatClampNeg)) (fFirst pl) Wt tr).2, va_up f a (eSt rn po (pl + 1) sp))
def fSkip (n : Int32) (f : Nat → va_E) (a : Nat) (rn : Int64) (po pl sp : Int32) : Int32 × (Nat → va_E) := if n < 0 then (-1, f) else if 1000000000 < n then (-1, f) else if pl ≤ 2147483647 - n then (pl + n, va_up f a (eSt rn po (pl + n) sp)) else (-1, f)
def fTold (x po pl sp : Int32) : Int32 := if x = 0 then po else if x = 1 then pl else if x = 2 then sp else -1
set_option maxHeartbeats 800000 in
set_option maxRecDepth 100000 in
theorem mX3_streamAt (l : Launch) (D : va_G) (ad : Nat → Nat) (ca : Nat → ClassId) (sd : Int64) (tc : Int32) (sc : Int32) (tr : Int32) (st : Int32) (pz : Int32) (T : Nat → Int64) (Wt : Nat → Int64) (O : Nat → Int32) (SA : Nat → Option Nat) (KA : Nat → Option Nat) (R : Nat → Int64) (Ln : Nat → Int32) (Ky : Nat → Int64) (Ch : Nat → Int64) (X : va_W) (i0 : Int32) (h8 : sc ≤ 8) : nkRQ l yX3_streamAt wsX3_streamAt ({ frames := 0, cells := 0, slots := 0, locals := 0 }) D (tC ca) [.ref (ad 0), .int i0] (wC ad ca sd tc sc tr st pz T Wt O SA KA R Ln Ky Ch X) (fun r => r = fAt sc SA i0) := by
  refine nk_ofR (cc := cX3_streamAt) (maxL := 2) (ret := (some (.object "NamedStreams$Stream"))) (by decide) rfl (Nat.le_of_ble_eq_true rfl) ?_
  intro p e s m below meth c hx hb hr hml hts hown hlocks hK hP ls hl
  replace hown : s.vm.findClass RX3 = some m.cls := hown
  replace hl : lv_has ls 2 [(0, .ref (ad 0)), (1, .int i0)] := hl
  have hP : va_P D vwCl (wC ad ca sd tc sc tr st pz T Wt O SA KA R Ln Ky Ch X) s.heap := hP
  have iX3 : ∀ w ∈ u_ws RX3 TX3 11, w ∈ wsX3_streamAt := by decide +kernel
  refine lv_iload_n hx hb dX3_streamAt_0 rfl (lv_at hl 1 rfl) ?_
  refine lv_if_lt (tgt := 12) hx hb dX3_streamAt_1 (by decide) (fun c1 => ?_) (fun c1 => ?_)
  · skip
    refine lv_null hx hb dX3_streamAt_12 ?_
    refine lv_goto (tgt := 22) hx hb dX3_streamAt_13 (by decide) ?_
    refine W.eq (g2 := F0 m 22 ls [va_rf none]) rfl ?_
    exact nk_endQ hx hb hr hlocks dX3_streamAt_22 (by exact (if_pos c1).symm)
  · skip
    refine lv_iload_n hx hb dX3_streamAt_4 rfl (lv_at hl 1 rfl) ?_
    refine lv_aload_n hx hb dX3_streamAt_5 rfl (lv_at hl 0 rfl) ?_
    refine va_get (D := D) (ci := 3) (v := .int sc) (C := RX3) (T := TX3) (N := 11) hx hb hts iX3 hown hK.1 hP 0 rfl rfl 7 (by decide) (hts (.fieldLink RX3 37 "NamedStreams" "streamCount" "I") (by decide +kernel)) (fun _ h9 => h9) rfl dX3_streamAt_6 ?_
    refine lv_icmp_lt (tgt := 16) hx hb dX3_streamAt_9 (by decide) (fun c9 => ?_) (fun c9 => ?_)
    · skip
      refine lv_aload_n hx hb dX3_streamAt_16 rfl (lv_at hl 0 rfl) ?_
      refine va_get (D := D) (ci := 3) (v := .ref (ad 5)) (C := RX3) (T := TX3) (N := 11) hx hb hts iX3 hown hK.1 hP 0 rfl rfl 6 (by decide) (hts (.fieldLink RX3 33 "NamedStreams" "streams" "[LNamedStreams$Stream;") (by decide +kernel)) (fun _ h9 => h9) rfl dX3_streamAt_17 ?_
      refine lv_iload_n hx hb dX3_streamAt_20 rfl (lv_at hl 1 rfl) ?_
      refine va_aldq hx hb hK.1 hP 5 3 rfl rfl (ns_in (ns_nn c1) (Int32.lt_of_lt_of_le c9 h8) (by decide)) dX3_streamAt_21 ?_
      refine W.eq (g2 := F0 m 22 ls [va_rf (SA (Int32.toNatClampNeg i0))]) rfl ?_
      exact nk_endQ hx hb hr hlocks dX3_streamAt_22 (by exact ((if_neg c1).trans (if_pos c9)).symm)
    · skip
      refine lv_null hx hb dX3_streamAt_12 ?_
      refine lv_goto (tgt := 22) hx hb dX3_streamAt_13 (by decide) ?_
      refine W.eq (g2 := F0 m 22 ls [va_rf none]) rfl ?_
      exact nk_endQ hx hb hr hlocks dX3_streamAt_22 (by exact ((if_neg c1).trans (if_neg c9)).symm)

set_option maxHeartbeats 800000 in
set_option maxRecDepth 100000 in
theorem mX3_next_N (l : Launch) (D : va_G) (ad : Nat → Nat) (ca : Nat → ClassId) (sd : Int64) (tc : Int32) (sc : Int32) (tr : Int32) (st : Int32) (pz : Int32) (T : Nat → Int64) (Wt : Nat → Int64) (O : Nat → Int32) (SA : Nat → Option Nat) (KA : Nat → Option Nat) (R : Nat → Int64) (Ln : Nat → Int32) (Ky : Nat → Int64) (Ch : Nat → Int64) (X : va_W) (L : List Nat) (f : Nat → va_E) (i0 : Int32) (n0 : Int64) (h8 : sc ≤ 8) (hAt : fAt sc SA i0 = none) : nkML l yX3_next wsX3_next ({ frames := 1, cells := 0, slots := 0, locals := 21 }) D (tC ca) [.ref (ad 0), .int i0, .long n0] (wC ad ca sd tc sc tr st pz T Wt O SA KA R Ln Ky Ch (X ++ va_pl L f)) (fun _ : Unit => wC ad ca sd tc sc tr st pz T Wt O SA KA R Ln Ky Ch (X ++ va_pl L f)) (fun r _ => r = -1) 0 0 := by
  refine nk_ofM (Qf := fun A => va_Ql (fun r _ => r = -1) (nkB D A (fun _ : Unit => wC ad ca sd tc sc tr st pz T Wt O SA KA R Ln Ky Ch (X ++ va_pl L f))) A) (cc := cX3_next) (maxL := 7) (ret := (some .long)) (by decide) rfl (Nat.le_of_ble_eq_true rfl) ?_
  intro p e s m below meth c A hx hb hr hml hts hown hlocks hin hK hP hD hA hS ls hl
  replace hown : s.vm.findClass RX3 = some m.cls := hown
  replace hl : lv_has ls 7 [(0, .ref (ad 0)), (1, .int i0), (2, .long n0)] := hl
  have hP : va_P D vwCl (wC ad ca sd tc sc tr st pz T Wt O SA KA R Ln Ky Ch (X ++ va_pl L f)) s.heap := hP
  have iX1 : ∀ w ∈ u_ws RX1 TX1 5, w ∈ wsX3_next := by decide +kernel
  have iX3 : ∀ w ∈ u_ws RX3 TX3 11, w ∈ wsX3_next := by decide +kernel
  have iX2 : ∀ w ∈ u_ws RX2 TX2 4, w ∈ wsX3_next := by decide +kernel
  refine lv_aload_n hx hb dX3_next_0 rfl (lv_at hl 0 rfl) ?_
  refine lv_iload_n hx hb dX3_next_1 rfl (lv_at hl 1 rfl) ?_
  refine nk_VRQ (As := [.int i0]) (rest := []) ⟨hx, hb, hml, hown, hts⟩ (mX3_streamAt l D ad ca sd tc sc tr st pz T Wt O SA KA R Ln Ky Ch (X ++ va_pl L f) i0 h8) (cwV 1 hts gX3_next_X3_streamAt rfl rfl rfl (by decide +kernel) ⟨Nat.le_of_ble_eq_true rfl, Nat.le_of_ble_eq_true rfl⟩) hK hP 0 3 rfl rfl rfl rfl hl.1 rfl (Nat.le_of_ble_eq_true rfl) dX3_next_2 ⟨Nat.le_of_ble_eq_true rfl, Nat.le_of_ble_eq_true rfl⟩ (fun r1 hr1 => ?_)
  subst hr1
  refine W.eq (g2 := F0 m 5 ls [.null]) (by rw [hAt]; rfl) ?_
  refine lv_astoreN (lv' := [(4, .null), (0, .ref (ad 0)), (1, .int i0), (2, .long n0)]) hx hb dX3_next_5 hl (by decide) rfl (fun ls hl => ?_)
  refine lv_lload_n hx hb dX3_next_7 rfl (lv_at hl 3 rfl) ?_
  refine lv_lconst (v := 0) hx hb dX3_next_8 (by decide) ?_
  refine W.lcmp hx hb dX3_next_9 ?_
  refine lv_if_lt (tgt := 28) hx hb dX3_next_10 (by decide) (fun c10 => ?_) (fun c10 => ?_)
  · skip
    have c10 : n0 < (0 : Int64) := (lg_cmp_lt _ _).mp c10
    refine lv_ldc2 (v := -1) hx hb hown (hts (.constantLong RX3 77 (-1)) (by decide +kernel)) dX3_next_28 ?_
    exact nk_retL (g := _) () hx hb hr hlocks hP hD hS dX3_next_31 rfl
  · skip
    have c10 : ¬ (n0 < (0 : Int64)) := fun h => c10 ((lg_cmp_lt _ _).mpr h)
    refine lv_aloadN hx hb dX3_next_13 (lv_at hl 0 rfl) ?_
    refine lv_ifnullN (tgt := 28) hx hb dX3_next_15 (by decide) ?_
    refine lv_ldc2 (v := -1) hx hb hown (hts (.constantLong RX3 77 (-1)) (by decide +kernel)) dX3_next_28 ?_
    exact nk_retL (g := _) () hx hb hr hlocks hP hD hS dX3_next_31 rfl

set_option maxHeartbeats 800000 in
set_option maxRecDepth 100000 in
theorem mX3_nextPick_N (l : Launch) (D : va_G) (ad : Nat → Nat) (ca : Nat → ClassId) (sd : Int64) (tc : Int32) (sc : Int32) (tr : Int32) (st : Int32) (pz : Int32) (T : Nat → Int64) (Wt : Nat → Int64) (O : Nat → Int32) (SA : Nat → Option Nat) (KA : Nat → Option Nat) (R : Nat → Int64) (Ln : Nat → Int32) (Ky : Nat → Int64) (Ch : Nat → Int64) (X : va_W) (L : List Nat) (f : Nat → va_E) (i0 : Int32)  (h8 : sc ≤ 8) (hAt : fAt sc SA i0 = none) : nkMI l yX3_nextPick wsX3_nextPick ({ frames := 1, cells := 0, slots := 0, locals := 21 }) D (tC ca) [.ref (ad 0), .int i0] (wC ad ca sd tc sc tr st pz T Wt O SA KA R Ln Ky Ch (X ++ va_pl L f)) (fun _ : Unit => wC ad ca sd tc sc tr st pz T Wt O SA KA R Ln Ky Ch (X ++ va_pl L f)) (fun r _ => r = -1) 0 0 := by
  refine nk_ofM (Qf := fun A => va_Qi (fun r _ => r = -1) (nkB D A (fun _ : Unit => wC ad ca sd tc sc tr st pz T Wt O SA KA R Ln Ky Ch (X ++ va_pl L f))) A) (cc := cX3_nextPick) (maxL := 4) (ret := (some .int)) (by decide) rfl (Nat.le_of_ble_eq_true rfl) ?_
  intro p e s m below meth c A hx hb hr hml hts hown hlocks hin hK hP hD hA hS ls hl
  replace hown : s.vm.findClass RX3 = some m.cls := hown
  replace hl : lv_has ls 4 [(0, .ref (ad 0)), (1, .int i0)] := hl
  have hP : va_P D vwCl (wC ad ca sd tc sc tr st pz T Wt O SA KA R Ln Ky Ch (X ++ va_pl L f)) s.heap := hP
  have iX1 : ∀ w ∈ u_ws RX1 TX1 5, w ∈ wsX3_nextPick := by decide +kernel
  have iX3 : ∀ w ∈ u_ws RX3 TX3 11, w ∈ wsX3_nextPick := by decide +kernel
  have iX2 : ∀ w ∈ u_ws RX2 TX2 4, w ∈ wsX3_nextPick := by decide +kernel
  refine lv_aload_n hx hb dX3_nextPick_0 rfl (lv_at hl 0 rfl) ?_
  refine lv_iload_n hx hb dX3_nextPick_1 rfl (lv_at hl 1 rfl) ?_
  refine nk_VRQ (As := [.int i0]) (rest := []) ⟨hx, hb, hml, hown, hts⟩ (mX3_streamAt l D ad ca sd tc sc tr st pz T Wt O SA KA R Ln Ky Ch (X ++ va_pl L f) i0 h8) (cwV 1 hts gX3_nextPick_X3_streamAt rfl rfl rfl (by decide +kernel) ⟨Nat.le_of_ble_eq_true rfl, Nat.le_of_ble_eq_true rfl⟩) hK hP 0 3 rfl rfl rfl rfl hl.1 rfl (Nat.le_of_ble_eq_true rfl) dX3_nextPick_2 ⟨Nat.le_of_ble_eq_true rfl, Nat.le_of_ble_eq_true rfl⟩ (fun r1 hr1 => ?_)
  subst hr1
  refine W.eq (g2 := F0 m 5 ls [.null]) (by rw [hAt]; rfl) ?_
  refine lv_astore_nN (lv' := [(2, .null), (0, .ref (ad 0)), (1, .int i0)]) hx hb dX3_nextPick_5 rfl hl (by decide) rfl (fun ls hl => ?_)
  refine lv_aload_nN hx hb dX3_nextPick_6 rfl (lv_at hl 0 rfl) ?_
  refine lv_ifnullN (tgt := 19) hx hb dX3_nextPick_7 (by decide) ?_
  refine lv_iconst (v := -1) hx hb dX3_nextPick_19 (by decide) ?_
  exact nk_retI (g := _) () hx hb hr hlocks hP hD hS dX3_nextPick_20 rfl

set_option maxHeartbeats 800000 in
set_option maxRecDepth 100000 in
theorem mX3_split_N (l : Launch) (D : va_G) (ad : Nat → Nat) (ca : Nat → ClassId) (sd : Int64) (tc : Int32) (sc : Int32) (tr : Int32) (st : Int32) (pz : Int32) (T : Nat → Int64) (Wt : Nat → Int64) (O : Nat → Int32) (SA : Nat → Option Nat) (KA : Nat → Option Nat) (R : Nat → Int64) (Ln : Nat → Int32) (Ky : Nat → Int64) (Ch : Nat → Int64) (X : va_W) (L : List Nat) (f : Nat → va_E) (i0 : Int32)  (h8 : sc ≤ 8) (hAt : fAt sc SA i0 = none) : nkMI l yX3_split wsX3_split ({ frames := 1, cells := 0, slots := 0, locals := 21 }) D (tC ca) [.ref (ad 0), .int i0] (wC ad ca sd tc sc tr st pz T Wt O SA KA R Ln Ky Ch (X ++ va_pl L f)) (fun _ : Unit => wC ad ca sd tc sc tr st pz T Wt O SA KA R Ln Ky Ch (X ++ va_pl L f)) (fun r _ => r = -1) 0 0 := by
  refine nk_ofM (Qf := fun A => va_Qi (fun r _ => r = -1) (nkB D A (fun _ : Unit => wC ad ca sd tc sc tr st pz T Wt O SA KA R Ln Ky Ch (X ++ va_pl L f))) A) (cc := cX3_split) (maxL := 4) (ret := (some .int)) (by decide) rfl (Nat.le_of_ble_eq_true rfl) ?_
  intro p e s m below meth c A hx hb hr hml hts hown hlocks hin hK hP hD hA hS ls hl
  replace hown : s.vm.findClass RX3 = some m.cls := hown
  replace hl : lv_has ls 4 [(0, .ref (ad 0)), (1, .int i0)] := hl
  have hP : va_P D vwCl (wC ad ca sd tc sc tr st pz T Wt O SA KA R Ln Ky Ch (X ++ va_pl L f)) s.heap := hP
  have iX1 : ∀ w ∈ u_ws RX1 TX1 5, w ∈ wsX3_split := by decide +kernel
  have iX3 : ∀ w ∈ u_ws RX3 TX3 11, w ∈ wsX3_split := by decide +kernel
  have iX2 : ∀ w ∈ u_ws RX2 TX2 4, w ∈ wsX3_split := by decide +kernel
  refine lv_aload_n hx hb dX3_split_0 rfl (lv_at hl 0 rfl) ?_
  refine lv_iload_n hx hb dX3_split_1 rfl (lv_at hl 1 rfl) ?_
  refine nk_VRQ (As := [.int i0]) (rest := []) ⟨hx, hb, hml, hown, hts⟩ (mX3_streamAt l D ad ca sd tc sc tr st pz T Wt O SA KA R Ln Ky Ch (X ++ va_pl L f) i0 h8) (cwV 1 hts gX3_split_X3_streamAt rfl rfl rfl (by decide +kernel) ⟨Nat.le_of_ble_eq_true rfl, Nat.le_of_ble_eq_true rfl⟩) hK hP 0 3 rfl rfl rfl rfl hl.1 rfl (Nat.le_of_ble_eq_true rfl) dX3_split_2 ⟨Nat.le_of_ble_eq_true rfl, Nat.le_of_ble_eq_true rfl⟩ (fun r1 hr1 => ?_)
  subst hr1
  refine W.eq (g2 := F0 m 5 ls [.null]) (by rw [hAt]; rfl) ?_
  refine lv_astore_nN (lv' := [(2, .null), (0, .ref (ad 0)), (1, .int i0)]) hx hb dX3_split_5 rfl hl (by decide) rfl (fun ls hl => ?_)
  refine lv_aload_nN hx hb dX3_split_6 rfl (lv_at hl 0 rfl) ?_
  refine lv_ifnonnullN hx hb dX3_split_7 ?_
  refine lv_iconst (v := -1) hx hb dX3_split_10 (by decide) ?_
  exact nk_retI (g := _) () hx hb hr hlocks hP hD hS dX3_split_11 rfl

set_option maxHeartbeats 800000 in
set_option maxRecDepth 100000 in
theorem mX3_skip_N (l : Launch) (D : va_G) (ad : Nat → Nat) (ca : Nat → ClassId) (sd : Int64) (tc : Int32) (sc : Int32) (tr : Int32) (st : Int32) (pz : Int32) (T : Nat → Int64) (Wt : Nat → Int64) (O : Nat → Int32) (SA : Nat → Option Nat) (KA : Nat → Option Nat) (R : Nat → Int64) (Ln : Nat → Int32) (Ky : Nat → Int64) (Ch : Nat → Int64) (X : va_W) (L : List Nat) (f : Nat → va_E) (i0 : Int32) (n0 : Int32) (h8 : sc ≤ 8) (hAt : fAt sc SA i0 = none) : nkMI l yX3_skip wsX3_skip ({ frames := 1, cells := 0, slots := 0, locals := 21 }) D (tC ca) [.ref (ad 0), .int i0, .int n0] (wC ad ca sd tc sc tr st pz T Wt O SA KA R Ln Ky Ch (X ++ va_pl L f)) (fun _ : Unit => wC ad ca sd tc sc tr st pz T Wt O SA KA R Ln Ky Ch (X ++ va_pl L f)) (fun r _ => r = -1) 0 0 := by
  refine nk_ofM (Qf := fun A => va_Qi (fun r _ => r = -1) (nkB D A (fun _ : Unit => wC ad ca sd tc sc tr st pz T Wt O SA KA R Ln Ky Ch (X ++ va_pl L f))) A) (cc := cX3_skip) (maxL := 4) (ret := (some .int)) (by decide) rfl (Nat.le_of_ble_eq_true rfl) ?_
  intro p e s m below meth c A hx hb hr hml hts hown hlocks hin hK hP hD hA hS ls hl
  replace hown : s.vm.findClass RX3 = some m.cls := hown
  replace hl : lv_has ls 4 [(0, .ref (ad 0)), (1, .int i0), (2, .int n0)] := hl
  have hP : va_P D vwCl (wC ad ca sd tc sc tr st pz T Wt O SA KA R Ln Ky Ch (X ++ va_pl L f)) s.heap := hP
  have iX3 : ∀ w ∈ u_ws RX3 TX3 11, w ∈ wsX3_skip := by decide +kernel
  have iX2 : ∀ w ∈ u_ws RX2 TX2 4, w ∈ wsX3_skip := by decide +kernel
  refine lv_aload_n hx hb dX3_skip_0 rfl (lv_at hl 0 rfl) ?_
  refine lv_iload_n hx hb dX3_skip_1 rfl (lv_at hl 1 rfl) ?_
  refine nk_VRQ (As := [.int i0]) (rest := []) ⟨hx, hb, hml, hown, hts⟩ (mX3_streamAt l D ad ca sd tc sc tr st pz T Wt O SA KA R Ln Ky Ch (X ++ va_pl L f) i0 h8) (cwV 1 hts gX3_skip_X3_streamAt rfl rfl rfl (by decide +kernel) ⟨Nat.le_of_ble_eq_true rfl, Nat.le_of_ble_eq_true rfl⟩) hK hP 0 3 rfl rfl rfl rfl hl.1 rfl (Nat.le_of_ble_eq_true rfl) dX3_skip_2 ⟨Nat.le_of_ble_eq_true rfl, Nat.le_of_ble_eq_true rfl⟩ (fun r1 hr1 => ?_)
  subst hr1
  refine W.eq (g2 := F0 m 5 ls [.null]) (by rw [hAt]; rfl) ?_
  refine lv_astore_nN (lv' := [(3, .null), (0, .ref (ad 0)), (1, .int i0), (2, .int n0)]) hx hb dX3_skip_5 rfl hl (by decide) rfl (fun ls hl => ?_)
  refine lv_aload_nN hx hb dX3_skip_6 rfl (lv_at hl 0 rfl) ?_
  refine lv_ifnullN (tgt := 31) hx hb dX3_skip_7 (by decide) ?_
  refine lv_iconst (v := -1) hx hb dX3_skip_31 (by decide) ?_
  exact nk_retI (g := _) () hx hb hr hlocks hP hD hS dX3_skip_32 rfl

set_option maxHeartbeats 800000 in
set_option maxRecDepth 100000 in
theorem mX3_keep_N (l : Launch) (D : va_G) (ad : Nat → Nat) (ca : Nat → ClassId) (sd : Int64) (tc : Int32) (sc : Int32) (tr : Int32) (st : Int32) (pz : Int32) (T : Nat → Int64) (Wt : Nat → Int64) (O : Nat → Int32) (SA : Nat → Option Nat) (KA : Nat → Option Nat) (R : Nat → Int64) (Ln : Nat → Int32) (Ky : Nat → Int64) (Ch : Nat → Int64) (X : va_W) (L : List Nat) (f : Nat → va_E) (i0 : Int32) (k0 : Int32) (h8 : sc ≤ 8) (hAt : fAt sc SA i0 = none) : nkMI l yX3_keep wsX3_keep ({ frames := 1, cells := 0, slots := 0, locals := 21 }) D (tC ca) [.ref (ad 0), .int k0, .int i0] (wC ad ca sd tc sc tr st pz T Wt O SA KA R Ln Ky Ch (X ++ va_pl L f)) (fun _ : Unit => wC ad ca sd tc sc tr st pz T Wt O SA KA R Ln Ky Ch (X ++ va_pl L f)) (fun r _ => r = -1) 0 0 := by
  refine nk_ofM (Qf := fun A => va_Qi (fun r _ => r = -1) (nkB D A (fun _ : Unit => wC ad ca sd tc sc tr st pz T Wt O SA KA R Ln Ky Ch (X ++ va_pl L f))) A) (cc := cX3_keep) (maxL := 5) (ret := (some .int)) (by decide) rfl (Nat.le_of_ble_eq_true rfl) ?_
  intro p e s m below meth c A hx hb hr hml hts hown hlocks hin hK hP hD hA hS ls hl
  replace hown : s.vm.findClass RX3 = some m.cls := hown
  replace hl : lv_has ls 5 [(0, .ref (ad 0)), (1, .int k0), (2, .int i0)] := hl
  have hP : va_P D vwCl (wC ad ca sd tc sc tr st pz T Wt O SA KA R Ln Ky Ch (X ++ va_pl L f)) s.heap := hP
  have iX3 : ∀ w ∈ u_ws RX3 TX3 11, w ∈ wsX3_keep := by decide +kernel
  have iX2 : ∀ w ∈ u_ws RX2 TX2 4, w ∈ wsX3_keep := by decide +kernel
  have iX0 : ∀ w ∈ u_ws RX0 TX0 3, w ∈ wsX3_keep := by decide +kernel
  refine lv_aload_n hx hb dX3_keep_0 rfl (lv_at hl 0 rfl) ?_
  refine lv_iload_n hx hb dX3_keep_1 rfl (lv_at hl 2 rfl) ?_
  refine nk_VRQ (As := [.int i0]) (rest := []) ⟨hx, hb, hml, hown, hts⟩ (mX3_streamAt l D ad ca sd tc sc tr st pz T Wt O SA KA R Ln Ky Ch (X ++ va_pl L f) i0 h8) (cwV 1 hts gX3_keep_X3_streamAt rfl rfl rfl (by decide +kernel) ⟨Nat.le_of_ble_eq_true rfl, Nat.le_of_ble_eq_true rfl⟩) hK hP 0 3 rfl rfl rfl rfl hl.1 rfl (Nat.le_of_ble_eq_true rfl) dX3_keep_2 ⟨Nat.le_of_ble_eq_true rfl, Nat.le_of_ble_eq_true rfl⟩ (fun r1 hr1 => ?_)
  subst hr1
  refine W.eq (g2 := F0 m 5 ls [.null]) (by rw [hAt]; rfl) ?_
  refine lv_astore_nN (lv' := [(3, .null), (0, .ref (ad 0)), (1, .int k0), (2, .int i0)]) hx hb dX3_keep_5 rfl hl (by decide) rfl (fun ls hl => ?_)
  refine lv_iload_n hx hb dX3_keep_6 rfl (lv_at hl 2 rfl) ?_
  refine lv_if_lt (tgt := 19) hx hb dX3_keep_7 (by decide) (fun c7 => ?_) (fun c7 => ?_)
  · skip
    refine lv_iconst (v := -1) hx hb dX3_keep_19 (by decide) ?_
    exact nk_retI (g := _) () hx hb hr hlocks hP hD hS dX3_keep_20 rfl
  · skip
    refine lv_iload_n hx hb dX3_keep_10 rfl (lv_at hl 2 rfl) ?_
    refine lv_iconst (v := 4) hx hb dX3_keep_11 (by decide) ?_
    refine lv_icmp_ge (tgt := 19) hx hb dX3_keep_12 (by decide) (fun c12 => ?_) (fun c12 => ?_)
    · skip
      refine lv_iconst (v := -1) hx hb dX3_keep_19 (by decide) ?_
      exact nk_retI (g := _) () hx hb hr hlocks hP hD hS dX3_keep_20 rfl
    · skip
      refine lv_aload_nN hx hb dX3_keep_15 rfl (lv_at hl 0 rfl) ?_
      refine lv_ifnonnullN hx hb dX3_keep_16 ?_
      refine lv_iconst (v := -1) hx hb dX3_keep_19 (by decide) ?_
      exact nk_retI (g := _) () hx hb hr hlocks hP hD hS dX3_keep_20 rfl

set_option maxHeartbeats 800000 in
set_option maxRecDepth 100000 in
theorem mX3_told_N (l : Launch) (D : va_G) (ad : Nat → Nat) (ca : Nat → ClassId) (sd : Int64) (tc : Int32) (sc : Int32) (tr : Int32) (st : Int32) (pz : Int32) (T : Nat → Int64) (Wt : Nat → Int64) (O : Nat → Int32) (SA : Nat → Option Nat) (KA : Nat → Option Nat) (R : Nat → Int64) (Ln : Nat → Int32) (Ky : Nat → Int64) (Ch : Nat → Int64) (X : va_W) (L : List Nat) (f : Nat → va_E) (i0 : Int32) (x0 : Int32) (h8 : sc ≤ 8) (hAt : fAt sc SA i0 = none) : nkRI l yX3_told wsX3_told ({ frames := 1, cells := 0, slots := 0, locals := 21 }) D (tC ca) [.ref (ad 0), .int i0, .int x0] (wC ad ca sd tc sc tr st pz T Wt O SA KA R Ln Ky Ch (X ++ va_pl L f)) (fun r => r = -1) := by
  refine nk_ofR (cc := cX3_told) (maxL := 4) (ret := (some .int)) (by decide) rfl (Nat.le_of_ble_eq_true rfl) ?_
  intro p e s m below meth c hx hb hr hml hts hown hlocks hK hP ls hl
  replace hown : s.vm.findClass RX3 = some m.cls := hown
  replace hl : lv_has ls 4 [(0, .ref (ad 0)), (1, .int i0), (2, .int x0)] := hl
  have hP : va_P D vwCl (wC ad ca sd tc sc tr st pz T Wt O SA KA R Ln Ky Ch (X ++ va_pl L f)) s.heap := hP
  have iX3 : ∀ w ∈ u_ws RX3 TX3 11, w ∈ wsX3_told := by decide +kernel
  have iX2 : ∀ w ∈ u_ws RX2 TX2 4, w ∈ wsX3_told := by decide +kernel
  refine lv_aload_n hx hb dX3_told_0 rfl (lv_at hl 0 rfl) ?_
  refine lv_iload_n hx hb dX3_told_1 rfl (lv_at hl 1 rfl) ?_
  refine nk_VRQ (As := [.int i0]) (rest := []) ⟨hx, hb, hml, hown, hts⟩ (mX3_streamAt l D ad ca sd tc sc tr st pz T Wt O SA KA R Ln Ky Ch (X ++ va_pl L f) i0 h8) (cwV 1 hts gX3_told_X3_streamAt rfl rfl rfl (by decide +kernel) ⟨Nat.le_of_ble_eq_true rfl, Nat.le_of_ble_eq_true rfl⟩) hK hP 0 3 rfl rfl rfl rfl hl.1 rfl (Nat.le_of_ble_eq_true rfl) dX3_told_2 ⟨Nat.le_of_ble_eq_true rfl, Nat.le_of_ble_eq_true rfl⟩ (fun r1 hr1 => ?_)
  subst hr1
  refine W.eq (g2 := F0 m 5 ls [.null]) (by rw [hAt]; rfl) ?_
  refine lv_astore_nN (lv' := [(3, .null), (0, .ref (ad 0)), (1, .int i0), (2, .int x0)]) hx hb dX3_told_5 rfl hl (by decide) rfl (fun ls hl => ?_)
  refine lv_aload_nN hx hb dX3_told_6 rfl (lv_at hl 0 rfl) ?_
  refine lv_ifnonnullN hx hb dX3_told_7 ?_
  refine lv_iconst (v := -1) hx hb dX3_told_10 (by decide) ?_
  exact nk_endI hx hb hr hlocks dX3_told_11 rfl

set_option maxHeartbeats 800000 in
set_option maxRecDepth 100000 in
theorem mX3_next_S (l : Launch) (D : va_G) (ad : Nat → Nat) (ca : Nat → ClassId) (sd : Int64) (tc : Int32) (sc : Int32) (tr : Int32) (st : Int32) (pz : Int32) (T : Nat → Int64) (Wt : Nat → Int64) (O : Nat → Int32) (SA : Nat → Option Nat) (KA : Nat → Option Nat) (R : Nat → Int64) (Ln : Nat → Int32) (Ky : Nat → Int64) (Ch : Nat → Int64) (X : va_W) (L : List Nat) (f : Nat → va_E) (i0 : Int32) (a : Nat) (rn : Int64) (po pl sp : Int32) (hAt : fAt sc SA i0 = some a) (haL : a ∈ L) (hfa : f a = eSt rn po pl sp) (n0 : Int64) (h8 : sc ≤ 8) (hp0 : vp_in po 24) : nkML l yX3_next wsX3_next ({ frames := 3, cells := 0, slots := 0, locals := 85 }) D (tC ca) [.ref (ad 0), .int i0, .long n0] (wC ad ca sd tc sc tr st pz T Wt O SA KA R Ln Ky Ch (X ++ va_pl L f)) (fun u : Int32 × (Nat → va_E) => wC ad ca sd tc sc u.1 st pz T Wt O SA KA R Ln Ky Ch (X ++ va_pl L u.2)) (fun r u => fNext sd Ky n0 tr f a rn po pl sp = (r, u)) 0 0 := by
  refine nk_ofM (Qf := fun A => va_Ql (fun r u => fNext sd Ky n0 tr f a rn po pl sp = (r, u)) (nkB D A (fun u : Int32 × (Nat → va_E) => wC ad ca sd tc sc u.1 st pz T Wt O SA KA R Ln Ky Ch (X ++ va_pl L u.2))) A) (cc := cX3_next) (maxL := 7) (ret := (some .long)) (by decide) rfl (Nat.le_of_ble_eq_true rfl) ?_
  intro p e s m below meth c A hx hb hr hml hts hown hlocks hin hK hP hD hA hS ls hl
  replace hown : s.vm.findClass RX3 = some m.cls := hown
  replace hl : lv_has ls 7 [(0, .ref (ad 0)), (1, .int i0), (2, .long n0)] := hl
  have hP : va_P D vwCl (wC ad ca sd tc sc tr st pz T Wt O SA KA R Ln Ky Ch (X ++ va_pl L f)) s.heap := hP
  have iX1 : ∀ w ∈ u_ws RX1 TX1 5, w ∈ wsX3_next := by decide +kernel
  have iX3 : ∀ w ∈ u_ws RX3 TX3 11, w ∈ wsX3_next := by decide +kernel
  have iX2 : ∀ w ∈ u_ws RX2 TX2 4, w ∈ wsX3_next := by decide +kernel
  refine lv_aload_n hx hb dX3_next_0 rfl (lv_at hl 0 rfl) ?_
  refine lv_iload_n hx hb dX3_next_1 rfl (lv_at hl 1 rfl) ?_
  refine nk_VRQ (As := [.int i0]) (rest := []) ⟨hx, hb, hml, hown, hts⟩ (mX3_streamAt l D ad ca sd tc sc tr st pz T Wt O SA KA R Ln Ky Ch (X ++ va_pl L f) i0 h8) (cwV 1 hts gX3_next_X3_streamAt rfl rfl rfl (by decide +kernel) ⟨Nat.le_of_ble_eq_true rfl, Nat.le_of_ble_eq_true rfl⟩) hK hP 0 3 rfl rfl rfl rfl hl.1 rfl (Nat.le_of_ble_eq_true rfl) dX3_next_2 ⟨Nat.le_of_ble_eq_true rfl, Nat.le_of_ble_eq_true rfl⟩ (fun r1 hr1 => ?_)
  subst hr1
  refine W.eq (g2 := F0 m 5 ls [.ref a]) (by rw [hAt]; rfl) ?_
  refine lv_astore (lv' := [(4, .ref a), (0, .ref (ad 0)), (1, .int i0), (2, .long n0)]) hx hb dX3_next_5 hl (by decide) rfl (fun ls hl => ?_)
  refine lv_lload_n hx hb dX3_next_7 rfl (lv_at hl 3 rfl) ?_
  refine lv_lconst (v := 0) hx hb dX3_next_8 (by decide) ?_
  refine W.lcmp hx hb dX3_next_9 ?_
  refine lv_if_lt (tgt := 28) hx hb dX3_next_10 (by decide) (fun c10 => ?_) (fun c10 => ?_)
  · skip
    have c10 : n0 < (0 : Int64) := (lg_cmp_lt _ _).mp c10
    refine lv_ldc2 (v := -1) hx hb hown (hts (.constantLong RX3 77 (-1)) (by decide +kernel)) dX3_next_28 ?_
    exact nk_retL (g := _) (tr, f) hx hb hr hlocks hP hD hS dX3_next_31 (by exact (if_pos c10))
  · skip
    have c10 : ¬ (n0 < (0 : Int64)) := fun h => c10 ((lg_cmp_lt _ _).mpr h)
    refine lv_aload hx hb dX3_next_13 (lv_at hl 0 rfl) ?_
    refine lv_ifnull hx hb dX3_next_15 ?_
    refine lv_aload hx hb dX3_next_18 (lv_at hl 0 rfl) ?_
    obtain ⟨k2, hk2⟩ := va_pl_get (X := (wC ad ca sd tc sc tr st pz T Wt O SA KA R Ln Ky Ch X)) (L := L) (f := f) haL
    have hk22 := hk2
    rw [hfa] at hk22
    have hPp : va_P D vwCl ((wC ad ca sd tc sc tr st pz T Wt O SA KA R Ln Ky Ch X) ++ va_pl L f) _ := hP
    have hDp : va_D A ((wC ad ca sd tc sc tr st pz T Wt O SA KA R Ln Ky Ch X) ++ va_pl L f) := hD
    refine va_get (D := D) (ci := 2) (v := .int pl) (C := RX2) (T := TX2) (N := 4) hx hb hts iX2 hown hK.1 hPp k2 hk22 rfl 2 (by decide) (hts (.fieldLink RX3 104 "NamedStreams$Stream" "place" "I") (by decide +kernel)) (fun _ h9 => h9) rfl dX3_next_20 ?_
    refine lv_ldc (v := 2147483647) hx hb hown (hts (.constant RX3 91 (2147483647)) (by decide +kernel)) dX3_next_23 ?_
    refine lv_icmp_ne (tgt := 32) hx hb dX3_next_25 (by decide) (fun c25 => ?_) (fun c25 => ?_)
    · skip
      refine lv_lload_n hx hb dX3_next_32 rfl (lv_at hl 3 rfl) ?_
      refine lv_lconst (v := 0) hx hb dX3_next_33 (by decide) ?_
      refine W.lcmp hx hb dX3_next_34 ?_
      refine lv_if_ne (tgt := 42) hx hb dX3_next_35 (by decide) (fun c35 => ?_) (fun c35 => ?_)
      · skip
        have c35 : ¬ (n0 = (0 : Int64)) := fun h => c35 ((lg_cmp_eq _ _).mpr h)
        refine lv_aload_n hx hb dX3_next_42 rfl (lv_at hl 1 rfl) ?_
        refine lv_aload hx hb dX3_next_43 (lv_at hl 0 rfl) ?_
        obtain ⟨k3, hk3⟩ := va_pl_get (X := (wC ad ca sd tc sc tr st pz T Wt O SA KA R Ln Ky Ch X)) (L := L) (f := f) haL
        have hk32 := hk3
        rw [hfa] at hk32
        have hPp : va_P D vwCl ((wC ad ca sd tc sc tr st pz T Wt O SA KA R Ln Ky Ch X) ++ va_pl L f) _ := hP
        have hDp : va_D A ((wC ad ca sd tc sc tr st pz T Wt O SA KA R Ln Ky Ch X) ++ va_pl L f) := hD
        refine va_get (D := D) (ci := 2) (v := .long rn) (C := RX2) (T := TX2) (N := 4) hx hb hts iX2 hown hK.1 hPp k3 hk32 rfl 0 (by decide) (hts (.fieldLink RX3 107 "NamedStreams$Stream" "run" "J") (by decide +kernel)) (fun _ h9 => h9) rfl dX3_next_45 ?_
        refine lv_aload hx hb dX3_next_48 (lv_at hl 0 rfl) ?_
        obtain ⟨k4, hk4⟩ := va_pl_get (X := (wC ad ca sd tc sc tr st pz T Wt O SA KA R Ln Ky Ch X)) (L := L) (f := f) haL
        have hk42 := hk4
        rw [hfa] at hk42
        have hPp : va_P D vwCl ((wC ad ca sd tc sc tr st pz T Wt O SA KA R Ln Ky Ch X) ++ va_pl L f) _ := hP
        have hDp : va_D A ((wC ad ca sd tc sc tr st pz T Wt O SA KA R Ln Ky Ch X) ++ va_pl L f) := hD
        refine va_get (D := D) (ci := 2) (v := .int po) (C := RX2) (T := TX2) (N := 4) hx hb hts iX2 hown hK.1 hPp k4 hk42 rfl 1 (by decide) (hts (.fieldLink RX3 110 "NamedStreams$Stream" "path" "I") (by decide +kernel)) (fun _ h9 => h9) rfl dX3_next_50 ?_
        refine lv_aload hx hb dX3_next_53 (lv_at hl 0 rfl) ?_
        obtain ⟨k5, hk5⟩ := va_pl_get (X := (wC ad ca sd tc sc tr st pz T Wt O SA KA R Ln Ky Ch X)) (L := L) (f := f) haL
        have hk52 := hk5
        rw [hfa] at hk52
        have hPp : va_P D vwCl ((wC ad ca sd tc sc tr st pz T Wt O SA KA R Ln Ky Ch X) ++ va_pl L f) _ := hP
        have hDp : va_D A ((wC ad ca sd tc sc tr st pz T Wt O SA KA R Ln Ky Ch X) ++ va_pl L f) := hD
        refine va_get (D := D) (ci := 2) (v := .int pl) (C := RX2) (T := TX2) (N := 4) hx hb hts iX2 hown hK.1 hPp k5 hk52 rfl 2 (by decide) (hts (.fieldLink RX3 104 "NamedStreams$Stream" "place" "I") (by decide +kernel)) (fun _ h9 => h9) rfl dX3_next_55 ?_
        refine lv_lload_n hx hb dX3_next_58 rfl (lv_at hl 3 rfl) ?_
        refine nk_VL (As := [.long rn, .int po, .int pl, .long n0]) (rest := []) ⟨hx, hb, hml, hown, hts⟩ (mX3_drawSpan l D ad ca sd tc sc tr st pz T Wt O SA KA R Ln Ky Ch (X ++ va_pl L f) rn po pl n0 hp0 c35) (cwV 4 hts gX3_next_X3_drawSpan rfl rfl rfl (by decide +kernel) ⟨Nat.le_of_ble_eq_true rfl, Nat.le_of_ble_eq_true rfl⟩) hK hP hD hS hA 0 3 rfl rfl rfl rfl hl.1 rfl (Nat.le_of_ble_eq_true rfl) dX3_next_59 ⟨Nat.le_of_ble_eq_true rfl, Nat.le_of_ble_eq_true rfl⟩ (fun r6 ur6 H locs hr6 hP hD hS => ?_)
        obtain ⟨rfl, rfl⟩ : r6 = (fSpan (fBase sd rn (Ky (Int32.toNatClampNeg po))) (fFirst pl) n0 tr).1 ∧ ur6 = (fSpan (fBase sd rn (Ky (Int32.toNatClampNeg po))) (fFirst pl) n0 tr).2 := by rw [hr6]; exact ⟨rfl, rfl⟩
        have hP : va_P D vwCl (wC ad ca sd tc sc ((fSpan (fBase sd rn (Ky (Int32.toNatClampNeg po))) (fFirst pl) n0 tr).2) st pz T Wt O SA KA R Ln Ky Ch (X ++ va_pl L f)) H := hP
        have hD : va_D A (wC ad ca sd tc sc ((fSpan (fBase sd rn (Ky (Int32.toNatClampNeg po))) (fFirst pl) n0 tr).2) st pz T Wt O SA KA R Ln Ky Ch (X ++ va_pl L f)) := hD
        refine lv_topl (fun z7 ez7 => ?_)
        refine lv_lstore (lv' := [(5, .long z7), (4, .ref a), (0, .ref (ad 0)), (1, .int i0), (2, .long n0)]) hx hb dX3_next_62 hl (by decide) rfl (fun ls hl => ?_)
        refine lv_aload hx hb dX3_next_64 (lv_at hl 1 rfl) ?_
        refine lv_dup hx hb dX3_next_66 rfl ?_
        obtain ⟨k8, hk8⟩ := va_pl_get (X := (wC ad ca sd tc sc ((fSpan (fBase sd rn (Ky (Int32.toNatClampNeg po))) (fFirst pl) n0 tr).2) st pz T Wt O SA KA R Ln Ky Ch X)) (L := L) (f := f) haL
        have hk82 := hk8
        rw [hfa] at hk82
        have hPp : va_P D vwCl ((wC ad ca sd tc sc ((fSpan (fBase sd rn (Ky (Int32.toNatClampNeg po))) (fFirst pl) n0 tr).2) st pz T Wt O SA KA R Ln Ky Ch X) ++ va_pl L f) _ := hP
        have hDp : va_D A ((wC ad ca sd tc sc ((fSpan (fBase sd rn (Ky (Int32.toNatClampNeg po))) (fFirst pl) n0 tr).2) st pz T Wt O SA KA R Ln Ky Ch X) ++ va_pl L f) := hD
        refine va_get (D := D) (ci := 2) (v := .int pl) (C := RX2) (T := TX2) (N := 4) hx hb hts iX2 hown hK.1 hPp k8 hk82 rfl 2 (by decide) (hts (.fieldLink RX3 104 "NamedStreams$Stream" "place" "I") (by decide +kernel)) (fun _ h9 => h9) rfl dX3_next_67 ?_
        refine lv_iconst (v := 1) hx hb dX3_next_70 (by decide) ?_
        refine lv_iadd hx hb dX3_next_71 ?_
        refine lv_topi (fun z9 ez9 => ?_)
        obtain ⟨k10, hk10⟩ := va_pl_get (X := (wC ad ca sd tc sc ((fSpan (fBase sd rn (Ky (Int32.toNatClampNeg po))) (fFirst pl) n0 tr).2) st pz T Wt O SA KA R Ln Ky Ch X)) (L := L) (f := f) haL
        have hk102 := hk10
        rw [hfa] at hk102
        have hPp : va_P D vwCl ((wC ad ca sd tc sc ((fSpan (fBase sd rn (Ky (Int32.toNatClampNeg po))) (fFirst pl) n0 tr).2) st pz T Wt O SA KA R Ln Ky Ch X) ++ va_pl L f) _ := hP
        have hDp : va_D A ((wC ad ca sd tc sc ((fSpan (fBase sd rn (Ky (Int32.toNatClampNeg po))) (fFirst pl) n0 tr).2) st pz T Wt O SA KA R Ln Ky Ch X) ++ va_pl L f) := hD
        refine va_put (D := D) (ci := 2) (v := .int z9) (ty := .int) (C := RX2) (T := TX2) (N := 4) hx hb hts iX2 tyX2 tyX2_ok nmX2 hown hK.1 hPp hDp hS k10 hk102 rfl 2 (by decide) (hts (.fieldLink RX3 104 "NamedStreams$Stream" "place" "I") (by decide +kernel)) (fun _ h9 => h9) rfl (by decide +kernel) rfl rfl (Nat.le_of_ble_eq_true rfl) dX3_next_72 (fun H locs hP hD hS => ?_)
        have hP : va_P D vwCl (((wC ad ca sd tc sc ((fSpan (fBase sd rn (Ky (Int32.toNatClampNeg po))) (fFirst pl) n0 tr).2) st pz T Wt O SA KA R Ln Ky Ch X) ++ va_pl L f).set k10 (a, .inr (2, [.long rn, .int po, .int z9, .int sp]))) H := hP
        have hD : va_D A (((wC ad ca sd tc sc ((fSpan (fBase sd rn (Ky (Int32.toNatClampNeg po))) (fFirst pl) n0 tr).2) st pz T Wt O SA KA R Ln Ky Ch X) ++ va_pl L f).set k10 (a, .inr (2, [.long rn, .int po, .int z9, .int sp]))) := hD
        rw [va_pl_set hDp haL hk10] at hP hD
        have hP : va_P D vwCl (wC ad ca sd tc sc ((fSpan (fBase sd rn (Ky (Int32.toNatClampNeg po))) (fFirst pl) n0 tr).2) st pz T Wt O SA KA R Ln Ky Ch (X ++ va_pl L (va_up f a (.inr (2, [.long rn, .int po, .int z9, .int sp]))))) H := hP
        have hD : va_D A (wC ad ca sd tc sc ((fSpan (fBase sd rn (Ky (Int32.toNatClampNeg po))) (fFirst pl) n0 tr).2) st pz T Wt O SA KA R Ln Ky Ch (X ++ va_pl L (va_up f a (.inr (2, [.long rn, .int po, .int z9, .int sp]))))) := hD
        refine lv_lload hx hb dX3_next_75 (lv_at hl 0 rfl) ?_
        exact nk_retL (g := _) ((fSpan (fBase sd rn (Ky (Int32.toNatClampNeg po))) (fFirst pl) n0 tr).2, (va_up f a (.inr (2, [.long rn, .int po, .int z9, .int sp])))) hx hb hr hlocks hP hD hS dX3_next_77 (by subst ez7; subst ez9; exact ((if_neg c10).trans ((if_neg c25).trans (if_neg c35))))
      · skip
        have c35 : n0 = (0 : Int64) := (lg_cmp_eq _ _).mp c35
        refine lv_ldc2 (v := -4) hx hb hown (hts (.constantLong RX3 75 (-4)) (by decide +kernel)) dX3_next_38 ?_
        exact nk_retL (g := _) (tr, f) hx hb hr hlocks hP hD hS dX3_next_41 (by exact ((if_neg c10).trans ((if_neg c25).trans (if_pos c35))))
    · skip
      refine lv_ldc2 (v := -1) hx hb hown (hts (.constantLong RX3 77 (-1)) (by decide +kernel)) dX3_next_28 ?_
      exact nk_retL (g := _) (tr, f) hx hb hr hlocks hP hD hS dX3_next_31 (by exact ((if_neg c10).trans (if_pos c25)))

set_option maxHeartbeats 800000 in
set_option maxRecDepth 100000 in
theorem mX3_nextPick_S (l : Launch) (D : va_G) (ad : Nat → Nat) (ca : Nat → ClassId) (sd : Int64) (tc : Int32) (sc : Int32) (tr : Int32) (st : Int32) (pz : Int32) (T : Nat → Int64) (Wt : Nat → Int64) (O : Nat → Int32) (SA : Nat → Option Nat) (KA : Nat → Option Nat) (R : Nat → Int64) (Ln : Nat → Int32) (Ky : Nat → Int64) (Ch : Nat → Int64) (X : va_W) (L : List Nat) (f : Nat → va_E) (i0 : Int32) (a : Nat) (rn : Int64) (po pl sp : Int32) (hAt : fAt sc SA i0 = some a) (haL : a ∈ L) (hfa : f a = eSt rn po pl sp) (h8 : sc ≤ 8) (hp0 : vp_in po 24) : nkMI l yX3_nextPick wsX3_nextPick ({ frames := 4, cells := 0, slots := 0, locals := 113 }) D (tC ca) [.ref (ad 0), .int i0] (wC ad ca sd tc sc tr st pz T Wt O SA KA R Ln Ky Ch (X ++ va_pl L f)) (fun u : Int32 × (Nat → va_E) => wC ad ca sd tc sc u.1 st pz T Wt O SA KA R Ln Ky Ch (X ++ va_pl L u.2)) (fun r u => fNPick sd Ky Wt tr f a rn po pl sp = (r, u)) 0 0 := by
  refine nk_ofM (Qf := fun A => va_Qi (fun r u => fNPick sd Ky Wt tr f a rn po pl sp = (r, u)) (nkB D A (fun u : Int32 × (Nat → va_E) => wC ad ca sd tc sc u.1 st pz T Wt O SA KA R Ln Ky Ch (X ++ va_pl L u.2))) A) (cc := cX3_nextPick) (maxL := 4) (ret := (some .int)) (by decide) rfl (Nat.le_of_ble_eq_true rfl) ?_
  intro p e s m below meth c A hx hb hr hml hts hown hlocks hin hK hP hD hA hS ls hl
  replace hown : s.vm.findClass RX3 = some m.cls := hown
  replace hl : lv_has ls 4 [(0, .ref (ad 0)), (1, .int i0)] := hl
  have hP : va_P D vwCl (wC ad ca sd tc sc tr st pz T Wt O SA KA R Ln Ky Ch (X ++ va_pl L f)) s.heap := hP
  have iX1 : ∀ w ∈ u_ws RX1 TX1 5, w ∈ wsX3_nextPick := by decide +kernel
  have iX3 : ∀ w ∈ u_ws RX3 TX3 11, w ∈ wsX3_nextPick := by decide +kernel
  have iX2 : ∀ w ∈ u_ws RX2 TX2 4, w ∈ wsX3_nextPick := by decide +kernel
  refine lv_aload_n hx hb dX3_nextPick_0 rfl (lv_at hl 0 rfl) ?_
  refine lv_iload_n hx hb dX3_nextPick_1 rfl (lv_at hl 1 rfl) ?_
  refine nk_VRQ (As := [.int i0]) (rest := []) ⟨hx, hb, hml, hown, hts⟩ (mX3_streamAt l D ad ca sd tc sc tr st pz T Wt O SA KA R Ln Ky Ch (X ++ va_pl L f) i0 h8) (cwV 1 hts gX3_nextPick_X3_streamAt rfl rfl rfl (by decide +kernel) ⟨Nat.le_of_ble_eq_true rfl, Nat.le_of_ble_eq_true rfl⟩) hK hP 0 3 rfl rfl rfl rfl hl.1 rfl (Nat.le_of_ble_eq_true rfl) dX3_nextPick_2 ⟨Nat.le_of_ble_eq_true rfl, Nat.le_of_ble_eq_true rfl⟩ (fun r1 hr1 => ?_)
  subst hr1
  refine W.eq (g2 := F0 m 5 ls [.ref a]) (by rw [hAt]; rfl) ?_
  refine lv_astore_n (lv' := [(2, .ref a), (0, .ref (ad 0)), (1, .int i0)]) hx hb dX3_nextPick_5 rfl hl (by decide) rfl (fun ls hl => ?_)
  refine lv_aload_n hx hb dX3_nextPick_6 rfl (lv_at hl 0 rfl) ?_
  refine lv_ifnull hx hb dX3_nextPick_7 ?_
  refine lv_aload_n hx hb dX3_nextPick_10 rfl (lv_at hl 0 rfl) ?_
  obtain ⟨k2, hk2⟩ := va_pl_get (X := (wC ad ca sd tc sc tr st pz T Wt O SA KA R Ln Ky Ch X)) (L := L) (f := f) haL
  have hk22 := hk2
  rw [hfa] at hk22
  have hPp : va_P D vwCl ((wC ad ca sd tc sc tr st pz T Wt O SA KA R Ln Ky Ch X) ++ va_pl L f) _ := hP
  have hDp : va_D A ((wC ad ca sd tc sc tr st pz T Wt O SA KA R Ln Ky Ch X) ++ va_pl L f) := hD
  refine va_get (D := D) (ci := 2) (v := .int pl) (C := RX2) (T := TX2) (N := 4) hx hb hts iX2 hown hK.1 hPp k2 hk22 rfl 2 (by decide) (hts (.fieldLink RX3 104 "NamedStreams$Stream" "place" "I") (by decide +kernel)) (fun _ h9 => h9) rfl dX3_nextPick_11 ?_
  refine lv_ldc (v := 2147483647) hx hb hown (hts (.constant RX3 91 (2147483647)) (by decide +kernel)) dX3_nextPick_14 ?_
  refine lv_icmp_ne (tgt := 21) hx hb dX3_nextPick_16 (by decide) (fun c16 => ?_) (fun c16 => ?_)
  · skip
    refine lv_aload_n hx hb dX3_nextPick_21 rfl (lv_at hl 1 rfl) ?_
    refine lv_aload_n hx hb dX3_nextPick_22 rfl (lv_at hl 0 rfl) ?_
    obtain ⟨k3, hk3⟩ := va_pl_get (X := (wC ad ca sd tc sc tr st pz T Wt O SA KA R Ln Ky Ch X)) (L := L) (f := f) haL
    have hk32 := hk3
    rw [hfa] at hk32
    have hPp : va_P D vwCl ((wC ad ca sd tc sc tr st pz T Wt O SA KA R Ln Ky Ch X) ++ va_pl L f) _ := hP
    have hDp : va_D A ((wC ad ca sd tc sc tr st pz T Wt O SA KA R Ln Ky Ch X) ++ va_pl L f) := hD
    refine va_get (D := D) (ci := 2) (v := .long rn) (C := RX2) (T := TX2) (N := 4) hx hb hts iX2 hown hK.1 hPp k3 hk32 rfl 0 (by decide) (hts (.fieldLink RX3 107 "NamedStreams$Stream" "run" "J") (by decide +kernel)) (fun _ h9 => h9) rfl dX3_nextPick_23 ?_
    refine lv_aload_n hx hb dX3_nextPick_26 rfl (lv_at hl 0 rfl) ?_
    obtain ⟨k4, hk4⟩ := va_pl_get (X := (wC ad ca sd tc sc tr st pz T Wt O SA KA R Ln Ky Ch X)) (L := L) (f := f) haL
    have hk42 := hk4
    rw [hfa] at hk42
    have hPp : va_P D vwCl ((wC ad ca sd tc sc tr st pz T Wt O SA KA R Ln Ky Ch X) ++ va_pl L f) _ := hP
    have hDp : va_D A ((wC ad ca sd tc sc tr st pz T Wt O SA KA R Ln Ky Ch X) ++ va_pl L f) := hD
    refine va_get (D := D) (ci := 2) (v := .int po) (C := RX2) (T := TX2) (N := 4) hx hb hts iX2 hown hK.1 hPp k4 hk42 rfl 1 (by decide) (hts (.fieldLink RX3 110 "NamedStreams$Stream" "path" "I") (by decide +kernel)) (fun _ h9 => h9) rfl dX3_nextPick_27 ?_
    refine lv_aload_n hx hb dX3_nextPick_30 rfl (lv_at hl 0 rfl) ?_
    obtain ⟨k5, hk5⟩ := va_pl_get (X := (wC ad ca sd tc sc tr st pz T Wt O SA KA R Ln Ky Ch X)) (L := L) (f := f) haL
    have hk52 := hk5
    rw [hfa] at hk52
    have hPp : va_P D vwCl ((wC ad ca sd tc sc tr st pz T Wt O SA KA R Ln Ky Ch X) ++ va_pl L f) _ := hP
    have hDp : va_D A ((wC ad ca sd tc sc tr st pz T Wt O SA KA R Ln Ky Ch X) ++ va_pl L f) := hD
    refine va_get (D := D) (ci := 2) (v := .int pl) (C := RX2) (T := TX2) (N := 4) hx hb hts iX2 hown hK.1 hPp k5 hk52 rfl 2 (by decide) (hts (.fieldLink RX3 104 "NamedStreams$Stream" "place" "I") (by decide +kernel)) (fun _ h9 => h9) rfl dX3_nextPick_31 ?_
    refine nk_VI (As := [.long rn, .int po, .int pl]) (rest := []) ⟨hx, hb, hml, hown, hts⟩ (mX3_drawPick l D ad ca sd tc sc tr st pz T Wt O SA KA R Ln Ky Ch (X ++ va_pl L f) rn po pl hp0) (cwV 3 hts gX3_nextPick_X3_drawPick rfl rfl rfl (by decide +kernel) ⟨Nat.le_of_ble_eq_true rfl, Nat.le_of_ble_eq_true rfl⟩) hK hP hD hS hA 0 3 rfl rfl rfl rfl hl.1 rfl (Nat.le_of_ble_eq_true rfl) dX3_nextPick_34 ⟨Nat.le_of_ble_eq_true rfl, Nat.le_of_ble_eq_true rfl⟩ (fun r6 ur6 H locs hr6 hP hD hS => ?_)
    obtain ⟨rfl, rfl⟩ : r6 = (fPick (fBase sd rn (Ky (Int32.toNatClampNeg po))) (fFirst pl) Wt tr).1 ∧ ur6 = (fPick (fBase sd rn (Ky (Int32.toNatClampNeg po))) (fFirst pl) Wt tr).2 := by rw [hr6]; exact ⟨rfl, rfl⟩
    have hP : va_P D vwCl (wC ad ca sd tc sc ((fPick (fBase sd rn (Ky (Int32.toNatClampNeg po))) (fFirst pl) Wt tr).2) st pz T Wt O SA KA R Ln Ky Ch (X ++ va_pl L f)) H := hP
    have hD : va_D A (wC ad ca sd tc sc ((fPick (fBase sd rn (Ky (Int32.toNatClampNeg po))) (fFirst pl) Wt tr).2) st pz T Wt O SA KA R Ln Ky Ch (X ++ va_pl L f)) := hD
    refine lv_topi (fun z7 ez7 => ?_)
    refine lv_istore_n (lv' := [(3, .int z7), (2, .ref a), (0, .ref (ad 0)), (1, .int i0)]) hx hb dX3_nextPick_37 rfl hl (by decide) rfl (fun ls hl => ?_)
    refine lv_iload_n hx hb dX3_nextPick_38 rfl (lv_at hl 0 rfl) ?_
    refine lv_bipush (v := -4) hx hb dX3_nextPick_39 (by decide) ?_
    refine lv_icmp_eq (tgt := 60) hx hb dX3_nextPick_41 (by decide) (fun c41 => ?_) (fun c41 => ?_)
    · skip
      refine lv_iload_n hx hb dX3_nextPick_60 rfl (lv_at hl 0 rfl) ?_
      exact nk_retI (g := _) ((fPick (fBase sd rn (Ky (Int32.toNatClampNeg po))) (fFirst pl) Wt tr).2, f) hx hb hr hlocks hP hD hS dX3_nextPick_61 (by subst ez7; exact ((if_neg c16).trans (if_pos c41)))
    · skip
      refine lv_iload_n hx hb dX3_nextPick_44 rfl (lv_at hl 0 rfl) ?_
      refine lv_bipush (v := -5) hx hb dX3_nextPick_45 (by decide) ?_
      refine lv_icmp_eq (tgt := 60) hx hb dX3_nextPick_47 (by decide) (fun c47 => ?_) (fun c47 => ?_)
      · skip
        refine lv_iload_n hx hb dX3_nextPick_60 rfl (lv_at hl 0 rfl) ?_
        exact nk_retI (g := _) ((fPick (fBase sd rn (Ky (Int32.toNatClampNeg po))) (fFirst pl) Wt tr).2, f) hx hb hr hlocks hP hD hS dX3_nextPick_61 (by subst ez7; exact ((if_neg c16).trans ((if_neg c41).trans (if_pos c47))))
      · skip
        refine lv_aload_n hx hb dX3_nextPick_50 rfl (lv_at hl 1 rfl) ?_
        refine lv_dup hx hb dX3_nextPick_51 rfl ?_
        obtain ⟨k8, hk8⟩ := va_pl_get (X := (wC ad ca sd tc sc ((fPick (fBase sd rn (Ky (Int32.toNatClampNeg po))) (fFirst pl) Wt tr).2) st pz T Wt O SA KA R Ln Ky Ch X)) (L := L) (f := f) haL
        have hk82 := hk8
        rw [hfa] at hk82
        have hPp : va_P D vwCl ((wC ad ca sd tc sc ((fPick (fBase sd rn (Ky (Int32.toNatClampNeg po))) (fFirst pl) Wt tr).2) st pz T Wt O SA KA R Ln Ky Ch X) ++ va_pl L f) _ := hP
        have hDp : va_D A ((wC ad ca sd tc sc ((fPick (fBase sd rn (Ky (Int32.toNatClampNeg po))) (fFirst pl) Wt tr).2) st pz T Wt O SA KA R Ln Ky Ch X) ++ va_pl L f) := hD
        refine va_get (D := D) (ci := 2) (v := .int pl) (C := RX2) (T := TX2) (N := 4) hx hb hts iX2 hown hK.1 hPp k8 hk82 rfl 2 (by decide) (hts (.fieldLink RX3 104 "NamedStreams$Stream" "place" "I") (by decide +kernel)) (fun _ h9 => h9) rfl dX3_nextPick_52 ?_
        refine lv_iconst (v := 1) hx hb dX3_nextPick_55 (by decide) ?_
        refine lv_iadd hx hb dX3_nextPick_56 ?_
        refine lv_topi (fun z9 ez9 => ?_)
        obtain ⟨k10, hk10⟩ := va_pl_get (X := (wC ad ca sd tc sc ((fPick (fBase sd rn (Ky (Int32.toNatClampNeg po))) (fFirst pl) Wt tr).2) st pz T Wt O SA KA R Ln Ky Ch X)) (L := L) (f := f) haL
        have hk102 := hk10
        rw [hfa] at hk102
        have hPp : va_P D vwCl ((wC ad ca sd tc sc ((fPick (fBase sd rn (Ky (Int32.toNatClampNeg po))) (fFirst pl) Wt tr).2) st pz T Wt O SA KA R Ln Ky Ch X) ++ va_pl L f) _ := hP
        have hDp : va_D A ((wC ad ca sd tc sc ((fPick (fBase sd rn (Ky (Int32.toNatClampNeg po))) (fFirst pl) Wt tr).2) st pz T Wt O SA KA R Ln Ky Ch X) ++ va_pl L f) := hD
        refine va_put (D := D) (ci := 2) (v := .int z9) (ty := .int) (C := RX2) (T := TX2) (N := 4) hx hb hts iX2 tyX2 tyX2_ok nmX2 hown hK.1 hPp hDp hS k10 hk102 rfl 2 (by decide) (hts (.fieldLink RX3 104 "NamedStreams$Stream" "place" "I") (by decide +kernel)) (fun _ h9 => h9) rfl (by decide +kernel) rfl rfl (Nat.le_of_ble_eq_true rfl) dX3_nextPick_57 (fun H locs hP hD hS => ?_)
        have hP : va_P D vwCl (((wC ad ca sd tc sc ((fPick (fBase sd rn (Ky (Int32.toNatClampNeg po))) (fFirst pl) Wt tr).2) st pz T Wt O SA KA R Ln Ky Ch X) ++ va_pl L f).set k10 (a, .inr (2, [.long rn, .int po, .int z9, .int sp]))) H := hP
        have hD : va_D A (((wC ad ca sd tc sc ((fPick (fBase sd rn (Ky (Int32.toNatClampNeg po))) (fFirst pl) Wt tr).2) st pz T Wt O SA KA R Ln Ky Ch X) ++ va_pl L f).set k10 (a, .inr (2, [.long rn, .int po, .int z9, .int sp]))) := hD
        rw [va_pl_set hDp haL hk10] at hP hD
        have hP : va_P D vwCl (wC ad ca sd tc sc ((fPick (fBase sd rn (Ky (Int32.toNatClampNeg po))) (fFirst pl) Wt tr).2) st pz T Wt O SA KA R Ln Ky Ch (X ++ va_pl L (va_up f a (.inr (2, [.long rn, .int po, .int z9, .int sp]))))) H := hP
        have hD : va_D A (wC ad ca sd tc sc ((fPick (fBase sd rn (Ky (Int32.toNatClampNeg po))) (fFirst pl) Wt tr).2) st pz T Wt O SA KA R Ln Ky Ch (X ++ va_pl L (va_up f a (.inr (2, [.long rn, .int po, .int z9, .int sp]))))) := hD
        refine lv_iload_n hx hb dX3_nextPick_60 rfl (lv_at hl 0 rfl) ?_
        exact nk_retI (g := _) ((fPick (fBase sd rn (Ky (Int32.toNatClampNeg po))) (fFirst pl) Wt tr).2, (va_up f a (.inr (2, [.long rn, .int po, .int z9, .int sp])))) hx hb hr hlocks hP hD hS dX3_nextPick_61 (by subst ez7; subst ez9; exact ((if_neg c16).trans ((if_neg c41).trans (if_neg c47))))
  · skip
    refine lv_iconst (v := -1) hx hb dX3_nextPick_19 (by decide) ?_
    exact nk_retI (g := _) (tr, f) hx hb hr hlocks hP hD hS dX3_nextPick_20 (by exact (if_pos c16))

set_option maxHeartbeats 800000 in
set_option maxRecDepth 100000 in
theorem mX3_skip_S (l : Launch) (D : va_G) (ad : Nat → Nat) (ca : Nat → ClassId) (sd : Int64) (tc : Int32) (sc : Int32) (tr : Int32) (st : Int32) (pz : Int32) (T : Nat → Int64) (Wt : Nat → Int64) (O : Nat → Int32) (SA : Nat → Option Nat) (KA : Nat → Option Nat) (R : Nat → Int64) (Ln : Nat → Int32) (Ky : Nat → Int64) (Ch : Nat → Int64) (X : va_W) (L : List Nat) (f : Nat → va_E) (i0 : Int32) (a : Nat) (rn : Int64) (po pl sp : Int32) (hAt : fAt sc SA i0 = some a) (haL : a ∈ L) (hfa : f a = eSt rn po pl sp) (n0 : Int32) (h8 : sc ≤ 8) : nkMI l yX3_skip wsX3_skip ({ frames := 1, cells := 0, slots := 0, locals := 21 }) D (tC ca) [.ref (ad 0), .int i0, .int n0] (wC ad ca sd tc sc tr st pz T Wt O SA KA R Ln Ky Ch (X ++ va_pl L f)) (fun u : Nat → va_E => wC ad ca sd tc sc tr st pz T Wt O SA KA R Ln Ky Ch (X ++ va_pl L u)) (fun r u => fSkip n0 f a rn po pl sp = (r, u)) 0 0 := by
  refine nk_ofM (Qf := fun A => va_Qi (fun r u => fSkip n0 f a rn po pl sp = (r, u)) (nkB D A (fun u : Nat → va_E => wC ad ca sd tc sc tr st pz T Wt O SA KA R Ln Ky Ch (X ++ va_pl L u))) A) (cc := cX3_skip) (maxL := 4) (ret := (some .int)) (by decide) rfl (Nat.le_of_ble_eq_true rfl) ?_
  intro p e s m below meth c A hx hb hr hml hts hown hlocks hin hK hP hD hA hS ls hl
  replace hown : s.vm.findClass RX3 = some m.cls := hown
  replace hl : lv_has ls 4 [(0, .ref (ad 0)), (1, .int i0), (2, .int n0)] := hl
  have hP : va_P D vwCl (wC ad ca sd tc sc tr st pz T Wt O SA KA R Ln Ky Ch (X ++ va_pl L f)) s.heap := hP
  have iX3 : ∀ w ∈ u_ws RX3 TX3 11, w ∈ wsX3_skip := by decide +kernel
  have iX2 : ∀ w ∈ u_ws RX2 TX2 4, w ∈ wsX3_skip := by decide +kernel
  refine lv_aload_n hx hb dX3_skip_0 rfl (lv_at hl 0 rfl) ?_
  refine lv_iload_n hx hb dX3_skip_1 rfl (lv_at hl 1 rfl) ?_
  refine nk_VRQ (As := [.int i0]) (rest := []) ⟨hx, hb, hml, hown, hts⟩ (mX3_streamAt l D ad ca sd tc sc tr st pz T Wt O SA KA R Ln Ky Ch (X ++ va_pl L f) i0 h8) (cwV 1 hts gX3_skip_X3_streamAt rfl rfl rfl (by decide +kernel) ⟨Nat.le_of_ble_eq_true rfl, Nat.le_of_ble_eq_true rfl⟩) hK hP 0 3 rfl rfl rfl rfl hl.1 rfl (Nat.le_of_ble_eq_true rfl) dX3_skip_2 ⟨Nat.le_of_ble_eq_true rfl, Nat.le_of_ble_eq_true rfl⟩ (fun r1 hr1 => ?_)
  subst hr1
  refine W.eq (g2 := F0 m 5 ls [.ref a]) (by rw [hAt]; rfl) ?_
  refine lv_astore_n (lv' := [(3, .ref a), (0, .ref (ad 0)), (1, .int i0), (2, .int n0)]) hx hb dX3_skip_5 rfl hl (by decide) rfl (fun ls hl => ?_)
  refine lv_aload_n hx hb dX3_skip_6 rfl (lv_at hl 0 rfl) ?_
  refine lv_ifnull hx hb dX3_skip_7 ?_
  refine lv_iload_n hx hb dX3_skip_10 rfl (lv_at hl 3 rfl) ?_
  refine lv_if_lt (tgt := 31) hx hb dX3_skip_11 (by decide) (fun c11 => ?_) (fun c11 => ?_)
  · skip
    refine lv_iconst (v := -1) hx hb dX3_skip_31 (by decide) ?_
    exact nk_retI (g := _) f hx hb hr hlocks hP hD hS dX3_skip_32 (by exact (if_pos c11))
  · skip
    refine lv_iload_n hx hb dX3_skip_14 rfl (lv_at hl 3 rfl) ?_
    refine lv_ldc (v := 1000000000) hx hb hown (hts (.constant RX3 120 (1000000000)) (by decide +kernel)) dX3_skip_15 ?_
    refine lv_icmp_gt (tgt := 31) hx hb dX3_skip_17 (by decide) (fun c17 => ?_) (fun c17 => ?_)
    · skip
      refine lv_iconst (v := -1) hx hb dX3_skip_31 (by decide) ?_
      exact nk_retI (g := _) f hx hb hr hlocks hP hD hS dX3_skip_32 (by exact ((if_neg c11).trans (if_pos c17)))
    · skip
      refine lv_aload_n hx hb dX3_skip_20 rfl (lv_at hl 0 rfl) ?_
      obtain ⟨k2, hk2⟩ := va_pl_get (X := (wC ad ca sd tc sc tr st pz T Wt O SA KA R Ln Ky Ch X)) (L := L) (f := f) haL
      have hk22 := hk2
      rw [hfa] at hk22
      have hPp : va_P D vwCl ((wC ad ca sd tc sc tr st pz T Wt O SA KA R Ln Ky Ch X) ++ va_pl L f) _ := hP
      have hDp : va_D A ((wC ad ca sd tc sc tr st pz T Wt O SA KA R Ln Ky Ch X) ++ va_pl L f) := hD
      refine va_get (D := D) (ci := 2) (v := .int pl) (C := RX2) (T := TX2) (N := 4) hx hb hts iX2 hown hK.1 hPp k2 hk22 rfl 2 (by decide) (hts (.fieldLink RX3 104 "NamedStreams$Stream" "place" "I") (by decide +kernel)) (fun _ h9 => h9) rfl dX3_skip_21 ?_
      refine lv_ldc (v := 2147483647) hx hb hown (hts (.constant RX3 91 (2147483647)) (by decide +kernel)) dX3_skip_24 ?_
      refine lv_iload_n hx hb dX3_skip_26 rfl (lv_at hl 3 rfl) ?_
      refine lv_isub hx hb dX3_skip_27 ?_
      refine lv_icmp_le (tgt := 33) hx hb dX3_skip_28 (by decide) (fun c28 => ?_) (fun c28 => ?_)
      · skip
        refine lv_aload_n hx hb dX3_skip_33 rfl (lv_at hl 0 rfl) ?_
        refine lv_dup hx hb dX3_skip_34 rfl ?_
        obtain ⟨k3, hk3⟩ := va_pl_get (X := (wC ad ca sd tc sc tr st pz T Wt O SA KA R Ln Ky Ch X)) (L := L) (f := f) haL
        have hk32 := hk3
        rw [hfa] at hk32
        have hPp : va_P D vwCl ((wC ad ca sd tc sc tr st pz T Wt O SA KA R Ln Ky Ch X) ++ va_pl L f) _ := hP
        have hDp : va_D A ((wC ad ca sd tc sc tr st pz T Wt O SA KA R Ln Ky Ch X) ++ va_pl L f) := hD
        refine va_get (D := D) (ci := 2) (v := .int pl) (C := RX2) (T := TX2) (N := 4) hx hb hts iX2 hown hK.1 hPp k3 hk32 rfl 2 (by decide) (hts (.fieldLink RX3 104 "NamedStreams$Stream" "place" "I") (by decide +kernel)) (fun _ h9 => h9) rfl dX3_skip_35 ?_
        refine lv_iload_n hx hb dX3_skip_38 rfl (lv_at hl 3 rfl) ?_
        refine lv_iadd hx hb dX3_skip_39 ?_
        refine lv_topi (fun z4 ez4 => ?_)
        obtain ⟨k5, hk5⟩ := va_pl_get (X := (wC ad ca sd tc sc tr st pz T Wt O SA KA R Ln Ky Ch X)) (L := L) (f := f) haL
        have hk52 := hk5
        rw [hfa] at hk52
        have hPp : va_P D vwCl ((wC ad ca sd tc sc tr st pz T Wt O SA KA R Ln Ky Ch X) ++ va_pl L f) _ := hP
        have hDp : va_D A ((wC ad ca sd tc sc tr st pz T Wt O SA KA R Ln Ky Ch X) ++ va_pl L f) := hD
        refine va_put (D := D) (ci := 2) (v := .int z4) (ty := .int) (C := RX2) (T := TX2) (N := 4) hx hb hts iX2 tyX2 tyX2_ok nmX2 hown hK.1 hPp hDp hS k5 hk52 rfl 2 (by decide) (hts (.fieldLink RX3 104 "NamedStreams$Stream" "place" "I") (by decide +kernel)) (fun _ h9 => h9) rfl (by decide +kernel) rfl rfl (Nat.le_of_ble_eq_true rfl) dX3_skip_40 (fun H locs hP hD hS => ?_)
        have hP : va_P D vwCl (((wC ad ca sd tc sc tr st pz T Wt O SA KA R Ln Ky Ch X) ++ va_pl L f).set k5 (a, .inr (2, [.long rn, .int po, .int z4, .int sp]))) H := hP
        have hD : va_D A (((wC ad ca sd tc sc tr st pz T Wt O SA KA R Ln Ky Ch X) ++ va_pl L f).set k5 (a, .inr (2, [.long rn, .int po, .int z4, .int sp]))) := hD
        rw [va_pl_set hDp haL hk5] at hP hD
        have hP : va_P D vwCl (wC ad ca sd tc sc tr st pz T Wt O SA KA R Ln Ky Ch (X ++ va_pl L (va_up f a (.inr (2, [.long rn, .int po, .int z4, .int sp]))))) H := hP
        have hD : va_D A (wC ad ca sd tc sc tr st pz T Wt O SA KA R Ln Ky Ch (X ++ va_pl L (va_up f a (.inr (2, [.long rn, .int po, .int z4, .int sp]))))) := hD
        refine lv_aload_n hx hb dX3_skip_43 rfl (lv_at hl 0 rfl) ?_
        obtain ⟨k6, hk6⟩ := va_pl_get (X := (wC ad ca sd tc sc tr st pz T Wt O SA KA R Ln Ky Ch X)) (L := L) (f := (va_up f a (.inr (2, [.long rn, .int po, .int z4, .int sp])))) haL
        have hk62 := hk6
        rw [(va_up_self f a (.inr (2, [.long rn, .int po, .int z4, .int sp])))] at hk62
        have hPp : va_P D vwCl ((wC ad ca sd tc sc tr st pz T Wt O SA KA R Ln Ky Ch X) ++ va_pl L (va_up f a (.inr (2, [.long rn, .int po, .int z4, .int sp])))) _ := hP
        have hDp : va_D A ((wC ad ca sd tc sc tr st pz T Wt O SA KA R Ln Ky Ch X) ++ va_pl L (va_up f a (.inr (2, [.long rn, .int po, .int z4, .int sp])))) := hD
        refine va_get (D := D) (ci := 2) (v := .int z4) (C := RX2) (T := TX2) (N := 4) hx hb hts iX2 hown hK.1 hPp k6 hk62 rfl 2 (by decide) (hts (.fieldLink RX3 104 "NamedStreams$Stream" "place" "I") (by decide +kernel)) (fun _ h9 => h9) rfl dX3_skip_44 ?_
        exact nk_retI (g := _) (va_up f a (.inr (2, [.long rn, .int po, .int z4, .int sp]))) hx hb hr hlocks hP hD hS dX3_skip_47 (by subst ez4; exact ((if_neg c11).trans ((if_neg c17).trans (if_pos c28))))
      · skip
        refine lv_iconst (v := -1) hx hb dX3_skip_31 (by decide) ?_
        exact nk_retI (g := _) f hx hb hr hlocks hP hD hS dX3_skip_32 (by exact ((if_neg c11).trans ((if_neg c17).trans (if_neg c28))))

set_option maxHeartbeats 800000 in
set_option maxRecDepth 100000 in
theorem mX3_told_S (l : Launch) (D : va_G) (ad : Nat → Nat) (ca : Nat → ClassId) (sd : Int64) (tc : Int32) (sc : Int32) (tr : Int32) (st : Int32) (pz : Int32) (T : Nat → Int64) (Wt : Nat → Int64) (O : Nat → Int32) (SA : Nat → Option Nat) (KA : Nat → Option Nat) (R : Nat → Int64) (Ln : Nat → Int32) (Ky : Nat → Int64) (Ch : Nat → Int64) (X : va_W) (L : List Nat) (f : Nat → va_E) (i0 : Int32) (a : Nat) (rn : Int64) (po pl sp : Int32) (hAt : fAt sc SA i0 = some a) (haL : a ∈ L) (hfa : f a = eSt rn po pl sp) (x0 : Int32) (h8 : sc ≤ 8) : nkRI l yX3_told wsX3_told ({ frames := 1, cells := 0, slots := 0, locals := 21 }) D (tC ca) [.ref (ad 0), .int i0, .int x0] (wC ad ca sd tc sc tr st pz T Wt O SA KA R Ln Ky Ch (X ++ va_pl L f)) (fun r => r = fTold x0 po pl sp) := by
  refine nk_ofR (cc := cX3_told) (maxL := 4) (ret := (some .int)) (by decide) rfl (Nat.le_of_ble_eq_true rfl) ?_
  intro p e s m below meth c hx hb hr hml hts hown hlocks hK hP ls hl
  replace hown : s.vm.findClass RX3 = some m.cls := hown
  replace hl : lv_has ls 4 [(0, .ref (ad 0)), (1, .int i0), (2, .int x0)] := hl
  have hP : va_P D vwCl (wC ad ca sd tc sc tr st pz T Wt O SA KA R Ln Ky Ch (X ++ va_pl L f)) s.heap := hP
  have iX3 : ∀ w ∈ u_ws RX3 TX3 11, w ∈ wsX3_told := by decide +kernel
  have iX2 : ∀ w ∈ u_ws RX2 TX2 4, w ∈ wsX3_told := by decide +kernel
  refine lv_aload_n hx hb dX3_told_0 rfl (lv_at hl 0 rfl) ?_
  refine lv_iload_n hx hb dX3_told_1 rfl (lv_at hl 1 rfl) ?_
  refine nk_VRQ (As := [.int i0]) (rest := []) ⟨hx, hb, hml, hown, hts⟩ (mX3_streamAt l D ad ca sd tc sc tr st pz T Wt O SA KA R Ln Ky Ch (X ++ va_pl L f) i0 h8) (cwV 1 hts gX3_told_X3_streamAt rfl rfl rfl (by decide +kernel) ⟨Nat.le_of_ble_eq_true rfl, Nat.le_of_ble_eq_true rfl⟩) hK hP 0 3 rfl rfl rfl rfl hl.1 rfl (Nat.le_of_ble_eq_true rfl) dX3_told_2 ⟨Nat.le_of_ble_eq_true rfl, Nat.le_of_ble_eq_true rfl⟩ (fun r1 hr1 => ?_)
  subst hr1
  refine W.eq (g2 := F0 m 5 ls [.ref a]) (by rw [hAt]; rfl) ?_
  refine lv_astore_n (lv' := [(3, .ref a), (0, .ref (ad 0)), (1, .int i0), (2, .int x0)]) hx hb dX3_told_5 rfl hl (by decide) rfl (fun ls hl => ?_)
  refine lv_aload_n hx hb dX3_told_6 rfl (lv_at hl 0 rfl) ?_
  refine lv_ifnonnull (tgt := 12) hx hb dX3_told_7 (by decide) ?_
  refine lv_iload_n hx hb dX3_told_12 rfl (lv_at hl 3 rfl) ?_
  by_cases c13_0 : x0 = (0 : Int32)
  · skip
    refine lv_tableIn (tgt := 40) hx hb dX3_told_13 (by rw [c13_0]; decide) (by rw [c13_0]; decide) (by rw [c13_0]; rfl) (by decide) ?_
    refine lv_aload_n hx hb dX3_told_40 rfl (lv_at hl 0 rfl) ?_
    obtain ⟨k2, hk2⟩ := va_pl_get (X := (wC ad ca sd tc sc tr st pz T Wt O SA KA R Ln Ky Ch X)) (L := L) (f := f) haL
    have hk22 := hk2
    rw [hfa] at hk22
    have hPp : va_P D vwCl ((wC ad ca sd tc sc tr st pz T Wt O SA KA R Ln Ky Ch X) ++ va_pl L f) _ := hP
    refine va_get (D := D) (ci := 2) (v := .int po) (C := RX2) (T := TX2) (N := 4) hx hb hts iX2 hown hK.1 hPp k2 hk22 rfl 1 (by decide) (hts (.fieldLink RX3 110 "NamedStreams$Stream" "path" "I") (by decide +kernel)) (fun _ h9 => h9) rfl dX3_told_41 ?_
    exact nk_endI hx hb hr hlocks dX3_told_44 (by exact (if_pos c13_0).symm)
  · skip
    by_cases c13_1 : x0 = (1 : Int32)
    · skip
      refine lv_tableIn (tgt := 45) hx hb dX3_told_13 (by rw [c13_1]; decide) (by rw [c13_1]; decide) (by rw [c13_1]; rfl) (by decide) ?_
      refine lv_aload_n hx hb dX3_told_45 rfl (lv_at hl 0 rfl) ?_
      obtain ⟨k3, hk3⟩ := va_pl_get (X := (wC ad ca sd tc sc tr st pz T Wt O SA KA R Ln Ky Ch X)) (L := L) (f := f) haL
      have hk32 := hk3
      rw [hfa] at hk32
      have hPp : va_P D vwCl ((wC ad ca sd tc sc tr st pz T Wt O SA KA R Ln Ky Ch X) ++ va_pl L f) _ := hP
      refine va_get (D := D) (ci := 2) (v := .int pl) (C := RX2) (T := TX2) (N := 4) hx hb hts iX2 hown hK.1 hPp k3 hk32 rfl 2 (by decide) (hts (.fieldLink RX3 104 "NamedStreams$Stream" "place" "I") (by decide +kernel)) (fun _ h9 => h9) rfl dX3_told_46 ?_
      exact nk_endI hx hb hr hlocks dX3_told_49 (by exact ((if_neg c13_0).trans (if_pos c13_1)).symm)
    · skip
      by_cases c13_2 : x0 = (2 : Int32)
      · skip
        refine lv_tableIn (tgt := 50) hx hb dX3_told_13 (by rw [c13_2]; decide) (by rw [c13_2]; decide) (by rw [c13_2]; rfl) (by decide) ?_
        refine lv_aload_n hx hb dX3_told_50 rfl (lv_at hl 0 rfl) ?_
        obtain ⟨k4, hk4⟩ := va_pl_get (X := (wC ad ca sd tc sc tr st pz T Wt O SA KA R Ln Ky Ch X)) (L := L) (f := f) haL
        have hk42 := hk4
        rw [hfa] at hk42
        have hPp : va_P D vwCl ((wC ad ca sd tc sc tr st pz T Wt O SA KA R Ln Ky Ch X) ++ va_pl L f) _ := hP
        refine va_get (D := D) (ci := 2) (v := .int sp) (C := RX2) (T := TX2) (N := 4) hx hb hts iX2 hown hK.1 hPp k4 hk42 rfl 3 (by decide) (hts (.fieldLink RX3 113 "NamedStreams$Stream" "splits" "I") (by decide +kernel)) (fun _ h9 => h9) rfl dX3_told_51 ?_
        exact nk_endI hx hb hr hlocks dX3_told_54 (by exact ((if_neg c13_0).trans ((if_neg c13_1).trans (if_pos c13_2))).symm)
      · skip
        refine lv_tableOut (tgt := 55) hx hb dX3_told_13 (ns_out (by decide) (by decide) (ns_out3 c13_0 c13_1 c13_2)) (by decide) ?_
        refine lv_iconst (v := -1) hx hb dX3_told_55 (by decide) ?_
        exact nk_endI hx hb hr hlocks dX3_told_56 (by exact ((if_neg c13_0).trans ((if_neg c13_1).trans (if_neg c13_2))).symm)

set_option maxHeartbeats 800000 in
set_option maxRecDepth 100000 in
theorem mX2_init (l : Launch) (D : va_G) (tys : List (ClassId × FieldType)) (Z : va_W) (L : List Nat) (f : Nat → va_E) (a : Nat) (haL : a ∈ L) (hfa : f a = .inr (2, [.long 0, .int 0, .int 0, .int 0])) (r0 : Int64) (p0 : Int32) : nkMV l yX2_init wsX2_init ({ frames := 1, cells := 0, slots := 0, locals := 12 }) D tys [.ref a, .long r0, .int p0] (Z ++ va_pl L f) (fun u : Nat → va_E => Z ++ va_pl L u) (fun u => u = va_up f a (eSt r0 p0 0 0)) 0 0 := by
  refine nk_ofM (Qf := fun A => va_Qv (fun u => u = va_up f a (eSt r0 p0 0 0)) (nkB D A (fun u : Nat → va_E => Z ++ va_pl L u)) A) (cc := cX2_init) (maxL := 4) (ret := none) (by decide) rfl (Nat.le_of_ble_eq_true rfl) ?_
  intro p e s m below meth c A hx hb hr hml hts hown hlocks hin hK hP hD hA hS ls hl
  replace hown : s.vm.findClass RX2 = some m.cls := hown
  replace hl : lv_has ls 4 [(0, .ref a), (1, .long r0), (3, .int p0)] := hl
  have hP : va_P D vwCl (Z ++ va_pl L f) s.heap := hP
  have iX2 : ∀ w ∈ u_ws RX2 TX2 4, w ∈ wsX2_init := by decide +kernel
  refine lv_aload_n hx hb dX2_init_0 rfl (lv_at hl 0 rfl) ?_
  refine W.objInit hx hb hown (hts (.methodLink RX2 1 objectInit) (by decide +kernel)) (hts (.instanceMethod objectInit) (by decide +kernel)) (hts (.code objectInit ⟨#[0xb1]⟩ 1 none) (by decide +kernel)) rfl (by rw [hml]; exact hl.1) rfl dX2_init_1 (Nat.le_of_ble_eq_true rfl) (Nat.le_of_ble_eq_true rfl) ?_
  refine W.eq (g2 := F0 m 4 ls []) rfl ?_
  refine lv_aload_n hx hb dX2_init_4 rfl (lv_at hl 0 rfl) ?_
  refine lv_iconst (v := 0) hx hb dX2_init_5 (by decide) ?_
  obtain ⟨k1, hk1⟩ := va_pl_get (X := Z) (L := L) (f := f) haL
  have hk12 := hk1
  rw [hfa] at hk12
  have hPp : va_P D vwCl (Z ++ va_pl L f) _ := hP
  have hDp : va_D A (Z ++ va_pl L f) := hD
  refine va_put (D := D) (ci := 2) (v := .int (0 : Int32)) (ty := .int) (C := RX2) (T := TX2) (N := 4) hx hb hts iX2 tyX2 tyX2_ok nmX2 hown hK.1 hPp hDp hS k1 hk12 rfl 2 (by decide) (hts (.fieldLink RX2 7 "NamedStreams$Stream" "place" "I") (by decide +kernel)) (fun _ h9 => h9) rfl (by decide +kernel) rfl rfl (Nat.le_of_ble_eq_true rfl) dX2_init_6 (fun H locs hP hD hS => ?_)
  have hP : va_P D vwCl ((Z ++ va_pl L f).set k1 (a, .inr (2, [.long (0 : Int64), .int (0 : Int32), .int (0 : Int32), .int (0 : Int32)]))) H := hP
  have hD : va_D A ((Z ++ va_pl L f).set k1 (a, .inr (2, [.long (0 : Int64), .int (0 : Int32), .int (0 : Int32), .int (0 : Int32)]))) := hD
  rw [va_pl_set hDp haL hk1] at hP hD
  have hP : va_P D vwCl (Z ++ va_pl L (va_up f a (.inr (2, [.long (0 : Int64), .int (0 : Int32), .int (0 : Int32), .int (0 : Int32)])))) H := hP
  have hD : va_D A (Z ++ va_pl L (va_up f a (.inr (2, [.long (0 : Int64), .int (0 : Int32), .int (0 : Int32), .int (0 : Int32)])))) := hD
  refine lv_aload_n hx hb dX2_init_9 rfl (lv_at hl 0 rfl) ?_
  refine lv_iconst (v := 0) hx hb dX2_init_10 (by decide) ?_
  obtain ⟨k2, hk2⟩ := va_pl_get (X := Z) (L := L) (f := (va_up f a (.inr (2, [.long (0 : Int64), .int (0 : Int32), .int (0 : Int32), .int (0 : Int32)])))) haL
  have hk22 := hk2
  rw [(va_up_self f a (.inr (2, [.long (0 : Int64), .int (0 : Int32), .int (0 : Int32), .int (0 : Int32)])))] at hk22
  have hPp : va_P D vwCl (Z ++ va_pl L (va_up f a (.inr (2, [.long (0 : Int64), .int (0 : Int32), .int (0 : Int32), .int (0 : Int32)])))) _ := hP
  have hDp : va_D A (Z ++ va_pl L (va_up f a (.inr (2, [.long (0 : Int64), .int (0 : Int32), .int (0 : Int32), .int (0 : Int32)])))) := hD
  refine va_put (D := D) (ci := 2) (v := .int (0 : Int32)) (ty := .int) (C := RX2) (T := TX2) (N := 4) hx hb hts iX2 tyX2 tyX2_ok nmX2 hown hK.1 hPp hDp hS k2 hk22 rfl 3 (by decide) (hts (.fieldLink RX2 13 "NamedStreams$Stream" "splits" "I") (by decide +kernel)) (fun _ h9 => h9) rfl (by decide +kernel) rfl rfl (Nat.le_of_ble_eq_true rfl) dX2_init_11 (fun H locs hP hD hS => ?_)
  have hP : va_P D vwCl ((Z ++ va_pl L (va_up f a (.inr (2, [.long (0 : Int64), .int (0 : Int32), .int (0 : Int32), .int (0 : Int32)])))).set k2 (a, .inr (2, [.long (0 : Int64), .int (0 : Int32), .int (0 : Int32), .int (0 : Int32)]))) H := hP
  have hD : va_D A ((Z ++ va_pl L (va_up f a (.inr (2, [.long (0 : Int64), .int (0 : Int32), .int (0 : Int32), .int (0 : Int32)])))).set k2 (a, .inr (2, [.long (0 : Int64), .int (0 : Int32), .int (0 : Int32), .int (0 : Int32)]))) := hD
  rw [va_pl_set hDp haL hk2] at hP hD
  have hP : va_P D vwCl (Z ++ va_pl L (va_up (va_up f a (.inr (2, [.long (0 : Int64), .int (0 : Int32), .int (0 : Int32), .int (0 : Int32)]))) a (.inr (2, [.long (0 : Int64), .int (0 : Int32), .int (0 : Int32), .int (0 : Int32)])))) H := hP
  have hD : va_D A (Z ++ va_pl L (va_up (va_up f a (.inr (2, [.long (0 : Int64), .int (0 : Int32), .int (0 : Int32), .int (0 : Int32)]))) a (.inr (2, [.long (0 : Int64), .int (0 : Int32), .int (0 : Int32), .int (0 : Int32)])))) := hD
  refine lv_aload_n hx hb dX2_init_14 rfl (lv_at hl 0 rfl) ?_
  refine lv_lload_n hx hb dX2_init_15 rfl (lv_at hl 1 rfl) ?_
  obtain ⟨k3, hk3⟩ := va_pl_get (X := Z) (L := L) (f := (va_up (va_up f a (.inr (2, [.long (0 : Int64), .int (0 : Int32), .int (0 : Int32), .int (0 : Int32)]))) a (.inr (2, [.long (0 : Int64), .int (0 : Int32), .int (0 : Int32), .int (0 : Int32)])))) haL
  have hk32 := hk3
  rw [(va_up_self (va_up f a (.inr (2, [.long (0 : Int64), .int (0 : Int32), .int (0 : Int32), .int (0 : Int32)]))) a (.inr (2, [.long (0 : Int64), .int (0 : Int32), .int (0 : Int32), .int (0 : Int32)])))] at hk32
  have hPp : va_P D vwCl (Z ++ va_pl L (va_up (va_up f a (.inr (2, [.long (0 : Int64), .int (0 : Int32), .int (0 : Int32), .int (0 : Int32)]))) a (.inr (2, [.long (0 : Int64), .int (0 : Int32), .int (0 : Int32), .int (0 : Int32)])))) _ := hP
  have hDp : va_D A (Z ++ va_pl L (va_up (va_up f a (.inr (2, [.long (0 : Int64), .int (0 : Int32), .int (0 : Int32), .int (0 : Int32)]))) a (.inr (2, [.long (0 : Int64), .int (0 : Int32), .int (0 : Int32), .int (0 : Int32)])))) := hD
  refine va_putF (D := D) (ci := 2) (v := .long r0) (ty := .long) (C := RX2) (T := TX2) (N := 4) hx hb hts iX2 tyX2 tyX2_ok nmX2 hown hK.1 hPp hDp hS k3 hk32 rfl 0 (by decide) (hts (.fieldLink RX2 16 "NamedStreams$Stream" "run" "J") (by decide +kernel)) (fun _ h9 => h9) rfl hin rfl (by decide +kernel) rfl rfl (Nat.le_of_ble_eq_true rfl) dX2_init_16 (fun H locs hP hD hS => ?_)
  have hP : va_P D vwCl ((Z ++ va_pl L (va_up (va_up f a (.inr (2, [.long (0 : Int64), .int (0 : Int32), .int (0 : Int32), .int (0 : Int32)]))) a (.inr (2, [.long (0 : Int64), .int (0 : Int32), .int (0 : Int32), .int (0 : Int32)])))).set k3 (a, .inr (2, [.long r0, .int (0 : Int32), .int (0 : Int32), .int (0 : Int32)]))) H := hP
  have hD : va_D A ((Z ++ va_pl L (va_up (va_up f a (.inr (2, [.long (0 : Int64), .int (0 : Int32), .int (0 : Int32), .int (0 : Int32)]))) a (.inr (2, [.long (0 : Int64), .int (0 : Int32), .int (0 : Int32), .int (0 : Int32)])))).set k3 (a, .inr (2, [.long r0, .int (0 : Int32), .int (0 : Int32), .int (0 : Int32)]))) := hD
  rw [va_pl_set hDp haL hk3] at hP hD
  have hP : va_P D vwCl (Z ++ va_pl L (va_up (va_up (va_up f a (.inr (2, [.long (0 : Int64), .int (0 : Int32), .int (0 : Int32), .int (0 : Int32)]))) a (.inr (2, [.long (0 : Int64), .int (0 : Int32), .int (0 : Int32), .int (0 : Int32)]))) a (.inr (2, [.long r0, .int (0 : Int32), .int (0 : Int32), .int (0 : Int32)])))) H := hP
  have hD : va_D A (Z ++ va_pl L (va_up (va_up (va_up f a (.inr (2, [.long (0 : Int64), .int (0 : Int32), .int (0 : Int32), .int (0 : Int32)]))) a (.inr (2, [.long (0 : Int64), .int (0 : Int32), .int (0 : Int32), .int (0 : Int32)]))) a (.inr (2, [.long r0, .int (0 : Int32), .int (0 : Int32), .int (0 : Int32)])))) := hD
  refine lv_aload_n hx hb dX2_init_19 rfl (lv_at hl 0 rfl) ?_
  refine lv_iload_n hx hb dX2_init_20 rfl (lv_at hl 2 rfl) ?_
  obtain ⟨k4, hk4⟩ := va_pl_get (X := Z) (L := L) (f := (va_up (va_up (va_up f a (.inr (2, [.long (0 : Int64), .int (0 : Int32), .int (0 : Int32), .int (0 : Int32)]))) a (.inr (2, [.long (0 : Int64), .int (0 : Int32), .int (0 : Int32), .int (0 : Int32)]))) a (.inr (2, [.long r0, .int (0 : Int32), .int (0 : Int32), .int (0 : Int32)])))) haL
  have hk42 := hk4
  rw [(va_up_self (va_up (va_up f a (.inr (2, [.long (0 : Int64), .int (0 : Int32), .int (0 : Int32), .int (0 : Int32)]))) a (.inr (2, [.long (0 : Int64), .int (0 : Int32), .int (0 : Int32), .int (0 : Int32)]))) a (.inr (2, [.long r0, .int (0 : Int32), .int (0 : Int32), .int (0 : Int32)])))] at hk42
  have hPp : va_P D vwCl (Z ++ va_pl L (va_up (va_up (va_up f a (.inr (2, [.long (0 : Int64), .int (0 : Int32), .int (0 : Int32), .int (0 : Int32)]))) a (.inr (2, [.long (0 : Int64), .int (0 : Int32), .int (0 : Int32), .int (0 : Int32)]))) a (.inr (2, [.long r0, .int (0 : Int32), .int (0 : Int32), .int (0 : Int32)])))) _ := hP
  have hDp : va_D A (Z ++ va_pl L (va_up (va_up (va_up f a (.inr (2, [.long (0 : Int64), .int (0 : Int32), .int (0 : Int32), .int (0 : Int32)]))) a (.inr (2, [.long (0 : Int64), .int (0 : Int32), .int (0 : Int32), .int (0 : Int32)]))) a (.inr (2, [.long r0, .int (0 : Int32), .int (0 : Int32), .int (0 : Int32)])))) := hD
  refine va_putF (D := D) (ci := 2) (v := .int p0) (ty := .int) (C := RX2) (T := TX2) (N := 4) hx hb hts iX2 tyX2 tyX2_ok nmX2 hown hK.1 hPp hDp hS k4 hk42 rfl 1 (by decide) (hts (.fieldLink RX2 20 "NamedStreams$Stream" "path" "I") (by decide +kernel)) (fun _ h9 => h9) rfl hin rfl (by decide +kernel) rfl rfl (Nat.le_of_ble_eq_true rfl) dX2_init_21 (fun H locs hP hD hS => ?_)
  have hP : va_P D vwCl ((Z ++ va_pl L (va_up (va_up (va_up f a (.inr (2, [.long (0 : Int64), .int (0 : Int32), .int (0 : Int32), .int (0 : Int32)]))) a (.inr (2, [.long (0 : Int64), .int (0 : Int32), .int (0 : Int32), .int (0 : Int32)]))) a (.inr (2, [.long r0, .int (0 : Int32), .int (0 : Int32), .int (0 : Int32)])))).set k4 (a, .inr (2, [.long r0, .int p0, .int (0 : Int32), .int (0 : Int32)]))) H := hP
  have hD : va_D A ((Z ++ va_pl L (va_up (va_up (va_up f a (.inr (2, [.long (0 : Int64), .int (0 : Int32), .int (0 : Int32), .int (0 : Int32)]))) a (.inr (2, [.long (0 : Int64), .int (0 : Int32), .int (0 : Int32), .int (0 : Int32)]))) a (.inr (2, [.long r0, .int (0 : Int32), .int (0 : Int32), .int (0 : Int32)])))).set k4 (a, .inr (2, [.long r0, .int p0, .int (0 : Int32), .int (0 : Int32)]))) := hD
  rw [va_pl_set hDp haL hk4] at hP hD
  have hP : va_P D vwCl (Z ++ va_pl L (va_up (va_up (va_up (va_up f a (.inr (2, [.long (0 : Int64), .int (0 : Int32), .int (0 : Int32), .int (0 : Int32)]))) a (.inr (2, [.long (0 : Int64), .int (0 : Int32), .int (0 : Int32), .int (0 : Int32)]))) a (.inr (2, [.long r0, .int (0 : Int32), .int (0 : Int32), .int (0 : Int32)]))) a (.inr (2, [.long r0, .int p0, .int (0 : Int32), .int (0 : Int32)])))) H := hP
  have hD : va_D A (Z ++ va_pl L (va_up (va_up (va_up (va_up f a (.inr (2, [.long (0 : Int64), .int (0 : Int32), .int (0 : Int32), .int (0 : Int32)]))) a (.inr (2, [.long (0 : Int64), .int (0 : Int32), .int (0 : Int32), .int (0 : Int32)]))) a (.inr (2, [.long r0, .int (0 : Int32), .int (0 : Int32), .int (0 : Int32)]))) a (.inr (2, [.long r0, .int p0, .int (0 : Int32), .int (0 : Int32)])))) := hD
  exact nk_retV (g := _) (va_up (va_up (va_up (va_up f a (.inr (2, [.long (0 : Int64), .int (0 : Int32), .int (0 : Int32), .int (0 : Int32)]))) a (.inr (2, [.long (0 : Int64), .int (0 : Int32), .int (0 : Int32), .int (0 : Int32)]))) a (.inr (2, [.long r0, .int (0 : Int32), .int (0 : Int32), .int (0 : Int32)]))) a (.inr (2, [.long r0, .int p0, .int (0 : Int32), .int (0 : Int32)]))) hx hb hr hlocks hP hD hS dX2_init_24 (by simp only [bx_uu])

set_option maxHeartbeats 800000 in
set_option maxRecDepth 100000 in
theorem mX0_init (l : Launch) (D : va_G) (tys : List (ClassId × FieldType)) (Z : va_W) (L : List Nat) (f : Nat → va_E) (a : Nat) (haL : a ∈ L) (hfa : f a = .inr (0, [.int 0, .int 0, .int 0])) : nkMV l yX0_init wsX0_init ({ frames := 1, cells := 0, slots := 0, locals := 12 }) D tys [.ref a] (Z ++ va_pl L f) (fun u : Nat → va_E => Z ++ va_pl L u) (fun u => u = va_up f a (eKp 0 0 0)) 0 0 := by
  refine nk_ofM (Qf := fun A => va_Qv (fun u => u = va_up f a (eKp 0 0 0)) (nkB D A (fun u : Nat → va_E => Z ++ va_pl L u)) A) (cc := cX0_init) (maxL := 1) (ret := none) (by decide) rfl (Nat.le_of_ble_eq_true rfl) ?_
  intro p e s m below meth c A hx hb hr hml hts hown hlocks hin hK hP hD hA hS ls hl
  replace hown : s.vm.findClass RX0 = some m.cls := hown
  replace hl : lv_has ls 1 [(0, .ref a)] := hl
  have hP : va_P D vwCl (Z ++ va_pl L f) s.heap := hP
  have iX0 : ∀ w ∈ u_ws RX0 TX0 3, w ∈ wsX0_init := by decide +kernel
  refine lv_aload_n hx hb dX0_init_0 rfl (lv_at hl 0 rfl) ?_
  refine W.objInit hx hb hown (hts (.methodLink RX0 1 objectInit) (by decide +kernel)) (hts (.instanceMethod objectInit) (by decide +kernel)) (hts (.code objectInit ⟨#[0xb1]⟩ 1 none) (by decide +kernel)) rfl (by rw [hml]; exact hl.1) rfl dX0_init_1 (Nat.le_of_ble_eq_true rfl) (Nat.le_of_ble_eq_true rfl) ?_
  refine W.eq (g2 := F0 m 4 ls []) rfl ?_
  refine lv_aload_n hx hb dX0_init_4 rfl (lv_at hl 0 rfl) ?_
  refine lv_iconst (v := 0) hx hb dX0_init_5 (by decide) ?_
  obtain ⟨k1, hk1⟩ := va_pl_get (X := Z) (L := L) (f := f) haL
  have hk12 := hk1
  rw [hfa] at hk12
  have hPp : va_P D vwCl (Z ++ va_pl L f) _ := hP
  have hDp : va_D A (Z ++ va_pl L f) := hD
  refine va_put (D := D) (ci := 0) (v := .int (0 : Int32)) (ty := .int) (C := RX0) (T := TX0) (N := 3) hx hb hts iX0 tyX0 tyX0_ok nmX0 hown hK.1 hPp hDp hS k1 hk12 rfl 0 (by decide) (hts (.fieldLink RX0 7 "NamedStreams$Kept" "stream" "I") (by decide +kernel)) (fun _ h9 => h9) rfl (by decide +kernel) rfl rfl (Nat.le_of_ble_eq_true rfl) dX0_init_6 (fun H locs hP hD hS => ?_)
  have hP : va_P D vwCl ((Z ++ va_pl L f).set k1 (a, .inr (0, [.int (0 : Int32), .int (0 : Int32), .int (0 : Int32)]))) H := hP
  have hD : va_D A ((Z ++ va_pl L f).set k1 (a, .inr (0, [.int (0 : Int32), .int (0 : Int32), .int (0 : Int32)]))) := hD
  rw [va_pl_set hDp haL hk1] at hP hD
  have hP : va_P D vwCl (Z ++ va_pl L (va_up f a (.inr (0, [.int (0 : Int32), .int (0 : Int32), .int (0 : Int32)])))) H := hP
  have hD : va_D A (Z ++ va_pl L (va_up f a (.inr (0, [.int (0 : Int32), .int (0 : Int32), .int (0 : Int32)])))) := hD
  refine lv_aload_n hx hb dX0_init_9 rfl (lv_at hl 0 rfl) ?_
  refine lv_iconst (v := 0) hx hb dX0_init_10 (by decide) ?_
  obtain ⟨k2, hk2⟩ := va_pl_get (X := Z) (L := L) (f := (va_up f a (.inr (0, [.int (0 : Int32), .int (0 : Int32), .int (0 : Int32)])))) haL
  have hk22 := hk2
  rw [(va_up_self f a (.inr (0, [.int (0 : Int32), .int (0 : Int32), .int (0 : Int32)])))] at hk22
  have hPp : va_P D vwCl (Z ++ va_pl L (va_up f a (.inr (0, [.int (0 : Int32), .int (0 : Int32), .int (0 : Int32)])))) _ := hP
  have hDp : va_D A (Z ++ va_pl L (va_up f a (.inr (0, [.int (0 : Int32), .int (0 : Int32), .int (0 : Int32)])))) := hD
  refine va_put (D := D) (ci := 0) (v := .int (0 : Int32)) (ty := .int) (C := RX0) (T := TX0) (N := 3) hx hb hts iX0 tyX0 tyX0_ok nmX0 hown hK.1 hPp hDp hS k2 hk22 rfl 1 (by decide) (hts (.fieldLink RX0 13 "NamedStreams$Kept" "place" "I") (by decide +kernel)) (fun _ h9 => h9) rfl (by decide +kernel) rfl rfl (Nat.le_of_ble_eq_true rfl) dX0_init_11 (fun H locs hP hD hS => ?_)
  have hP : va_P D vwCl ((Z ++ va_pl L (va_up f a (.inr (0, [.int (0 : Int32), .int (0 : Int32), .int (0 : Int32)])))).set k2 (a, .inr (0, [.int (0 : Int32), .int (0 : Int32), .int (0 : Int32)]))) H := hP
  have hD : va_D A ((Z ++ va_pl L (va_up f a (.inr (0, [.int (0 : Int32), .int (0 : Int32), .int (0 : Int32)])))).set k2 (a, .inr (0, [.int (0 : Int32), .int (0 : Int32), .int (0 : Int32)]))) := hD
  rw [va_pl_set hDp haL hk2] at hP hD
  have hP : va_P D vwCl (Z ++ va_pl L (va_up (va_up f a (.inr (0, [.int (0 : Int32), .int (0 : Int32), .int (0 : Int32)]))) a (.inr (0, [.int (0 : Int32), .int (0 : Int32), .int (0 : Int32)])))) H := hP
  have hD : va_D A (Z ++ va_pl L (va_up (va_up f a (.inr (0, [.int (0 : Int32), .int (0 : Int32), .int (0 : Int32)]))) a (.inr (0, [.int (0 : Int32), .int (0 : Int32), .int (0 : Int32)])))) := hD
  refine lv_aload_n hx hb dX0_init_14 rfl (lv_at hl 0 rfl) ?_
  refine lv_iconst (v := 0) hx hb dX0_init_15 (by decide) ?_
  obtain ⟨k3, hk3⟩ := va_pl_get (X := Z) (L := L) (f := (va_up (va_up f a (.inr (0, [.int (0 : Int32), .int (0 : Int32), .int (0 : Int32)]))) a (.inr (0, [.int (0 : Int32), .int (0 : Int32), .int (0 : Int32)])))) haL
  have hk32 := hk3
  rw [(va_up_self (va_up f a (.inr (0, [.int (0 : Int32), .int (0 : Int32), .int (0 : Int32)]))) a (.inr (0, [.int (0 : Int32), .int (0 : Int32), .int (0 : Int32)])))] at hk32
  have hPp : va_P D vwCl (Z ++ va_pl L (va_up (va_up f a (.inr (0, [.int (0 : Int32), .int (0 : Int32), .int (0 : Int32)]))) a (.inr (0, [.int (0 : Int32), .int (0 : Int32), .int (0 : Int32)])))) _ := hP
  have hDp : va_D A (Z ++ va_pl L (va_up (va_up f a (.inr (0, [.int (0 : Int32), .int (0 : Int32), .int (0 : Int32)]))) a (.inr (0, [.int (0 : Int32), .int (0 : Int32), .int (0 : Int32)])))) := hD
  refine va_put (D := D) (ci := 0) (v := .int (0 : Int32)) (ty := .int) (C := RX0) (T := TX0) (N := 3) hx hb hts iX0 tyX0 tyX0_ok nmX0 hown hK.1 hPp hDp hS k3 hk32 rfl 2 (by decide) (hts (.fieldLink RX0 16 "NamedStreams$Kept" "splits" "I") (by decide +kernel)) (fun _ h9 => h9) rfl (by decide +kernel) rfl rfl (Nat.le_of_ble_eq_true rfl) dX0_init_16 (fun H locs hP hD hS => ?_)
  have hP : va_P D vwCl ((Z ++ va_pl L (va_up (va_up f a (.inr (0, [.int (0 : Int32), .int (0 : Int32), .int (0 : Int32)]))) a (.inr (0, [.int (0 : Int32), .int (0 : Int32), .int (0 : Int32)])))).set k3 (a, .inr (0, [.int (0 : Int32), .int (0 : Int32), .int (0 : Int32)]))) H := hP
  have hD : va_D A ((Z ++ va_pl L (va_up (va_up f a (.inr (0, [.int (0 : Int32), .int (0 : Int32), .int (0 : Int32)]))) a (.inr (0, [.int (0 : Int32), .int (0 : Int32), .int (0 : Int32)])))).set k3 (a, .inr (0, [.int (0 : Int32), .int (0 : Int32), .int (0 : Int32)]))) := hD
  rw [va_pl_set hDp haL hk3] at hP hD
  have hP : va_P D vwCl (Z ++ va_pl L (va_up (va_up (va_up f a (.inr (0, [.int (0 : Int32), .int (0 : Int32), .int (0 : Int32)]))) a (.inr (0, [.int (0 : Int32), .int (0 : Int32), .int (0 : Int32)]))) a (.inr (0, [.int (0 : Int32), .int (0 : Int32), .int (0 : Int32)])))) H := hP
  have hD : va_D A (Z ++ va_pl L (va_up (va_up (va_up f a (.inr (0, [.int (0 : Int32), .int (0 : Int32), .int (0 : Int32)]))) a (.inr (0, [.int (0 : Int32), .int (0 : Int32), .int (0 : Int32)]))) a (.inr (0, [.int (0 : Int32), .int (0 : Int32), .int (0 : Int32)])))) := hD
  exact nk_retV (g := _) (va_up (va_up (va_up f a (.inr (0, [.int (0 : Int32), .int (0 : Int32), .int (0 : Int32)]))) a (.inr (0, [.int (0 : Int32), .int (0 : Int32), .int (0 : Int32)]))) a (.inr (0, [.int (0 : Int32), .int (0 : Int32), .int (0 : Int32)]))) hx hb hr hlocks hP hD hS dX0_init_19 (by simp only [bx_uu])
