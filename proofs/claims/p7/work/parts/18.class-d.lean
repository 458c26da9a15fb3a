/-! paths -/
def fLikeL (R Rw : Nat → Int64) (p : Int32) (n : Nat) : Nat → Int32
  | 0 => 1
  | k + 1 => if R (p * 4 + nI (n - (k + 1))).toNatClampNeg = Rw (nI (n - (k + 1))).toNatClampNeg then fLikeL R Rw p n k else 0
def fLike (R : Nat → Int64) (Ln : Nat → Int32) (Rw : Nat → Int64) (p : Int32) (n : Nat) : Int32 := if Ln p.toNatClampNeg = nI n then fLikeL R Rw p n n else 0
def fIter {σ : Type} (step : Nat → σ → σ) : Nat → σ → σ
  | 0, x => x
  | k + 1, x => fIter step k (step k x)
theorem fIter_s {σ : Type} (step : Nat → σ → σ) (k : Nat) (x : σ) : fIter step (k + 1) x = fIter step k (step k x) := rfl
def sAdd (Rw : Nat → Int64) (z n k : Nat) (x : (Nat → Int64) × Int64) : (Nat → Int64) × Int64 := (vp_updL x.1 (nI z * 4 + nI (n - (k + 1))).toNatClampNeg (Rw (nI (n - (k + 1))).toNatClampNeg), fMix ((x.2 + (-7046029254386353131)) ^^^ Rw (nI (n - (k + 1))).toNatClampNeg))
def fAddL (Rw : Nat → Int64) (z n k : Nat) (R : Nat → Int64) (key : Int64) : (Nat → Int64) × Int64 := fIter (sAdd Rw z n) k (R, key)
theorem fAddL_s (Rw : Nat → Int64) (z n k : Nat) (R : Nat → Int64) (key : Int64) : fAddL Rw z n (k + 1) R key = fAddL Rw z n k (vp_updL R (nI z * 4 + nI (n - (k + 1))).toNatClampNeg (Rw (nI (n - (k + 1))).toNatClampNeg)) (fMix ((key + (-7046029254386353131)) ^^^ Rw (nI (n - (k + 1))).toNatClampNeg)) := fIter_s (sAdd Rw z n) k (R, key)
theorem fAddL_0 (Rw : Nat → Int64) (z n : Nat) (R : Nat → Int64) (key : Int64) : fAddL Rw z n 0 R key = (R, key) := rfl
abbrev sPth : Type := (Nat → Int64) × (Nat → Int32) × (Nat → Int64) × Int32
def fAdd (Rw R : Nat → Int64) (Ln : Nat → Int32) (Ky : Nat → Int64) (z n : Nat) : Int32 × sPth := (nI z, (fAddL Rw z n n R 0).1, upd Ln (nI z).toNatClampNeg (nI n), vp_updL Ky (nI z).toNatClampNeg (fAddL Rw z n n R 0).2, nI z + 1)
def fEntL (Rw R : Nat → Int64) (Ln : Nat → Int32) (Ky : Nat → Int64) (z n : Nat) : Nat → Int32 × sPth
  | 0 => if nI z < 24 then fAdd Rw R Ln Ky z n else (-2, R, Ln, Ky, nI z)
  | k + 1 => if fLike R Ln Rw (nI (z - (k + 1))) n = 0 then fEntL Rw R Ln Ky z n k else (nI (z - (k + 1)), R, Ln, Ky, nI z)
def fEnt (Rw R : Nat → Int64) (Ln : Nat → Int32) (Ky : Nat → Int64) (z n : Nat) : Int32 × sPth := fEntL Rw R Ln Ky z n z
def fCopy (R : Nat → Int64) (p : Int32) (n : Nat) : Nat → (Nat → Int64) → (Nat → Int64)
  | 0, C => C
  | k + 1, C => fCopy R p n k (vp_updL C (nI (n - (k + 1))).toNatClampNeg (R (p * 4 + nI (n - (k + 1))).toNatClampNeg))
def fChild (R Ch : Nat → Int64) (p : Int32) (n : Nat) (v : Int64) : Nat → Int64 := vp_updL (fCopy R p n n Ch) (nI n).toNatClampNeg v
def fEntC (R Ch : Nat → Int64) (Ln : Nat → Int32) (Ky : Nat → Int64) (z : Nat) (p : Int32) (n : Nat) (v : Int64) : Int32 × (Nat → Int64) × sPth := if nI n < 4 then ((fEnt (fChild R Ch p n v) R Ln Ky z (n + 1)).1, fChild R Ch p n v, (fEnt (fChild R Ch p n v) R Ln Ky z (n + 1)).2) else (-2, Ch, R, Ln, Ky, nI z)
def fPath (T R : Nat → Int64) (Ln : Nat → Int32) (Ky : Nat → Int64) (z t : Nat) : Int32 × Int32 × sPth := if nI t = 0 then (-1, nI t, R, Ln, Ky, nI z) else if (fEnt T R Ln Ky z t).1 = -2 then ((fEnt T R Ln Ky z t).1, nI t, (fEnt T R Ln Ky z t).2) else ((fEnt T R Ln Ky z t).1, 0, (fEnt T R Ln Ky z t).2)
theorem ns_in96 {p i m j : Nat} (hp : p < 24) (hi : i < 4) : vp_in (nI p * 4 + nI i) 96 := by
  have e : nI p * 4 + nI i = nI (p * 4 + i) := by
    rw [show (4 : Int32) = nI 4 from rfl, pk_mul, nI_add]
  rw [e]
  exact vp_in_nI (by omega) (by decide)
theorem ns_lt_of {z : Nat} {m : Int32} {n : Nat} (h : nI z < m) (hm : m = nI n) (hz : z < 2 ^ 31) (hn : n < 2 ^ 31) : z < n := by
  rw [hm] at h
  exact (nI_ltI hz hn).mp h
set_option maxHeartbeats 800000 in
set_option maxRecDepth 100000 in
theorem mX1_isLike_T (l : Launch) (D : va_G) (ad : Nat → Nat) (ca : Nat → ClassId) (sd : Int64) (tc : Int32) (sc : Int32) (tr : Int32) (st : Int32) (pz : Int32) (T : Nat → Int64) (Wt : Nat → Int64) (O : Nat → Int32) (SA : Nat → Option Nat) (KA : Nat → Option Nat) (R : Nat → Int64) (Ln : Nat → Int32) (Ky : Nat → Int64) (Ch : Nat → Int64) (X : va_W) (pp nn : Nat) (hp0 : pp < 24) (hn0 : nn ≤ 4) : nkRI l yX1_isLike wsX1_isLike ({ frames := 0, cells := 0, slots := 0, locals := 0 }) D (tC ca) [.ref (ad 2), .int (nI pp), .ref (ad 1), .int (nI nn)] (wC ad ca sd tc sc tr st pz T Wt O SA KA R Ln Ky Ch X) (fun r => r = fLike R Ln T (nI pp) nn) := by
  refine nk_ofR (cc := cX1_isLike) (maxL := 5) (ret := (some .boolean)) (by decide) rfl (Nat.le_of_ble_eq_true rfl) ?_
  intro p e s m below meth c hx hb hr hml hts hown hlocks hK hP ls hl
  replace hown : s.vm.findClass RX1 = some m.cls := hown
  replace hl : lv_has ls 5 [(0, .ref (ad 2)), (1, .int (nI pp)), (2, .ref (ad 1)), (3, .int (nI nn))] := hl
  have hP : va_P D vwCl (wC ad ca sd tc sc tr st pz T Wt O SA KA R Ln Ky Ch X) s.heap := hP
  have iX1 : ∀ w ∈ u_ws RX1 TX1 5, w ∈ wsX1_isLike := by decide +kernel
  refine lv_aload_n hx hb dX1_isLike_0 rfl (lv_at hl 0 rfl) ?_
  refine va_get (D := D) (ci := 1) (v := .ref (ad 8)) (C := RX1) (T := TX1) (N := 5) hx hb hts iX1 hown hK.1 hP 2 rfl rfl 1 (by decide) (hts (.fieldLink RX1 15 "NamedStreams$Paths" "lengths" "[I") (by decide +kernel)) (fun _ h9 => h9) rfl dX1_isLike_1 ?_
  refine lv_iload_n hx hb dX1_isLike_4 rfl (lv_at hl 1 rfl) ?_
  refine va_iald hx hb hK.1 hP 8 6 rfl rfl (vp_in_nI hp0 (by decide)) dX1_isLike_5 ?_
  refine lv_iload_n hx hb dX1_isLike_6 rfl (lv_at hl 3 rfl) ?_
  refine lv_icmp_eq (tgt := 12) hx hb dX1_isLike_7 (by decide) (fun c7 => ?_) (fun c7 => ?_)
  · skip
    refine lv_iconst (v := 0) hx hb dX1_isLike_12 (by decide) ?_
    refine lv_istore (lv' := [(4, .int (0 : Int32)), (0, .ref (ad 2)), (1, .int (nI pp)), (2, .ref (ad 1)), (3, .int (nI nn))]) hx hb dX1_isLike_13 hl (by decide) rfl (fun ls hl => ?_)
    have lp15 : ∀ (k : Nat) (i : Int32) (ls : Array Slot), k ≤ nn → i = nI (nn - k) → fLikeL R T (nI pp) nn k = fLike R Ln T (nI pp) nn → lv_has ls 5 [(4, .int i), (0, .ref (ad 2)), (1, .int (nI pp)), (2, .ref (ad 1)), (3, .int (nI nn))] → W p l e ({ frames := 0, cells := 0, slots := 0, locals := 0 } : Room) s m ([.ref (ad 2), .int (nI pp), .ref (ad 1), .int (nI nn)] : List Value).toArray below meth c s.heap [] 0 0 (MQ below (vp_Si (fun r => r = fLike R Ln T (nI pp) nn)) ([.ref (ad 2), .int (nI pp), .ref (ad 1), .int (nI nn)] : List Value).toArray s 0 0 (fun _ => False)) (F0 m 15 ls []) := by
      intro k
      induction k with
      | zero =>
        intro i ls hk hi ht hl
        refine lv_iload hx hb dX1_isLike_15 (lv_at hl 0 rfl) ?_
        refine lv_iload_n hx hb dX1_isLike_17 rfl (lv_at hl 4 rfl) ?_
        refine lv_icmp_ge (tgt := 48) hx hb dX1_isLike_18 (by decide) (fun c18 => ?_) (fun c18 => ?_)
        · skip
          refine lv_iconst (v := 1) hx hb dX1_isLike_48 (by decide) ?_
          exact nk_endZ hx hb hr hlocks (by first | rfl | decide) dX1_isLike_49 (by rw [← ht]; rfl)
        · skip
          exact absurd (by rw [hi]; exact nI_le (by omega) (by omega)) c18
      | succ k ih15 =>
        intro i ls hk hi ht hl
        refine lv_iload hx hb dX1_isLike_15 (lv_at hl 0 rfl) ?_
        refine lv_iload_n hx hb dX1_isLike_17 rfl (lv_at hl 4 rfl) ?_
        refine lv_icmp_ge (tgt := 48) hx hb dX1_isLike_18 (by decide) (fun c18 => ?_) (fun c18 => ?_)
        · skip
          exact absurd c18 (Int32.not_le.mpr (by rw [hi]; exact nI_lt (by omega) (by omega)))
        · skip
          refine lv_aload_n hx hb dX1_isLike_21 rfl (lv_at hl 1 rfl) ?_
          refine va_get (D := D) (ci := 1) (v := .ref (ad 7)) (C := RX1) (T := TX1) (N := 5) hx hb hts iX1 hown hK.1 hP 2 rfl rfl 0 (by decide) (hts (.fieldLink RX1 9 "NamedStreams$Paths" "rows" "[J") (by decide +kernel)) (fun _ h9 => h9) rfl dX1_isLike_22 ?_
          refine lv_iload_n hx hb dX1_isLike_25 rfl (lv_at hl 2 rfl) ?_
          refine lv_iconst (v := 4) hx hb dX1_isLike_26 (by decide) ?_
          refine lv_imul hx hb dX1_isLike_27 ?_
          refine lv_iload hx hb dX1_isLike_28 (lv_at hl 0 rfl) ?_
          refine lv_iadd hx hb dX1_isLike_30 ?_
          refine va_lald hx hb hK.1 hP 7 5 rfl rfl (by rw [hi]; exact ns_in96 (m := 0) (j := 0) hp0 (by omega)) dX1_isLike_31 ?_
          refine lv_aload_n hx hb dX1_isLike_32 rfl (lv_at hl 3 rfl) ?_
          refine lv_iload hx hb dX1_isLike_33 (lv_at hl 0 rfl) ?_
          refine va_lald hx hb hK.1 hP 1 0 rfl rfl (by rw [hi]; exact vp_in_nI (by omega) (by decide)) dX1_isLike_35 ?_
          refine W.lcmp hx hb dX1_isLike_36 ?_
          refine lv_if_eq (tgt := 42) hx hb dX1_isLike_37 (by decide) (fun c37 => ?_) (fun c37 => ?_)
          · skip
            have c37 : (R (Int32.toNatClampNeg (((nI pp) * (4 : Int32)) + i))) = (T (Int32.toNatClampNeg i)) := (lg_cmp_eq _ _).mp c37
            obtain ⟨i1, ei1⟩ : ∃ y : Int32, y = i + 1 := ⟨_, rfl⟩
            refine lv_iinc (v := i1) (lv' := [(4, .int i1), (0, .ref (ad 2)), (1, .int (nI pp)), (2, .ref (ad 1)), (3, .int (nI nn))]) hx hb dX1_isLike_42 hl (k := 0) rfl (by rw [ei1]; rfl) (by decide) rfl (fun ls hl => ?_)
            refine lv_goto (tgt := 15) hx hb dX1_isLike_45 (by decide) ?_
            exact ih15 i1 _ (Nat.le_of_succ_le hk) (ns_step hi hk ei1) (by subst hi; rw [← ht, fLikeL, if_pos c37]) (lv_sub hl [0, 1, 2, 3, 4] rfl)
          · skip
            have c37 : ¬ ((R (Int32.toNatClampNeg (((nI pp) * (4 : Int32)) + i))) = (T (Int32.toNatClampNeg i))) := fun h => c37 ((lg_cmp_eq _ _).mpr h)
            refine lv_iconst (v := 0) hx hb dX1_isLike_40 (by decide) ?_
            exact nk_endZ hx hb hr hlocks (by first | rfl | decide) dX1_isLike_41 (by subst hi; rw [← ht, fLikeL, if_neg c37])
    exact lp15 nn (0 : Int32) _ (Nat.le_refl nn) (by rw [Nat.sub_self]; rfl) ((if_pos c7).symm) (lv_sub hl [0, 1, 2, 3, 4] rfl)
  · skip
    refine lv_iconst (v := 0) hx hb dX1_isLike_10 (by decide) ?_
    exact nk_endZ hx hb hr hlocks (by first | rfl | decide) dX1_isLike_11 (by exact (if_neg c7).symm)

set_option maxHeartbeats 800000 in
set_option maxRecDepth 100000 in
theorem mX1_add_T (l : Launch) (D : va_G) (ad : Nat → Nat) (ca : Nat → ClassId) (sd : Int64) (tc : Int32) (sc : Int32) (tr : Int32) (st : Int32) (T : Nat → Int64) (Wt : Nat → Int64) (O : Nat → Int32) (SA : Nat → Option Nat) (KA : Nat → Option Nat) (R : Nat → Int64) (Ln : Nat → Int32) (Ky : Nat → Int64) (Ch : Nat → Int64) (X : va_W) (zz nn : Nat) (hz0 : zz < 24) (hn0 : nn ≤ 4) : nkMI l yX1_add wsX1_add ({ frames := 1, cells := 0, slots := 0, locals := 23 }) D (tC ca) [.ref (ad 2), .ref (ad 1), .int (nI nn)] (wC ad ca sd tc sc tr st (nI zz) T Wt O SA KA R Ln Ky Ch X) (fun u : sPth => wC ad ca sd tc sc tr st u.2.2.2 T Wt O SA KA u.1 u.2.1 u.2.2.1 Ch X) (fun r u => fAdd T R Ln Ky zz nn = (r, u)) 0 0 := by
  refine nk_ofM (Qf := fun A => va_Qi (fun r u => fAdd T R Ln Ky zz nn = (r, u)) (nkB D A (fun u : sPth => wC ad ca sd tc sc tr st u.2.2.2 T Wt O SA KA u.1 u.2.1 u.2.2.1 Ch X)) A) (cc := cX1_add) (maxL := 7) (ret := (some .int)) (by decide) rfl (Nat.le_of_ble_eq_true rfl) ?_
  intro p e s m below meth c A hx hb hr hml hts hown hlocks hin hK hP hD hA hS ls hl
  replace hown : s.vm.findClass RX1 = some m.cls := hown
  replace hl : lv_has ls 7 [(0, .ref (ad 2)), (1, .ref (ad 1)), (2, .int (nI nn))] := hl
  have hP : va_P D vwCl (wC ad ca sd tc sc tr st (nI zz) T Wt O SA KA R Ln Ky Ch X) s.heap := hP
  have iX1 : ∀ w ∈ u_ws RX1 TX1 5, w ∈ wsX1_add := by decide +kernel
  refine lv_aload_n hx hb dX1_add_0 rfl (lv_at hl 0 rfl) ?_
  refine va_get (D := D) (ci := 1) (v := .int (nI zz)) (C := RX1) (T := TX1) (N := 5) hx hb hts iX1 hown hK.1 hP 2 rfl rfl 4 (by decide) (hts (.fieldLink RX1 25 "NamedStreams$Paths" "size" "I") (by decide +kernel)) (fun _ h9 => h9) rfl dX1_add_1 ?_
  refine lv_istore_n (lv' := [(3, .int (nI zz)), (0, .ref (ad 2)), (1, .ref (ad 1)), (2, .int (nI nn))]) hx hb dX1_add_4 rfl hl (by decide) rfl (fun ls hl => ?_)
  refine lv_lconst (v := 0) hx hb dX1_add_5 (by decide) ?_
  refine lv_lstore (lv' := [(4, .long (0 : Int64)), (3, .int (nI zz)), (0, .ref (ad 2)), (1, .ref (ad 1)), (2, .int (nI nn))]) hx hb dX1_add_6 hl (by decide) rfl (fun ls hl => ?_)
  refine lv_iconst (v := 0) hx hb dX1_add_8 (by decide) ?_
  refine lv_istore (lv' := [(6, .int (0 : Int32)), (4, .long (0 : Int64)), (3, .int (nI zz)), (0, .ref (ad 2)), (1, .ref (ad 1)), (2, .int (nI nn))]) hx hb dX1_add_9 hl (by decide) rfl (fun ls hl => ?_)
  have lp11 : ∀ (k : Nat) (i : Int32) (R1 : Nat → Int64) (y1 : Int64) (H : Heap) (locs : List Loc) (ls : Array Slot), k ≤ nn → i = nI (nn - k) → fAddL T zz nn k R1 y1 = fAddL T zz nn nn R 0 → va_P D vwCl (wC ad ca sd tc sc tr st (nI zz) T Wt O SA KA R1 Ln Ky Ch X) H → va_D A (wC ad ca sd tc sc tr st (nI zz) T Wt O SA KA R1 Ln Ky Ch X) → va_S A s.heap H locs → lv_has ls 7 [(6, .int i), (4, .long y1), (3, .int (nI zz)), (0, .ref (ad 2)), (1, .ref (ad 1)), (2, .int (nI nn))] → W p l e ({ frames := 1, cells := 0, slots := 0, locals := 23 } : Room) s m ([.ref (ad 2), .ref (ad 1), .int (nI nn)] : List Value).toArray below meth c H locs 0 0 (MQ below (va_Qi (fun r u => fAdd T R Ln Ky zz nn = (r, u)) (nkB D A (fun u : sPth => wC ad ca sd tc sc tr st u.2.2.2 T Wt O SA KA u.1 u.2.1 u.2.2.1 Ch X)) A) ([.ref (ad 2), .ref (ad 1), .int (nI nn)] : List Value).toArray s 0 0 A) (F0 m 11 ls []) := by
    intro k
    induction k with
    | zero =>
      intro i R1 y1 H locs ls hk hi ht hP hD hS hl
      refine lv_iload hx hb dX1_add_11 (lv_at hl 0 rfl) ?_
      refine lv_iload_n hx hb dX1_add_13 rfl (lv_at hl 5 rfl) ?_
      refine lv_icmp_ge (tgt := 54) hx hb dX1_add_14 (by decide) (fun c14 => ?_) (fun c14 => ?_)
      · skip
        refine lv_aload_n hx hb dX1_add_54 rfl (lv_at hl 3 rfl) ?_
        refine va_get (D := D) (ci := 1) (v := .ref (ad 8)) (C := RX1) (T := TX1) (N := 5) hx hb hts iX1 hown hK.1 hP 2 rfl rfl 1 (by decide) (hts (.fieldLink RX1 15 "NamedStreams$Paths" "lengths" "[I") (by decide +kernel)) (fun _ h9 => h9) rfl dX1_add_55 ?_
        refine lv_iload_n hx hb dX1_add_58 rfl (lv_at hl 2 rfl) ?_
        refine lv_iload_n hx hb dX1_add_59 rfl (lv_at hl 5 rfl) ?_
        refine va_iast hx hb hK.1 hP hD hS 8 6 rfl rfl (vp_in_nI hz0 (by decide)) dX1_add_60 (fun H locs hP hD hS => ?_)
        have hP : va_P D vwCl (wC ad ca sd tc sc tr st (nI zz) T Wt O SA KA R1 (upd Ln (Int32.toNatClampNeg (nI zz)) (nI nn)) Ky Ch X) H := hP
        have hD : va_D A (wC ad ca sd tc sc tr st (nI zz) T Wt O SA KA R1 (upd Ln (Int32.toNatClampNeg (nI zz)) (nI nn)) Ky Ch X) := hD
        refine lv_aload_n hx hb dX1_add_61 rfl (lv_at hl 3 rfl) ?_
        refine va_get (D := D) (ci := 1) (v := .ref (ad 9)) (C := RX1) (T := TX1) (N := 5) hx hb hts iX1 hown hK.1 hP 2 rfl rfl 2 (by decide) (hts (.fieldLink RX1 19 "NamedStreams$Paths" "keys" "[J") (by decide +kernel)) (fun _ h9 => h9) rfl dX1_add_62 ?_
        refine lv_iload_n hx hb dX1_add_65 rfl (lv_at hl 2 rfl) ?_
        refine lv_lload hx hb dX1_add_66 (lv_at hl 1 rfl) ?_
        refine va_last hx hb hK.1 hP hD hS 9 7 rfl rfl (vp_in_nI hz0 (by decide)) dX1_add_68 (fun H locs hP hD hS => ?_)
        have hP : va_P D vwCl (wC ad ca sd tc sc tr st (nI zz) T Wt O SA KA R1 (upd Ln (Int32.toNatClampNeg (nI zz)) (nI nn)) (vp_updL Ky (Int32.toNatClampNeg (nI zz)) y1) Ch X) H := hP
        have hD : va_D A (wC ad ca sd tc sc tr st (nI zz) T Wt O SA KA R1 (upd Ln (Int32.toNatClampNeg (nI zz)) (nI nn)) (vp_updL Ky (Int32.toNatClampNeg (nI zz)) y1) Ch X) := hD
        refine lv_aload_n hx hb dX1_add_69 rfl (lv_at hl 3 rfl) ?_
        refine lv_dup hx hb dX1_add_70 rfl ?_
        refine va_get (D := D) (ci := 1) (v := .int (nI zz)) (C := RX1) (T := TX1) (N := 5) hx hb hts iX1 hown hK.1 hP 2 rfl rfl 4 (by decide) (hts (.fieldLink RX1 25 "NamedStreams$Paths" "size" "I") (by decide +kernel)) (fun _ h9 => h9) rfl dX1_add_71 ?_
        refine lv_iconst (v := 1) hx hb dX1_add_74 (by decide) ?_
        refine lv_iadd hx hb dX1_add_75 ?_
        refine lv_topi (fun z1 ez1 => ?_)
        refine va_put (D := D) (ci := 1) (v := .int z1) (ty := .int) (C := RX1) (T := TX1) (N := 5) hx hb hts iX1 tyX1 tyX1_ok nmX1 hown hK.1 hP hD hS 2 rfl rfl 4 (by decide) (hts (.fieldLink RX1 25 "NamedStreams$Paths" "size" "I") (by decide +kernel)) (fun _ h9 => h9) rfl (by decide +kernel) rfl rfl (Nat.le_of_ble_eq_true rfl) dX1_add_76 (fun H locs hP hD hS => ?_)
        have hP : va_P D vwCl (wC ad ca sd tc sc tr st z1 T Wt O SA KA R1 (upd Ln (Int32.toNatClampNeg (nI zz)) (nI nn)) (vp_updL Ky (Int32.toNatClampNeg (nI zz)) y1) Ch X) H := hP
        have hD : va_D A (wC ad ca sd tc sc tr st z1 T Wt O SA KA R1 (upd Ln (Int32.toNatClampNeg (nI zz)) (nI nn)) (vp_updL Ky (Int32.toNatClampNeg (nI zz)) y1) Ch X) := hD
        refine lv_iload_n hx hb dX1_add_79 rfl (lv_at hl 2 rfl) ?_
        exact nk_retI (g := _) (R1, (upd Ln (Int32.toNatClampNeg (nI zz)) (nI nn)), (vp_updL Ky (Int32.toNatClampNeg (nI zz)) y1), z1) hx hb hr hlocks hP hD hS dX1_add_80 (by subst ez1; rw [fAddL_0] at ht; rw [fAdd, ← ht])
      · skip
        exact absurd (by rw [hi]; exact nI_le (by omega) (by omega)) c14
    | succ k ih11 =>
      intro i R1 y1 H locs ls hk hi ht hP hD hS hl
      refine lv_iload hx hb dX1_add_11 (lv_at hl 0 rfl) ?_
      refine lv_iload_n hx hb dX1_add_13 rfl (lv_at hl 5 rfl) ?_
      refine lv_icmp_ge (tgt := 54) hx hb dX1_add_14 (by decide) (fun c14 => ?_) (fun c14 => ?_)
      · skip
        exact absurd c14 (Int32.not_le.mpr (by rw [hi]; exact nI_lt (by omega) (by omega)))
      · skip
        refine lv_aload_n hx hb dX1_add_17 rfl (lv_at hl 3 rfl) ?_
        refine va_get (D := D) (ci := 1) (v := .ref (ad 7)) (C := RX1) (T := TX1) (N := 5) hx hb hts iX1 hown hK.1 hP 2 rfl rfl 0 (by decide) (hts (.fieldLink RX1 9 "NamedStreams$Paths" "rows" "[J") (by decide +kernel)) (fun _ h9 => h9) rfl dX1_add_18 ?_
        refine lv_iload_n hx hb dX1_add_21 rfl (lv_at hl 2 rfl) ?_
        refine lv_iconst (v := 4) hx hb dX1_add_22 (by decide) ?_
        refine lv_imul hx hb dX1_add_23 ?_
        refine lv_iload hx hb dX1_add_24 (lv_at hl 0 rfl) ?_
        refine lv_iadd hx hb dX1_add_26 ?_
        refine lv_aload_n hx hb dX1_add_27 rfl (lv_at hl 4 rfl) ?_
        refine lv_iload hx hb dX1_add_28 (lv_at hl 0 rfl) ?_
        refine va_lald hx hb hK.1 hP 1 0 rfl rfl (by rw [hi]; exact vp_in_nI (by omega) (by decide)) dX1_add_30 ?_
        refine lv_topl (fun z2 ez2 => ?_)
        refine va_last hx hb hK.1 hP hD hS 7 5 rfl rfl (by rw [hi]; exact ns_in96 (m := 0) (j := 0) hz0 (by omega)) dX1_add_31 (fun H locs hP hD hS => ?_)
        have hP : va_P D vwCl (wC ad ca sd tc sc tr st (nI zz) T Wt O SA KA (vp_updL R1 (Int32.toNatClampNeg (((nI zz) * (4 : Int32)) + i)) z2) Ln Ky Ch X) H := hP
        have hD : va_D A (wC ad ca sd tc sc tr st (nI zz) T Wt O SA KA (vp_updL R1 (Int32.toNatClampNeg (((nI zz) * (4 : Int32)) + i)) z2) Ln Ky Ch X) := hD
        refine lv_lload hx hb dX1_add_32 (lv_at hl 1 rfl) ?_
        refine lv_ldc2 (v := -7046029254386353131) hx hb hown (hts (.constantLong RX1 40 (-7046029254386353131)) (by decide +kernel)) dX1_add_34 ?_
        refine lv_ladd hx hb dX1_add_37 ?_
        refine lv_aload_n hx hb dX1_add_38 rfl (lv_at hl 4 rfl) ?_
        refine lv_iload hx hb dX1_add_39 (lv_at hl 0 rfl) ?_
        refine va_lald hx hb hK.1 hP 1 0 rfl rfl (by rw [hi]; exact vp_in_nI (by omega) (by decide)) dX1_add_41 ?_
        refine lv_lxor hx hb dX1_add_42 ?_
        refine nk_SNL (As := [.long ((y1 + (-7046029254386353131 : Int64)) ^^^ (T (Int32.toNatClampNeg i)))]) (rest := []) ⟨hx, hb, hml, hown, hts⟩ (mX3_mix l ((y1 + (-7046029254386353131 : Int64)) ^^^ (T (Int32.toNatClampNeg i)))) ⟨va_cnB 1 hts gX1_add_X3_mix_n42 rfl rfl rfl hK.2.2.1 (hts (.initialized RX3) (by decide +kernel)) (by decide +kernel) ⟨Nat.le_of_ble_eq_true rfl, Nat.le_of_ble_eq_true rfl⟩, hts (.static yX3_mix) (by decide +kernel), trivial⟩ rfl hl.1 rfl (Nat.le_of_ble_eq_true rfl) dX1_add_43 ⟨Nat.le_of_ble_eq_true rfl, Nat.le_of_ble_eq_true rfl⟩ (fun r3 hr3 => ?_)
        subst hr3
        refine lv_topl (fun z4 ez4 => ?_)
        refine lv_lstore (lv' := [(4, .long z4), (6, .int i), (3, .int (nI zz)), (0, .ref (ad 2)), (1, .ref (ad 1)), (2, .int (nI nn))]) hx hb dX1_add_46 hl (by decide) rfl (fun ls hl => ?_)
        obtain ⟨i5, ei5⟩ : ∃ y : Int32, y = i + 1 := ⟨_, rfl⟩
        refine lv_iinc (v := i5) (lv' := [(6, .int i5), (4, .long z4), (3, .int (nI zz)), (0, .ref (ad 2)), (1, .ref (ad 1)), (2, .int (nI nn))]) hx hb dX1_add_48 hl (k := 1) rfl (by rw [ei5]; rfl) (by decide) rfl (fun ls hl => ?_)
        refine lv_goto (tgt := 11) hx hb dX1_add_51 (by decide) ?_
        exact ih11 i5 (vp_updL R1 (Int32.toNatClampNeg (((nI zz) * (4 : Int32)) + i)) z2) z4 _ _ _ (Nat.le_of_succ_le hk) (ns_step hi hk ei5) (by subst hi; subst ez2; subst ez4; rw [fAddL_s] at ht; exact ht) hP hD hS (lv_sub hl [0, 1, 2, 3, 4, 5] rfl)
  exact lp11 nn (0 : Int32) R (0 : Int64) _ _ _ (Nat.le_refl nn) (by rw [Nat.sub_self]; rfl) rfl hP hD hS (lv_sub hl [0, 1, 2, 3, 4, 5] rfl)

set_option maxHeartbeats 800000 in
set_option maxRecDepth 100000 in
theorem mX1_enter_T (l : Launch) (D : va_G) (ad : Nat → Nat) (ca : Nat → ClassId) (sd : Int64) (tc : Int32) (sc : Int32) (tr : Int32) (st : Int32) (T : Nat → Int64) (Wt : Nat → Int64) (O : Nat → Int32) (SA : Nat → Option Nat) (KA : Nat → Option Nat) (R : Nat → Int64) (Ln : Nat → Int32) (Ky : Nat → Int64) (Ch : Nat → Int64) (X : va_W) (zz nn : Nat) (hz0 : zz ≤ 24) (hn0 : nn ≤ 4) : nkMI l yX1_enter wsX1_enter ({ frames := 2, cells := 0, slots := 0, locals := 49 }) D (tC ca) [.ref (ad 2), .ref (ad 1), .int (nI nn)] (wC ad ca sd tc sc tr st (nI zz) T Wt O SA KA R Ln Ky Ch X) (fun u : sPth => wC ad ca sd tc sc tr st u.2.2.2 T Wt O SA KA u.1 u.2.1 u.2.2.1 Ch X) (fun r u => fEnt T R Ln Ky zz nn = (r, u)) 0 0 := by
  refine nk_ofM (Qf := fun A => va_Qi (fun r u => fEnt T R Ln Ky zz nn = (r, u)) (nkB D A (fun u : sPth => wC ad ca sd tc sc tr st u.2.2.2 T Wt O SA KA u.1 u.2.1 u.2.2.1 Ch X)) A) (cc := cX1_enter) (maxL := 4) (ret := (some .int)) (by decide) rfl (Nat.le_of_ble_eq_true rfl) ?_
  intro p e s m below meth c A hx hb hr hml hts hown hlocks hin hK hP hD hA hS ls hl
  replace hown : s.vm.findClass RX1 = some m.cls := hown
  replace hl : lv_has ls 4 [(0, .ref (ad 2)), (1, .ref (ad 1)), (2, .int (nI nn))] := hl
  have hP : va_P D vwCl (wC ad ca sd tc sc tr st (nI zz) T Wt O SA KA R Ln Ky Ch X) s.heap := hP
  have iX1 : ∀ w ∈ u_ws RX1 TX1 5, w ∈ wsX1_enter := by decide +kernel
  refine lv_iconst (v := 0) hx hb dX1_enter_0 (by decide) ?_
  refine lv_istore_n (lv' := [(3, .int (0 : Int32)), (0, .ref (ad 2)), (1, .ref (ad 1)), (2, .int (nI nn))]) hx hb dX1_enter_1 rfl hl (by decide) rfl (fun ls hl => ?_)
  have lp2 : ∀ (k : Nat) (i : Int32) (H : Heap) (locs : List Loc) (ls : Array Slot), k ≤ zz → i = nI (zz - k) → fEntL T R Ln Ky zz nn k = fEnt T R Ln Ky zz nn → va_P D vwCl (wC ad ca sd tc sc tr st (nI zz) T Wt O SA KA R Ln Ky Ch X) H → va_D A (wC ad ca sd tc sc tr st (nI zz) T Wt O SA KA R Ln Ky Ch X) → va_S A s.heap H locs → lv_has ls 4 [(3, .int i), (0, .ref (ad 2)), (1, .ref (ad 1)), (2, .int (nI nn))] → W p l e ({ frames := 2, cells := 0, slots := 0, locals := 49 } : Room) s m ([.ref (ad 2), .ref (ad 1), .int (nI nn)] : List Value).toArray below meth c H locs 0 0 (MQ below (va_Qi (fun r u => fEnt T R Ln Ky zz nn = (r, u)) (nkB D A (fun u : sPth => wC ad ca sd tc sc tr st u.2.2.2 T Wt O SA KA u.1 u.2.1 u.2.2.1 Ch X)) A) ([.ref (ad 2), .ref (ad 1), .int (nI nn)] : List Value).toArray s 0 0 A) (F0 m 2 ls []) := by
    intro k
    induction k with
    | zero =>
      intro i H locs ls hk hi ht hP hD hS hl
      refine lv_iload_n hx hb dX1_enter_2 rfl (lv_at hl 0 rfl) ?_
      refine lv_aload_n hx hb dX1_enter_3 rfl (lv_at hl 1 rfl) ?_
      refine va_get (D := D) (ci := 1) (v := .int (nI zz)) (C := RX1) (T := TX1) (N := 5) hx hb hts iX1 hown hK.1 hP 2 rfl rfl 4 (by decide) (hts (.fieldLink RX1 25 "NamedStreams$Paths" "size" "I") (by decide +kernel)) (fun _ h9 => h9) rfl dX1_enter_4 ?_
      refine lv_icmp_ge (tgt := 28) hx hb dX1_enter_7 (by decide) (fun c7 => ?_) (fun c7 => ?_)
      · skip
        refine lv_aload_n hx hb dX1_enter_28 rfl (lv_at hl 1 rfl) ?_
        refine va_get (D := D) (ci := 1) (v := .int (nI zz)) (C := RX1) (T := TX1) (N := 5) hx hb hts iX1 hown hK.1 hP 2 rfl rfl 4 (by decide) (hts (.fieldLink RX1 25 "NamedStreams$Paths" "size" "I") (by decide +kernel)) (fun _ h9 => h9) rfl dX1_enter_29 ?_
        refine lv_bipush (v := 24) hx hb dX1_enter_32 (by decide) ?_
        refine lv_icmp_lt (tgt := 42) hx hb dX1_enter_34 (by decide) (fun c34 => ?_) (fun c34 => ?_)
        · skip
          refine lv_aload_n hx hb dX1_enter_42 rfl (lv_at hl 1 rfl) ?_
          refine lv_aload_n hx hb dX1_enter_43 rfl (lv_at hl 2 rfl) ?_
          refine lv_iload_n hx hb dX1_enter_44 rfl (lv_at hl 3 rfl) ?_
          refine nk_VI (As := [.ref (ad 1), .int (nI nn)]) (rest := []) ⟨hx, hb, hml, hown, hts⟩ (mX1_add_T l D ad ca sd tc sc tr st T Wt O SA KA R Ln Ky Ch X zz nn (ns_lt_of c34 rfl (by omega) (by decide)) hn0) (cwV 2 hts gX1_enter_X1_add rfl rfl rfl (by decide +kernel) ⟨Nat.le_of_ble_eq_true rfl, Nat.le_of_ble_eq_true rfl⟩) hK hP hD hS hA 2 1 rfl rfl rfl rfl hl.1 rfl (Nat.le_of_ble_eq_true rfl) dX1_enter_45 ⟨Nat.le_of_ble_eq_true rfl, Nat.le_of_ble_eq_true rfl⟩ (fun r1 ur1 H locs hr1 hP hD hS => ?_)
          obtain ⟨rfl, rfl⟩ : r1 = (fAdd T R Ln Ky zz nn).1 ∧ ur1 = (fAdd T R Ln Ky zz nn).2 := by rw [hr1]; exact ⟨rfl, rfl⟩
          have hP : va_P D vwCl (wC ad ca sd tc sc tr st ((fAdd T R Ln Ky zz nn).2.2.2.2) T Wt O SA KA ((fAdd T R Ln Ky zz nn).2.1) ((fAdd T R Ln Ky zz nn).2.2.1) ((fAdd T R Ln Ky zz nn).2.2.2.1) Ch X) H := hP
          have hD : va_D A (wC ad ca sd tc sc tr st ((fAdd T R Ln Ky zz nn).2.2.2.2) T Wt O SA KA ((fAdd T R Ln Ky zz nn).2.1) ((fAdd T R Ln Ky zz nn).2.2.1) ((fAdd T R Ln Ky zz nn).2.2.2.1) Ch X) := hD
          exact nk_retI (g := _) ((fAdd T R Ln Ky zz nn).2.1, (fAdd T R Ln Ky zz nn).2.2.1, (fAdd T R Ln Ky zz nn).2.2.2.1, (fAdd T R Ln Ky zz nn).2.2.2.2) hx hb hr hlocks hP hD hS dX1_enter_48 (by rw [← ht]; exact (if_pos c34))
        · skip
          refine lv_bipush (v := -2) hx hb dX1_enter_37 (by decide) ?_
          refine lv_goto (tgt := 48) hx hb dX1_enter_39 (by decide) ?_
          exact nk_retI (g := _) (R, Ln, Ky, (nI zz)) hx hb hr hlocks hP hD hS dX1_enter_48 (by rw [← ht]; exact (if_neg c34))
      · skip
        exact absurd (by rw [hi]; exact nI_le (by omega) (by omega)) c7
    | succ k ih2 =>
      intro i H locs ls hk hi ht hP hD hS hl
      refine lv_iload_n hx hb dX1_enter_2 rfl (lv_at hl 0 rfl) ?_
      refine lv_aload_n hx hb dX1_enter_3 rfl (lv_at hl 1 rfl) ?_
      refine va_get (D := D) (ci := 1) (v := .int (nI zz)) (C := RX1) (T := TX1) (N := 5) hx hb hts iX1 hown hK.1 hP 2 rfl rfl 4 (by decide) (hts (.fieldLink RX1 25 "NamedStreams$Paths" "size" "I") (by decide +kernel)) (fun _ h9 => h9) rfl dX1_enter_4 ?_
      refine lv_icmp_ge (tgt := 28) hx hb dX1_enter_7 (by decide) (fun c7 => ?_) (fun c7 => ?_)
      · skip
        exact absurd c7 (Int32.not_le.mpr (by rw [hi]; exact nI_lt (by omega) (by omega)))
      · skip
        subst hi
        refine lv_aload_n hx hb dX1_enter_10 rfl (lv_at hl 1 rfl) ?_
        refine lv_iload_n hx hb dX1_enter_11 rfl (lv_at hl 0 rfl) ?_
        refine lv_aload_n hx hb dX1_enter_12 rfl (lv_at hl 2 rfl) ?_
        refine lv_iload_n hx hb dX1_enter_13 rfl (lv_at hl 3 rfl) ?_
        refine nk_VRI (As := [.int (nI (zz - (k + 1))), .ref (ad 1), .int (nI nn)]) (rest := []) ⟨hx, hb, hml, hown, hts⟩ (mX1_isLike_T l D ad ca sd tc sc tr st (nI zz) T Wt O SA KA R Ln Ky Ch X (zz - (k + 1)) nn (by omega) hn0) (cwV 3 hts gX1_enter_X1_isLike rfl rfl rfl (by decide +kernel) ⟨Nat.le_of_ble_eq_true rfl, Nat.le_of_ble_eq_true rfl⟩) hK hP 2 1 rfl rfl rfl rfl hl.1 rfl (Nat.le_of_ble_eq_true rfl) dX1_enter_14 ⟨Nat.le_of_ble_eq_true rfl, Nat.le_of_ble_eq_true rfl⟩ (fun r2 hr2 => ?_)
        subst hr2
        refine lv_if_eq (tgt := 22) hx hb dX1_enter_17 (by decide) (fun c17 => ?_) (fun c17 => ?_)
        · skip
          obtain ⟨i3, ei3⟩ : ∃ y : Int32, y = (nI (zz - (k + 1))) + 1 := ⟨_, rfl⟩
          refine lv_iinc (v := i3) (lv' := [(3, .int i3), (0, .ref (ad 2)), (1, .ref (ad 1)), (2, .int (nI nn))]) hx hb dX1_enter_22 hl (k := 0) rfl (by rw [ei3]; rfl) (by decide) rfl (fun ls hl => ?_)
          refine lv_goto (tgt := 2) hx hb dX1_enter_25 (by decide) ?_
          exact ih2 i3 _ _ _ (Nat.le_of_succ_le hk) (ns_step rfl hk ei3) (by rw [← ht, fEntL, if_pos c17]) hP hD hS (lv_sub hl [0, 1, 2, 3] rfl)
        · skip
          refine lv_iload_n hx hb dX1_enter_20 rfl (lv_at hl 0 rfl) ?_
          exact nk_retI (g := _) (R, Ln, Ky, (nI zz)) hx hb hr hlocks hP hD hS dX1_enter_21 (by rw [← ht, fEntL, if_neg c17])
  exact lp2 zz (0 : Int32) _ _ _ (Nat.le_refl zz) (by rw [Nat.sub_self]; rfl) rfl hP hD hS (lv_sub hl [0, 1, 2, 3] rfl)

set_option maxHeartbeats 800000 in
set_option maxRecDepth 100000 in
theorem mX1_isLike_C (l : Launch) (D : va_G) (ad : Nat → Nat) (ca : Nat → ClassId) (sd : Int64) (tc : Int32) (sc : Int32) (tr : Int32) (st : Int32) (pz : Int32) (T : Nat → Int64) (Wt : Nat → Int64) (O : Nat → Int32) (SA : Nat → Option Nat) (KA : Nat → Option Nat) (R : Nat → Int64) (Ln : Nat → Int32) (Ky : Nat → Int64) (Ch : Nat → Int64) (X : va_W) (pp nn : Nat) (hp0 : pp < 24) (hn0 : nn ≤ 4) : nkRI l yX1_isLike wsX1_isLike ({ frames := 0, cells := 0, slots := 0, locals := 0 }) D (tC ca) [.ref (ad 2), .int (nI pp), .ref (ad 10), .int (nI nn)] (wC ad ca sd tc sc tr st pz T Wt O SA KA R Ln Ky Ch X) (fun r => r = fLike R Ln Ch (nI pp) nn) := by
  refine nk_ofR (cc := cX1_isLike) (maxL := 5) (ret := (some .boolean)) (by decide) rfl (Nat.le_of_ble_eq_true rfl) ?_
  intro p e s m below meth c hx hb hr hml hts hown hlocks hK hP ls hl
  replace hown : s.vm.findClass RX1 = some m.cls := hown
  replace hl : lv_has ls 5 [(0, .ref (ad 2)), (1, .int (nI pp)), (2, .ref (ad 10)), (3, .int (nI nn))] := hl
  have hP : va_P D vwCl (wC ad ca sd tc sc tr st pz T Wt O SA KA R Ln Ky Ch X) s.heap := hP
  have iX1 : ∀ w ∈ u_ws RX1 TX1 5, w ∈ wsX1_isLike := by decide +kernel
  refine lv_aload_n hx hb dX1_isLike_0 rfl (lv_at hl 0 rfl) ?_
  refine va_get (D := D) (ci := 1) (v := .ref (ad 8)) (C := RX1) (T := TX1) (N := 5) hx hb hts iX1 hown hK.1 hP 2 rfl rfl 1 (by decide) (hts (.fieldLink RX1 15 "NamedStreams$Paths" "lengths" "[I") (by decide +kernel)) (fun _ h9 => h9) rfl dX1_isLike_1 ?_
  refine lv_iload_n hx hb dX1_isLike_4 rfl (lv_at hl 1 rfl) ?_
  refine va_iald hx hb hK.1 hP 8 6 rfl rfl (vp_in_nI hp0 (by decide)) dX1_isLike_5 ?_
  refine lv_iload_n hx hb dX1_isLike_6 rfl (lv_at hl 3 rfl) ?_
  refine lv_icmp_eq (tgt := 12) hx hb dX1_isLike_7 (by decide) (fun c7 => ?_) (fun c7 => ?_)
  · skip
    refine lv_iconst (v := 0) hx hb dX1_isLike_12 (by decide) ?_
    refine lv_istore (lv' := [(4, .int (0 : Int32)), (0, .ref (ad 2)), (1, .int (nI pp)), (2, .ref (ad 10)), (3, .int (nI nn))]) hx hb dX1_isLike_13 hl (by decide) rfl (fun ls hl => ?_)
    have lp15 : ∀ (k : Nat) (i : Int32) (ls : Array Slot), k ≤ nn → i = nI (nn - k) → fLikeL R Ch (nI pp) nn k = fLike R Ln Ch (nI pp) nn → lv_has ls 5 [(4, .int i), (0, .ref (ad 2)), (1, .int (nI pp)), (2, .ref (ad 10)), (3, .int (nI nn))] → W p l e ({ frames := 0, cells := 0, slots := 0, locals := 0 } : Room) s m ([.ref (ad 2), .int (nI pp), .ref (ad 10), .int (nI nn)] : List Value).toArray below meth c s.heap [] 0 0 (MQ below (vp_Si (fun r => r = fLike R Ln Ch (nI pp) nn)) ([.ref (ad 2), .int (nI pp), .ref (ad 10), .int (nI nn)] : List Value).toArray s 0 0 (fun _ => False)) (F0 m 15 ls []) := by
      intro k
      induction k with
      | zero =>
        intro i ls hk hi ht hl
        refine lv_iload hx hb dX1_isLike_15 (lv_at hl 0 rfl) ?_
        refine lv_iload_n hx hb dX1_isLike_17 rfl (lv_at hl 4 rfl) ?_
        refine lv_icmp_ge (tgt := 48) hx hb dX1_isLike_18 (by decide) (fun c18 => ?_) (fun c18 => ?_)
        · skip
          refine lv_iconst (v := 1) hx hb dX1_isLike_48 (by decide) ?_
          exact nk_endZ hx hb hr hlocks (by first | rfl | decide) dX1_isLike_49 (by rw [← ht]; rfl)
        · skip
          exact absurd (by rw [hi]; exact nI_le (by omega) (by omega)) c18
      | succ k ih15 =>
        intro i ls hk hi ht hl
        refine lv_iload hx hb dX1_isLike_15 (lv_at hl 0 rfl) ?_
        refine lv_iload_n hx hb dX1_isLike_17 rfl (lv_at hl 4 rfl) ?_
        refine lv_icmp_ge (tgt := 48) hx hb dX1_isLike_18 (by decide) (fun c18 => ?_) (fun c18 => ?_)
        · skip
          exact absurd c18 (Int32.not_le.mpr (by rw [hi]; exact nI_lt (by omega) (by omega)))
        · skip
          refine lv_aload_n hx hb dX1_isLike_21 rfl (lv_at hl 1 rfl) ?_
          refine va_get (D := D) (ci := 1) (v := .ref (ad 7)) (C := RX1) (T := TX1) (N := 5) hx hb hts iX1 hown hK.1 hP 2 rfl rfl 0 (by decide) (hts (.fieldLink RX1 9 "NamedStreams$Paths" "rows" "[J") (by decide +kernel)) (fun _ h9 => h9) rfl dX1_isLike_22 ?_
          refine lv_iload_n hx hb dX1_isLike_25 rfl (lv_at hl 2 rfl) ?_
          refine lv_iconst (v := 4) hx hb dX1_isLike_26 (by decide) ?_
          refine lv_imul hx hb dX1_isLike_27 ?_
          refine lv_iload hx hb dX1_isLike_28 (lv_at hl 0 rfl) ?_
          refine lv_iadd hx hb dX1_isLike_30 ?_
          refine va_lald hx hb hK.1 hP 7 5 rfl rfl (by rw [hi]; exact ns_in96 (m := 0) (j := 0) hp0 (by omega)) dX1_isLike_31 ?_
          refine lv_aload_n hx hb dX1_isLike_32 rfl (lv_at hl 3 rfl) ?_
          refine lv_iload hx hb dX1_isLike_33 (lv_at hl 0 rfl) ?_
          refine va_lald hx hb hK.1 hP 10 8 rfl rfl (by rw [hi]; exact vp_in_nI (by omega) (by decide)) dX1_isLike_35 ?_
          refine W.lcmp hx hb dX1_isLike_36 ?_
          refine lv_if_eq (tgt := 42) hx hb dX1_isLike_37 (by decide) (fun c37 => ?_) (fun c37 => ?_)
          · skip
            have c37 : (R (Int32.toNatClampNeg (((nI pp) * (4 : Int32)) + i))) = (Ch (Int32.toNatClampNeg i)) := (lg_cmp_eq _ _).mp c37
            obtain ⟨i1, ei1⟩ : ∃ y : Int32, y = i + 1 := ⟨_, rfl⟩
            refine lv_iinc (v := i1) (lv' := [(4, .int i1), (0, .ref (ad 2)), (1, .int (nI pp)), (2, .ref (ad 10)), (3, .int (nI nn))]) hx hb dX1_isLike_42 hl (k := 0) rfl (by rw [ei1]; rfl) (by decide) rfl (fun ls hl => ?_)
            refine lv_goto (tgt := 15) hx hb dX1_isLike_45 (by decide) ?_
            exact ih15 i1 _ (Nat.le_of_succ_le hk) (ns_step hi hk ei1) (by subst hi; rw [← ht, fLikeL, if_pos c37]) (lv_sub hl [0, 1, 2, 3, 4] rfl)
          · skip
            have c37 : ¬ ((R (Int32.toNatClampNeg (((nI pp) * (4 : Int32)) + i))) = (Ch (Int32.toNatClampNeg i))) := fun h => c37 ((lg_cmp_eq _ _).mpr h)
            refine lv_iconst (v := 0) hx hb dX1_isLike_40 (by decide) ?_
            exact nk_endZ hx hb hr hlocks (by first | rfl | decide) dX1_isLike_41 (by subst hi; rw [← ht, fLikeL, if_neg c37])
    exact lp15 nn (0 : Int32) _ (Nat.le_refl nn) (by rw [Nat.sub_self]; rfl) ((if_pos c7).symm) (lv_sub hl [0, 1, 2, 3, 4] rfl)
  · skip
    refine lv_iconst (v := 0) hx hb dX1_isLike_10 (by decide) ?_
    exact nk_endZ hx hb hr hlocks (by first | rfl | decide) dX1_isLike_11 (by exact (if_neg c7).symm)

set_option maxHeartbeats 800000 in
set_option maxRecDepth 100000 in
theorem mX1_add_C (l : Launch) (D : va_G) (ad : Nat → Nat) (ca : Nat → ClassId) (sd : Int64) (tc : Int32) (sc : Int32) (tr : Int32) (st : Int32) (T : Nat → Int64) (Wt : Nat → Int64) (O : Nat → Int32) (SA : Nat → Option Nat) (KA : Nat → Option Nat) (R : Nat → Int64) (Ln : Nat → Int32) (Ky : Nat → Int64) (Ch : Nat → Int64) (X : va_W) (zz nn : Nat) (hz0 : zz < 24) (hn0 : nn ≤ 4) : nkMI l yX1_add wsX1_add ({ frames := 1, cells := 0, slots := 0, locals := 23 }) D (tC ca) [.ref (ad 2), .ref (ad 10), .int (nI nn)] (wC ad ca sd tc sc tr st (nI zz) T Wt O SA KA R Ln Ky Ch X) (fun u : sPth => wC ad ca sd tc sc tr st u.2.2.2 T Wt O SA KA u.1 u.2.1 u.2.2.1 Ch X) (fun r u => fAdd Ch R Ln Ky zz nn = (r, u)) 0 0 := by
  refine nk_ofM (Qf := fun A => va_Qi (fun r u => fAdd Ch R Ln Ky zz nn = (r, u)) (nkB D A (fun u : sPth => wC ad ca sd tc sc tr st u.2.2.2 T Wt O SA KA u.1 u.2.1 u.2.2.1 Ch X)) A) (cc := cX1_add) (maxL := 7) (ret := (some .int)) (by decide) rfl (Nat.le_of_ble_eq_true rfl) ?_
  intro p e s m below meth c A hx hb hr hml hts hown hlocks hin hK hP hD hA hS ls hl
  replace hown : s.vm.findClass RX1 = some m.cls := hown
  replace hl : lv_has ls 7 [(0, .ref (ad 2)), (1, .ref (ad 10)), (2, .int (nI nn))] := hl
  have hP : va_P D vwCl (wC ad ca sd tc sc tr st (nI zz) T Wt O SA KA R Ln Ky Ch X) s.heap := hP
  have iX1 : ∀ w ∈ u_ws RX1 TX1 5, w ∈ wsX1_add := by decide +kernel
  refine lv_aload_n hx hb dX1_add_0 rfl (lv_at hl 0 rfl) ?_
  refine va_get (D := D) (ci := 1) (v := .int (nI zz)) (C := RX1) (T := TX1) (N := 5) hx hb hts iX1 hown hK.1 hP 2 rfl rfl 4 (by decide) (hts (.fieldLink RX1 25 "NamedStreams$Paths" "size" "I") (by decide +kernel)) (fun _ h9 => h9) rfl dX1_add_1 ?_
  refine lv_istore_n (lv' := [(3, .int (nI zz)), (0, .ref (ad 2)), (1, .ref (ad 10)), (2, .int (nI nn))]) hx hb dX1_add_4 rfl hl (by decide) rfl (fun ls hl => ?_)
  refine lv_lconst (v := 0) hx hb dX1_add_5 (by decide) ?_
  refine lv_lstore (lv' := [(4, .long (0 : Int64)), (3, .int (nI zz)), (0, .ref (ad 2)), (1, .ref (ad 10)), (2, .int (nI nn))]) hx hb dX1_add_6 hl (by decide) rfl (fun ls hl => ?_)
  refine lv_iconst (v := 0) hx hb dX1_add_8 (by decide) ?_
  refine lv_istore (lv' := [(6, .int (0 : Int32)), (4, .long (0 : Int64)), (3, .int (nI zz)), (0, .ref (ad 2)), (1, .ref (ad 10)), (2, .int (nI nn))]) hx hb dX1_add_9 hl (by decide) rfl (fun ls hl => ?_)
  have lp11 : ∀ (k : Nat) (i : Int32) (R1 : Nat → Int64) (y1 : Int64) (H : Heap) (locs : List Loc) (ls : Array Slot), k ≤ nn → i = nI (nn - k) → fAddL Ch zz nn k R1 y1 = fAddL Ch zz nn nn R 0 → va_P D vwCl (wC ad ca sd tc sc tr st (nI zz) T Wt O SA KA R1 Ln Ky Ch X) H → va_D A (wC ad ca sd tc sc tr st (nI zz) T Wt O SA KA R1 Ln Ky Ch X) → va_S A s.heap H locs → lv_has ls 7 [(6, .int i), (4, .long y1), (3, .int (nI zz)), (0, .ref (ad 2)), (1, .ref (ad 10)), (2, .int (nI nn))] → W p l e ({ frames := 1, cells := 0, slots := 0, locals := 23 } : Room) s m ([.ref (ad 2), .ref (ad 10), .int (nI nn)] : List Value).toArray below meth c H locs 0 0 (MQ below (va_Qi (fun r u => fAdd Ch R Ln Ky zz nn = (r, u)) (nkB D A (fun u : sPth => wC ad ca sd tc sc tr st u.2.2.2 T Wt O SA KA u.1 u.2.1 u.2.2.1 Ch X)) A) ([.ref (ad 2), .ref (ad 10), .int (nI nn)] : List Value).toArray s 0 0 A) (F0 m 11 ls []) := by
    intro k
    induction k with
    | zero =>
      intro i R1 y1 H locs ls hk hi ht hP hD hS hl
      refine lv_iload hx hb dX1_add_11 (lv_at hl 0 rfl) ?_
      refine lv_iload_n hx hb dX1_add_13 rfl (lv_at hl 5 rfl) ?_
      refine lv_icmp_ge (tgt := 54) hx hb dX1_add_14 (by decide) (fun c14 => ?_) (fun c14 => ?_)
      · skip
        refine lv_aload_n hx hb dX1_add_54 rfl (lv_at hl 3 rfl) ?_
        refine va_get (D := D) (ci := 1) (v := .ref (ad 8)) (C := RX1) (T := TX1) (N := 5) hx hb hts iX1 hown hK.1 hP 2 rfl rfl 1 (by decide) (hts (.fieldLink RX1 15 "NamedStreams$Paths" "lengths" "[I") (by decide +kernel)) (fun _ h9 => h9) rfl dX1_add_55 ?_
        refine lv_iload_n hx hb dX1_add_58 rfl (lv_at hl 2 rfl) ?_
        refine lv_iload_n hx hb dX1_add_59 rfl (lv_at hl 5 rfl) ?_
        refine va_iast hx hb hK.1 hP hD hS 8 6 rfl rfl (vp_in_nI hz0 (by decide)) dX1_add_60 (fun H locs hP hD hS => ?_)
        have hP : va_P D vwCl (wC ad ca sd tc sc tr st (nI zz) T Wt O SA KA R1 (upd Ln (Int32.toNatClampNeg (nI zz)) (nI nn)) Ky Ch X) H := hP
        have hD : va_D A (wC ad ca sd tc sc tr st (nI zz) T Wt O SA KA R1 (upd Ln (Int32.toNatClampNeg (nI zz)) (nI nn)) Ky Ch X) := hD
        refine lv_aload_n hx hb dX1_add_61 rfl (lv_at hl 3 rfl) ?_
        refine va_get (D := D) (ci := 1) (v := .ref (ad 9)) (C := RX1) (T := TX1) (N := 5) hx hb hts iX1 hown hK.1 hP 2 rfl rfl 2 (by decide) (hts (.fieldLink RX1 19 "NamedStreams$Paths" "keys" "[J") (by decide +kernel)) (fun _ h9 => h9) rfl dX1_add_62 ?_
        refine lv_iload_n hx hb dX1_add_65 rfl (lv_at hl 2 rfl) ?_
        refine lv_lload hx hb dX1_add_66 (lv_at hl 1 rfl) ?_
        refine va_last hx hb hK.1 hP hD hS 9 7 rfl rfl (vp_in_nI hz0 (by decide)) dX1_add_68 (fun H locs hP hD hS => ?_)
        have hP : va_P D vwCl (wC ad ca sd tc sc tr st (nI zz) T Wt O SA KA R1 (upd Ln (Int32.toNatClampNeg (nI zz)) (nI nn)) (vp_updL Ky (Int32.toNatClampNeg (nI zz)) y1) Ch X) H := hP
        have hD : va_D A (wC ad ca sd tc sc tr st (nI zz) T Wt O SA KA R1 (upd Ln (Int32.toNatClampNeg (nI zz)) (nI nn)) (vp_updL Ky (Int32.toNatClampNeg (nI zz)) y1) Ch X) := hD
        refine lv_aload_n hx hb dX1_add_69 rfl (lv_at hl 3 rfl) ?_
        refine lv_dup hx hb dX1_add_70 rfl ?_
        refine va_get (D := D) (ci := 1) (v := .int (nI zz)) (C := RX1) (T := TX1) (N := 5) hx hb hts iX1 hown hK.1 hP 2 rfl rfl 4 (by decide) (hts (.fieldLink RX1 25 "NamedStreams$Paths" "size" "I") (by decide +kernel)) (fun _ h9 => h9) rfl dX1_add_71 ?_
        refine lv_iconst (v := 1) hx hb dX1_add_74 (by decide) ?_
        refine lv_iadd hx hb dX1_add_75 ?_
        refine lv_topi (fun z1 ez1 => ?_)
        refine va_put (D := D) (ci := 1) (v := .int z1) (ty := .int) (C := RX1) (T := TX1) (N := 5) hx hb hts iX1 tyX1 tyX1_ok nmX1 hown hK.1 hP hD hS 2 rfl rfl 4 (by decide) (hts (.fieldLink RX1 25 "NamedStreams$Paths" "size" "I") (by decide +kernel)) (fun _ h9 => h9) rfl (by decide +kernel) rfl rfl (Nat.le_of_ble_eq_true rfl) dX1_add_76 (fun H locs hP hD hS => ?_)
        have hP : va_P D vwCl (wC ad ca sd tc sc tr st z1 T Wt O SA KA R1 (upd Ln (Int32.toNatClampNeg (nI zz)) (nI nn)) (vp_updL Ky (Int32.toNatClampNeg (nI zz)) y1) Ch X) H := hP
        have hD : va_D A (wC ad ca sd tc sc tr st z1 T Wt O SA KA R1 (upd Ln (Int32.toNatClampNeg (nI zz)) (nI nn)) (vp_updL Ky (Int32.toNatClampNeg (nI zz)) y1) Ch X) := hD
        refine lv_iload_n hx hb dX1_add_79 rfl (lv_at hl 2 rfl) ?_
        exact nk_retI (g := _) (R1, (upd Ln (Int32.toNatClampNeg (nI zz)) (nI nn)), (vp_updL Ky (Int32.toNatClampNeg (nI zz)) y1), z1) hx hb hr hlocks hP hD hS dX1_add_80 (by subst ez1; rw [fAddL_0] at ht; rw [fAdd, ← ht])
      · skip
        exact absurd (by rw [hi]; exact nI_le (by omega) (by omega)) c14
    | succ k ih11 =>
      intro i R1 y1 H locs ls hk hi ht hP hD hS hl
      refine lv_iload hx hb dX1_add_11 (lv_at hl 0 rfl) ?_
      refine lv_iload_n hx hb dX1_add_13 rfl (lv_at hl 5 rfl) ?_
      refine lv_icmp_ge (tgt := 54) hx hb dX1_add_14 (by decide) (fun c14 => ?_) (fun c14 => ?_)
      · skip
        exact absurd c14 (Int32.not_le.mpr (by rw [hi]; exact nI_lt (by omega) (by omega)))
      · skip
        refine lv_aload_n hx hb dX1_add_17 rfl (lv_at hl 3 rfl) ?_
        refine va_get (D := D) (ci := 1) (v := .ref (ad 7)) (C := RX1) (T := TX1) (N := 5) hx hb hts iX1 hown hK.1 hP 2 rfl rfl 0 (by decide) (hts (.fieldLink RX1 9 "NamedStreams$Paths" "rows" "[J") (by decide +kernel)) (fun _ h9 => h9) rfl dX1_add_18 ?_
        refine lv_iload_n hx hb dX1_add_21 rfl (lv_at hl 2 rfl) ?_
        refine lv_iconst (v := 4) hx hb dX1_add_22 (by decide) ?_
        refine lv_imul hx hb dX1_add_23 ?_
        refine lv_iload hx hb dX1_add_24 (lv_at hl 0 rfl) ?_
        refine lv_iadd hx hb dX1_add_26 ?_
        refine lv_aload_n hx hb dX1_add_27 rfl (lv_at hl 4 rfl) ?_
        refine lv_iload hx hb dX1_add_28 (lv_at hl 0 rfl) ?_
        refine va_lald hx hb hK.1 hP 10 8 rfl rfl (by rw [hi]; exact vp_in_nI (by omega) (by decide)) dX1_add_30 ?_
        refine lv_topl (fun z2 ez2 => ?_)
        refine va_last hx hb hK.1 hP hD hS 7 5 rfl rfl (by rw [hi]; exact ns_in96 (m := 0) (j := 0) hz0 (by omega)) dX1_add_31 (fun H locs hP hD hS => ?_)
        have hP : va_P D vwCl (wC ad ca sd tc sc tr st (nI zz) T Wt O SA KA (vp_updL R1 (Int32.toNatClampNeg (((nI zz) * (4 : Int32)) + i)) z2) Ln Ky Ch X) H := hP
        have hD : va_D A (wC ad ca sd tc sc tr st (nI zz) T Wt O SA KA (vp_updL R1 (Int32.toNatClampNeg (((nI zz) * (4 : Int32)) + i)) z2) Ln Ky Ch X) := hD
        refine lv_lload hx hb dX1_add_32 (lv_at hl 1 rfl) ?_
        refine lv_ldc2 (v := -7046029254386353131) hx hb hown (hts (.constantLong RX1 40 (-7046029254386353131)) (by decide +kernel)) dX1_add_34 ?_
        refine lv_ladd hx hb dX1_add_37 ?_
        refine lv_aload_n hx hb dX1_add_38 rfl (lv_at hl 4 rfl) ?_
        refine lv_iload hx hb dX1_add_39 (lv_at hl 0 rfl) ?_
        refine va_lald hx hb hK.1 hP 10 8 rfl rfl (by rw [hi]; exact vp_in_nI (by omega) (by decide)) dX1_add_41 ?_
        refine lv_lxor hx hb dX1_add_42 ?_
        refine nk_SNL (As := [.long ((y1 + (-7046029254386353131 : Int64)) ^^^ (Ch (Int32.toNatClampNeg i)))]) (rest := []) ⟨hx, hb, hml, hown, hts⟩ (mX3_mix l ((y1 + (-7046029254386353131 : Int64)) ^^^ (Ch (Int32.toNatClampNeg i)))) ⟨va_cnB 1 hts gX1_add_X3_mix_n42 rfl rfl rfl hK.2.2.1 (hts (.initialized RX3) (by decide +kernel)) (by decide +kernel) ⟨Nat.le_of_ble_eq_true rfl, Nat.le_of_ble_eq_true rfl⟩, hts (.static yX3_mix) (by decide +kernel), trivial⟩ rfl hl.1 rfl (Nat.le_of_ble_eq_true rfl) dX1_add_43 ⟨Nat.le_of_ble_eq_true rfl, Nat.le_of_ble_eq_true rfl⟩ (fun r3 hr3 => ?_)
        subst hr3
        refine lv_topl (fun z4 ez4 => ?_)
        refine lv_lstore (lv' := [(4, .long z4), (6, .int i), (3, .int (nI zz)), (0, .ref (ad 2)), (1, .ref (ad 10)), (2, .int (nI nn))]) hx hb dX1_add_46 hl (by decide) rfl (fun ls hl => ?_)
        obtain ⟨i5, ei5⟩ : ∃ y : Int32, y = i + 1 := ⟨_, rfl⟩
        refine lv_iinc (v := i5) (lv' := [(6, .int i5), (4, .long z4), (3, .int (nI zz)), (0, .ref (ad 2)), (1, .ref (ad 10)), (2, .int (nI nn))]) hx hb dX1_add_48 hl (k := 1) rfl (by rw [ei5]; rfl) (by decide) rfl (fun ls hl => ?_)
        refine lv_goto (tgt := 11) hx hb dX1_add_51 (by decide) ?_
        exact ih11 i5 (vp_updL R1 (Int32.toNatClampNeg (((nI zz) * (4 : Int32)) + i)) z2) z4 _ _ _ (Nat.le_of_succ_le hk) (ns_step hi hk ei5) (by subst hi; subst ez2; subst ez4; rw [fAddL_s] at ht; exact ht) hP hD hS (lv_sub hl [0, 1, 2, 3, 4, 5] rfl)
  exact lp11 nn (0 : Int32) R (0 : Int64) _ _ _ (Nat.le_refl nn) (by rw [Nat.sub_self]; rfl) rfl hP hD hS (lv_sub hl [0, 1, 2, 3, 4, 5] rfl)

set_option maxHeartbeats 800000 in
set_option maxRecDepth 100000 in
theorem mX1_enter_C (l : Launch) (D : va_G) (ad : Nat → Nat) (ca : Nat → ClassId) (sd : Int64) (tc : Int32) (sc : Int32) (tr : Int32) (st : Int32) (T : Nat → Int64) (Wt : Nat → Int64) (O : Nat → Int32) (SA : Nat → Option Nat) (KA : Nat → Option Nat) (R : Nat → Int64) (Ln : Nat → Int32) (Ky : Nat → Int64) (Ch : Nat → Int64) (X : va_W) (zz nn : Nat) (hz0 : zz ≤ 24) (hn0 : nn ≤ 4) : nkMI l yX1_enter wsX1_enter ({ frames := 2, cells := 0, slots := 0, locals := 49 }) D (tC ca) [.ref (ad 2), .ref (ad 10), .int (nI nn)] (wC ad ca sd tc sc tr st (nI zz) T Wt O SA KA R Ln Ky Ch X) (fun u : sPth => wC ad ca sd tc sc tr st u.2.2.2 T Wt O SA KA u.1 u.2.1 u.2.2.1 Ch X) (fun r u => fEnt Ch R Ln Ky zz nn = (r, u)) 0 0 := by
  refine nk_ofM (Qf := fun A => va_Qi (fun r u => fEnt Ch R Ln Ky zz nn = (r, u)) (nkB D A (fun u : sPth => wC ad ca sd tc sc tr st u.2.2.2 T Wt O SA KA u.1 u.2.1 u.2.2.1 Ch X)) A) (cc := cX1_enter) (maxL := 4) (ret := (some .int)) (by decide) rfl (Nat.le_of_ble_eq_true rfl) ?_
  intro p e s m below meth c A hx hb hr hml hts hown hlocks hin hK hP hD hA hS ls hl
  replace hown : s.vm.findClass RX1 = some m.cls := hown
  replace hl : lv_has ls 4 [(0, .ref (ad 2)), (1, .ref (ad 10)), (2, .int (nI nn))] := hl
  have hP : va_P D vwCl (wC ad ca sd tc sc tr st (nI zz) T Wt O SA KA R Ln Ky Ch X) s.heap := hP
  have iX1 : ∀ w ∈ u_ws RX1 TX1 5, w ∈ wsX1_enter := by decide +kernel
  refine lv_iconst (v := 0) hx hb dX1_enter_0 (by decide) ?_
  refine lv_istore_n (lv' := [(3, .int (0 : Int32)), (0, .ref (ad 2)), (1, .ref (ad 10)), (2, .int (nI nn))]) hx hb dX1_enter_1 rfl hl (by decide) rfl (fun ls hl => ?_)
  have lp2 : ∀ (k : Nat) (i : Int32) (H : Heap) (locs : List Loc) (ls : Array Slot), k ≤ zz → i = nI (zz - k) → fEntL Ch R Ln Ky zz nn k = fEnt Ch R Ln Ky zz nn → va_P D vwCl (wC ad ca sd tc sc tr st (nI zz) T Wt O SA KA R Ln Ky Ch X) H → va_D A (wC ad ca sd tc sc tr st (nI zz) T Wt O SA KA R Ln Ky Ch X) → va_S A s.heap H locs → lv_has ls 4 [(3, .int i), (0, .ref (ad 2)), (1, .ref (ad 10)), (2, .int (nI nn))] → W p l e ({ frames := 2, cells := 0, slots := 0, locals := 49 } : Room) s m ([.ref (ad 2), .ref (ad 10), .int (nI nn)] : List Value).toArray below meth c H locs 0 0 (MQ below (va_Qi (fun r u => fEnt Ch R Ln Ky zz nn = (r, u)) (nkB D A (fun u : sPth => wC ad ca sd tc sc tr st u.2.2.2 T Wt O SA KA u.1 u.2.1 u.2.2.1 Ch X)) A) ([.ref (ad 2), .ref (ad 10), .int (nI nn)] : List Value).toArray s 0 0 A) (F0 m 2 ls []) := by
    intro k
    induction k with
    | zero =>
      intro i H locs ls hk hi ht hP hD hS hl
      refine lv_iload_n hx hb dX1_enter_2 rfl (lv_at hl 0 rfl) ?_
      refine lv_aload_n hx hb dX1_enter_3 rfl (lv_at hl 1 rfl) ?_
      refine va_get (D := D) (ci := 1) (v := .int (nI zz)) (C := RX1) (T := TX1) (N := 5) hx hb hts iX1 hown hK.1 hP 2 rfl rfl 4 (by decide) (hts (.fieldLink RX1 25 "NamedStreams$Paths" "size" "I") (by decide +kernel)) (fun _ h9 => h9) rfl dX1_enter_4 ?_
      refine lv_icmp_ge (tgt := 28) hx hb dX1_enter_7 (by decide) (fun c7 => ?_) (fun c7 => ?_)
      · skip
        refine lv_aload_n hx hb dX1_enter_28 rfl (lv_at hl 1 rfl) ?_
        refine va_get (D := D) (ci := 1) (v := .int (nI zz)) (C := RX1) (T := TX1) (N := 5) hx hb hts iX1 hown hK.1 hP 2 rfl rfl 4 (by decide) (hts (.fieldLink RX1 25 "NamedStreams$Paths" "size" "I") (by decide +kernel)) (fun _ h9 => h9) rfl dX1_enter_29 ?_
        refine lv_bipush (v := 24) hx hb dX1_enter_32 (by decide) ?_
        refine lv_icmp_lt (tgt := 42) hx hb dX1_enter_34 (by decide) (fun c34 => ?_) (fun c34 => ?_)
        · skip
          refine lv_aload_n hx hb dX1_enter_42 rfl (lv_at hl 1 rfl) ?_
          refine lv_aload_n hx hb dX1_enter_43 rfl (lv_at hl 2 rfl) ?_
          refine lv_iload_n hx hb dX1_enter_44 rfl (lv_at hl 3 rfl) ?_
          refine nk_VI (As := [.ref (ad 10), .int (nI nn)]) (rest := []) ⟨hx, hb, hml, hown, hts⟩ (mX1_add_C l D ad ca sd tc sc tr st T Wt O SA KA R Ln Ky Ch X zz nn (ns_lt_of c34 rfl (by omega) (by decide)) hn0) (cwV 2 hts gX1_enter_X1_add rfl rfl rfl (by decide +kernel) ⟨Nat.le_of_ble_eq_true rfl, Nat.le_of_ble_eq_true rfl⟩) hK hP hD hS hA 2 1 rfl rfl rfl rfl hl.1 rfl (Nat.le_of_ble_eq_true rfl) dX1_enter_45 ⟨Nat.le_of_ble_eq_true rfl, Nat.le_of_ble_eq_true rfl⟩ (fun r1 ur1 H locs hr1 hP hD hS => ?_)
          obtain ⟨rfl, rfl⟩ : r1 = (fAdd Ch R Ln Ky zz nn).1 ∧ ur1 = (fAdd Ch R Ln Ky zz nn).2 := by rw [hr1]; exact ⟨rfl, rfl⟩
          have hP : va_P D vwCl (wC ad ca sd tc sc tr st ((fAdd Ch R Ln Ky zz nn).2.2.2.2) T Wt O SA KA ((fAdd Ch R Ln Ky zz nn).2.1) ((fAdd Ch R Ln Ky zz nn).2.2.1) ((fAdd Ch R Ln Ky zz nn).2.2.2.1) Ch X) H := hP
          have hD : va_D A (wC ad ca sd tc sc tr st ((fAdd Ch R Ln Ky zz nn).2.2.2.2) T Wt O SA KA ((fAdd Ch R Ln Ky zz nn).2.1) ((fAdd Ch R Ln Ky zz nn).2.2.1) ((fAdd Ch R Ln Ky zz nn).2.2.2.1) Ch X) := hD
          exact nk_retI (g := _) ((fAdd Ch R Ln Ky zz nn).2.1, (fAdd Ch R Ln Ky zz nn).2.2.1, (fAdd Ch R Ln Ky zz nn).2.2.2.1, (fAdd Ch R Ln Ky zz nn).2.2.2.2) hx hb hr hlocks hP hD hS dX1_enter_48 (by rw [← ht]; exact (if_pos c34))
        · skip
          refine lv_bipush (v := -2) hx hb dX1_enter_37 (by decide) ?_
          refine lv_goto (tgt := 48) hx hb dX1_enter_39 (by decide) ?_
          exact nk_retI (g := _) (R, Ln, Ky, (nI zz)) hx hb hr hlocks hP hD hS dX1_enter_48 (by rw [← ht]; exact (if_neg c34))
      · skip
        exact absurd (by rw [hi]; exact nI_le (by omega) (by omega)) c7
    | succ k ih2 =>
      intro i H locs ls hk hi ht hP hD hS hl
      refine lv_iload_n hx hb dX1_enter_2 rfl (lv_at hl 0 rfl) ?_
      refine lv_aload_n hx hb dX1_enter_3 rfl (lv_at hl 1 rfl) ?_
      refine va_get (D := D) (ci := 1) (v := .int (nI zz)) (C := RX1) (T := TX1) (N := 5) hx hb hts iX1 hown hK.1 hP 2 rfl rfl 4 (by decide) (hts (.fieldLink RX1 25 "NamedStreams$Paths" "size" "I") (by decide +kernel)) (fun _ h9 => h9) rfl dX1_enter_4 ?_
      refine lv_icmp_ge (tgt := 28) hx hb dX1_enter_7 (by decide) (fun c7 => ?_) (fun c7 => ?_)
      · skip
        exact absurd c7 (Int32.not_le.mpr (by rw [hi]; exact nI_lt (by omega) (by omega)))
      · skip
        subst hi
        refine lv_aload_n hx hb dX1_enter_10 rfl (lv_at hl 1 rfl) ?_
        refine lv_iload_n hx hb dX1_enter_11 rfl (lv_at hl 0 rfl) ?_
        refine lv_aload_n hx hb dX1_enter_12 rfl (lv_at hl 2 rfl) ?_
        refine lv_iload_n hx hb dX1_enter_13 rfl (lv_at hl 3 rfl) ?_
        refine nk_VRI (As := [.int (nI (zz - (k + 1))), .ref (ad 10), .int (nI nn)]) (rest := []) ⟨hx, hb, hml, hown, hts⟩ (mX1_isLike_C l D ad ca sd tc sc tr st (nI zz) T Wt O SA KA R Ln Ky Ch X (zz - (k + 1)) nn (by omega) hn0) (cwV 3 hts gX1_enter_X1_isLike rfl rfl rfl (by decide +kernel) ⟨Nat.le_of_ble_eq_true rfl, Nat.le_of_ble_eq_true rfl⟩) hK hP 2 1 rfl rfl rfl rfl hl.1 rfl (Nat.le_of_ble_eq_true rfl) dX1_enter_14 ⟨Nat.le_of_ble_eq_true rfl, Nat.le_of_ble_eq_true rfl⟩ (fun r2 hr2 => ?_)
        subst hr2
        refine lv_if_eq (tgt := 22) hx hb dX1_enter_17 (by decide) (fun c17 => ?_) (fun c17 => ?_)
        · skip
          obtain ⟨i3, ei3⟩ : ∃ y : Int32, y = (nI (zz - (k + 1))) + 1 := ⟨_, rfl⟩
          refine lv_iinc (v := i3) (lv' := [(3, .int i3), (0, .ref (ad 2)), (1, .ref (ad 10)), (2, .int (nI nn))]) hx hb dX1_enter_22 hl (k := 0) rfl (by rw [ei3]; rfl) (by decide) rfl (fun ls hl => ?_)
          refine lv_goto (tgt := 2) hx hb dX1_enter_25 (by decide) ?_
          exact ih2 i3 _ _ _ (Nat.le_of_succ_le hk) (ns_step rfl hk ei3) (by rw [← ht, fEntL, if_pos c17]) hP hD hS (lv_sub hl [0, 1, 2, 3] rfl)
        · skip
          refine lv_iload_n hx hb dX1_enter_20 rfl (lv_at hl 0 rfl) ?_
          exact nk_retI (g := _) (R, Ln, Ky, (nI zz)) hx hb hr hlocks hP hD hS dX1_enter_21 (by rw [← ht, fEntL, if_neg c17])
  exact lp2 zz (0 : Int32) _ _ _ (Nat.le_refl zz) (by rw [Nat.sub_self]; rfl) rfl hP hD hS (lv_sub hl [0, 1, 2, 3] rfl)

set_option maxHeartbeats 800000 in
set_option maxRecDepth 100000 in
theorem mX1_enterChild (l : Launch) (D : va_G) (ad : Nat → Nat) (ca : Nat → ClassId) (sd : Int64) (tc : Int32) (sc : Int32) (tr : Int32) (st : Int32) (T : Nat → Int64) (Wt : Nat → Int64) (O : Nat → Int32) (SA : Nat → Option Nat) (KA : Nat → Option Nat) (R : Nat → Int64) (Ln : Nat → Int32) (Ky : Nat → Int64) (Ch : Nat → Int64) (X : va_W) (zz pp ll : Nat) (v0 : Int64) (hz0 : zz ≤ 24) (hp0 : pp < zz) (hl0 : Ln (Int32.toNatClampNeg (nI pp)) = nI ll) (hl1 : ll ≤ 4) : nkMI l yX1_enterChild wsX1_enterChild ({ frames := 3, cells := 0, slots := 0, locals := 72 }) D (tC ca) [.ref (ad 2), .int (nI pp), .long v0] (wC ad ca sd tc sc tr st (nI zz) T Wt O SA KA R Ln Ky Ch X) (fun u : (Nat → Int64) × sPth => wC ad ca sd tc sc tr st u.2.2.2.2 T Wt O SA KA u.2.1 u.2.2.1 u.2.2.2.1 u.1 X) (fun r u => fEntC R Ch Ln Ky zz (nI pp) ll v0 = (r, u)) 0 0 := by
  refine nk_ofM (Qf := fun A => va_Qi (fun r u => fEntC R Ch Ln Ky zz (nI pp) ll v0 = (r, u)) (nkB D A (fun u : (Nat → Int64) × sPth => wC ad ca sd tc sc tr st u.2.2.2.2 T Wt O SA KA u.2.1 u.2.2.1 u.2.2.2.1 u.1 X)) A) (cc := cX1_enterChild) (maxL := 6) (ret := (some .int)) (by decide) rfl (Nat.le_of_ble_eq_true rfl) ?_
  intro p e s m below meth c A hx hb hr hml hts hown hlocks hin hK hP hD hA hS ls hl
  replace hown : s.vm.findClass RX1 = some m.cls := hown
  replace hl : lv_has ls 6 [(0, .ref (ad 2)), (1, .int (nI pp)), (2, .long v0)] := hl
  have hP : va_P D vwCl (wC ad ca sd tc sc tr st (nI zz) T Wt O SA KA R Ln Ky Ch X) s.heap := hP
  have iX1 : ∀ w ∈ u_ws RX1 TX1 5, w ∈ wsX1_enterChild := by decide +kernel
  refine lv_aload_n hx hb dX1_enterChild_0 rfl (lv_at hl 0 rfl) ?_
  refine va_get (D := D) (ci := 1) (v := .ref (ad 8)) (C := RX1) (T := TX1) (N := 5) hx hb hts iX1 hown hK.1 hP 2 rfl rfl 1 (by decide) (hts (.fieldLink RX1 15 "NamedStreams$Paths" "lengths" "[I") (by decide +kernel)) (fun _ h9 => h9) rfl dX1_enterChild_1 ?_
  refine lv_iload_n hx hb dX1_enterChild_4 rfl (lv_at hl 1 rfl) ?_
  refine va_iald hx hb hK.1 hP 8 6 rfl rfl (vp_in_nI (show pp < 24 by omega) (by decide)) dX1_enterChild_5 ?_
  refine lv_topi (fun z1 ez1 => ?_)
  refine lv_istore (lv' := [(4, .int z1), (0, .ref (ad 2)), (1, .int (nI pp)), (2, .long v0)]) hx hb dX1_enterChild_6 hl (by decide) rfl (fun ls hl => ?_)
  obtain rfl : z1 = nI ll := ez1.trans hl0
  have hl4 : ll ≤ 4 := hl1
  refine lv_iload hx hb dX1_enterChild_8 (lv_at hl 0 rfl) ?_
  refine lv_iconst (v := 4) hx hb dX1_enterChild_10 (by decide) ?_
  refine lv_icmp_lt (tgt := 17) hx hb dX1_enterChild_11 (by decide) (fun c11 => ?_) (fun c11 => ?_)
  · skip
    refine lv_iconst (v := 0) hx hb dX1_enterChild_17 (by decide) ?_
    refine lv_istore (lv' := [(5, .int (0 : Int32)), (4, .int (nI ll)), (0, .ref (ad 2)), (1, .int (nI pp)), (2, .long v0)]) hx hb dX1_enterChild_18 hl (by decide) rfl (fun ls hl => ?_)
    have lp20 : ∀ (k : Nat) (i : Int32) (Ch1 : Nat → Int64) (H : Heap) (locs : List Loc) (ls : Array Slot), k ≤ ll → i = nI (ll - k) → fCopy R (nI pp) ll k Ch1 = fCopy R (nI pp) ll ll Ch → va_P D vwCl (wC ad ca sd tc sc tr st (nI zz) T Wt O SA KA R Ln Ky Ch1 X) H → va_D A (wC ad ca sd tc sc tr st (nI zz) T Wt O SA KA R Ln Ky Ch1 X) → va_S A s.heap H locs → lv_has ls 6 [(5, .int i), (4, .int (nI ll)), (0, .ref (ad 2)), (1, .int (nI pp)), (2, .long v0)] → W p l e ({ frames := 3, cells := 0, slots := 0, locals := 72 } : Room) s m ([.ref (ad 2), .int (nI pp), .long v0] : List Value).toArray below meth c H locs 0 0 (MQ below (va_Qi (fun r u => fEntC R Ch Ln Ky zz (nI pp) ll v0 = (r, u)) (nkB D A (fun u : (Nat → Int64) × sPth => wC ad ca sd tc sc tr st u.2.2.2.2 T Wt O SA KA u.2.1 u.2.2.1 u.2.2.2.1 u.1 X)) A) ([.ref (ad 2), .int (nI pp), .long v0] : List Value).toArray s 0 0 A) (F0 m 20 ls []) := by
      intro k
      induction k with
      | zero =>
        intro i Ch1 H locs ls hk hi ht hP hD hS hl
        refine lv_iload hx hb dX1_enterChild_20 (lv_at hl 0 rfl) ?_
        refine lv_iload hx hb dX1_enterChild_22 (lv_at hl 1 rfl) ?_
        refine lv_icmp_ge (tgt := 51) hx hb dX1_enterChild_24 (by decide) (fun c24 => ?_) (fun c24 => ?_)
        · skip
          refine lv_aload_n hx hb dX1_enterChild_51 rfl (lv_at hl 2 rfl) ?_
          refine va_get (D := D) (ci := 1) (v := .ref (ad 10)) (C := RX1) (T := TX1) (N := 5) hx hb hts iX1 hown hK.1 hP 2 rfl rfl 3 (by decide) (hts (.fieldLink RX1 22 "NamedStreams$Paths" "child" "[J") (by decide +kernel)) (fun _ h9 => h9) rfl dX1_enterChild_52 ?_
          refine lv_iload hx hb dX1_enterChild_55 (lv_at hl 1 rfl) ?_
          refine lv_lload_n hx hb dX1_enterChild_57 rfl (lv_at hl 4 rfl) ?_
          refine va_last hx hb hK.1 hP hD hS 10 8 rfl rfl (vp_in_nI (ns_lt_of c11 rfl (by omega) (by decide)) (by decide)) dX1_enterChild_58 (fun H locs hP hD hS => ?_)
          have hP : va_P D vwCl (wC ad ca sd tc sc tr st (nI zz) T Wt O SA KA R Ln Ky (vp_updL Ch1 (Int32.toNatClampNeg (nI ll)) v0) X) H := hP
          have hD : va_D A (wC ad ca sd tc sc tr st (nI zz) T Wt O SA KA R Ln Ky (vp_updL Ch1 (Int32.toNatClampNeg (nI ll)) v0) X) := hD
          have hCh : vp_updL Ch1 (Int32.toNatClampNeg (nI ll)) v0 = fChild R Ch (nI pp) ll v0 := by have ht2 : Ch1 = fCopy R (nI pp) ll ll Ch := ht; rw [ht2]; rfl
          rw [hCh] at hP hD
          refine lv_aload_n hx hb dX1_enterChild_59 rfl (lv_at hl 2 rfl) ?_
          refine lv_aload_n hx hb dX1_enterChild_60 rfl (lv_at hl 2 rfl) ?_
          refine va_get (D := D) (ci := 1) (v := .ref (ad 10)) (C := RX1) (T := TX1) (N := 5) hx hb hts iX1 hown hK.1 hP 2 rfl rfl 3 (by decide) (hts (.fieldLink RX1 22 "NamedStreams$Paths" "child" "[J") (by decide +kernel)) (fun _ h9 => h9) rfl dX1_enterChild_61 ?_
          refine lv_iload hx hb dX1_enterChild_64 (lv_at hl 1 rfl) ?_
          refine lv_iconst (v := 1) hx hb dX1_enterChild_66 (by decide) ?_
          refine lv_iadd hx hb dX1_enterChild_67 ?_
          refine W.eq (g2 := F0 m 68 ls [.int (nI (ll + 1)), .ref (ad 10), .ref (ad 2)]) (by rw [nI_1]) ?_
          refine nk_VI (As := [.ref (ad 10), .int (nI (ll + 1))]) (rest := []) ⟨hx, hb, hml, hown, hts⟩ (mX1_enter_C l D ad ca sd tc sc tr st T Wt O SA KA R Ln Ky (fChild R Ch (nI pp) ll v0) X zz (ll + 1) hz0 (by have := ns_lt_of (n := 4) c11 rfl (by omega) (by decide); omega)) (cwV 2 hts gX1_enterChild_X1_enter rfl rfl rfl (by decide +kernel) ⟨Nat.le_of_ble_eq_true rfl, Nat.le_of_ble_eq_true rfl⟩) hK hP hD hS hA 2 1 rfl rfl rfl rfl hl.1 rfl (Nat.le_of_ble_eq_true rfl) dX1_enterChild_68 ⟨Nat.le_of_ble_eq_true rfl, Nat.le_of_ble_eq_true rfl⟩ (fun r2 ur2 H locs hr2 hP hD hS => ?_)
          obtain ⟨rfl, rfl⟩ : r2 = (fEnt (fChild R Ch (nI pp) ll v0) R Ln Ky zz (ll + 1)).1 ∧ ur2 = (fEnt (fChild R Ch (nI pp) ll v0) R Ln Ky zz (ll + 1)).2 := by rw [hr2]; exact ⟨rfl, rfl⟩
          have hP : va_P D vwCl (wC ad ca sd tc sc tr st ((fEnt (fChild R Ch (nI pp) ll v0) R Ln Ky zz (ll + 1)).2.2.2.2) T Wt O SA KA ((fEnt (fChild R Ch (nI pp) ll v0) R Ln Ky zz (ll + 1)).2.1) ((fEnt (fChild R Ch (nI pp) ll v0) R Ln Ky zz (ll + 1)).2.2.1) ((fEnt (fChild R Ch (nI pp) ll v0) R Ln Ky zz (ll + 1)).2.2.2.1) (fChild R Ch (nI pp) ll v0) X) H := hP
          have hD : va_D A (wC ad ca sd tc sc tr st ((fEnt (fChild R Ch (nI pp) ll v0) R Ln Ky zz (ll + 1)).2.2.2.2) T Wt O SA KA ((fEnt (fChild R Ch (nI pp) ll v0) R Ln Ky zz (ll + 1)).2.1) ((fEnt (fChild R Ch (nI pp) ll v0) R Ln Ky zz (ll + 1)).2.2.1) ((fEnt (fChild R Ch (nI pp) ll v0) R Ln Ky zz (ll + 1)).2.2.2.1) (fChild R Ch (nI pp) ll v0) X) := hD
          exact nk_retI (g := _) ((fChild R Ch (nI pp) ll v0), (fEnt (fChild R Ch (nI pp) ll v0) R Ln Ky zz (ll + 1)).2.1, (fEnt (fChild R Ch (nI pp) ll v0) R Ln Ky zz (ll + 1)).2.2.1, (fEnt (fChild R Ch (nI pp) ll v0) R Ln Ky zz (ll + 1)).2.2.2.1, (fEnt (fChild R Ch (nI pp) ll v0) R Ln Ky zz (ll + 1)).2.2.2.2) hx hb hr hlocks hP hD hS dX1_enterChild_71 (if_pos c11)
        · skip
          exact absurd (by rw [hi]; exact nI_le (by omega) (by omega)) c24
      | succ k ih20 =>
        intro i Ch1 H locs ls hk hi ht hP hD hS hl
        refine lv_iload hx hb dX1_enterChild_20 (lv_at hl 0 rfl) ?_
        refine lv_iload hx hb dX1_enterChild_22 (lv_at hl 1 rfl) ?_
        refine lv_icmp_ge (tgt := 51) hx hb dX1_enterChild_24 (by decide) (fun c24 => ?_) (fun c24 => ?_)
        · skip
          exact absurd c24 (Int32.not_le.mpr (by rw [hi]; exact nI_lt (by omega) (by omega)))
        · skip
          refine lv_aload_n hx hb dX1_enterChild_27 rfl (lv_at hl 2 rfl) ?_
          refine va_get (D := D) (ci := 1) (v := .ref (ad 10)) (C := RX1) (T := TX1) (N := 5) hx hb hts iX1 hown hK.1 hP 2 rfl rfl 3 (by decide) (hts (.fieldLink RX1 22 "NamedStreams$Paths" "child" "[J") (by decide +kernel)) (fun _ h9 => h9) rfl dX1_enterChild_28 ?_
          refine lv_iload hx hb dX1_enterChild_31 (lv_at hl 0 rfl) ?_
          refine lv_aload_n hx hb dX1_enterChild_33 rfl (lv_at hl 2 rfl) ?_
          refine va_get (D := D) (ci := 1) (v := .ref (ad 7)) (C := RX1) (T := TX1) (N := 5) hx hb hts iX1 hown hK.1 hP 2 rfl rfl 0 (by decide) (hts (.fieldLink RX1 9 "NamedStreams$Paths" "rows" "[J") (by decide +kernel)) (fun _ h9 => h9) rfl dX1_enterChild_34 ?_
          refine lv_iload_n hx hb dX1_enterChild_37 rfl (lv_at hl 3 rfl) ?_
          refine lv_iconst (v := 4) hx hb dX1_enterChild_38 (by decide) ?_
          refine lv_imul hx hb dX1_enterChild_39 ?_
          refine lv_iload hx hb dX1_enterChild_40 (lv_at hl 0 rfl) ?_
          refine lv_iadd hx hb dX1_enterChild_42 ?_
          refine va_lald hx hb hK.1 hP 7 5 rfl rfl (by rw [hi]; exact ns_in96 (m := 0) (j := 0) (show pp < 24 by omega) (by omega)) dX1_enterChild_43 ?_
          refine lv_topl (fun z3 ez3 => ?_)
          refine va_last hx hb hK.1 hP hD hS 10 8 rfl rfl (by rw [hi]; exact vp_in_nI (show ll - (k + 1) < 4 by omega) (by decide)) dX1_enterChild_44 (fun H locs hP hD hS => ?_)
          have hP : va_P D vwCl (wC ad ca sd tc sc tr st (nI zz) T Wt O SA KA R Ln Ky (vp_updL Ch1 (Int32.toNatClampNeg i) z3) X) H := hP
          have hD : va_D A (wC ad ca sd tc sc tr st (nI zz) T Wt O SA KA R Ln Ky (vp_updL Ch1 (Int32.toNatClampNeg i) z3) X) := hD
          obtain ⟨i4, ei4⟩ : ∃ y : Int32, y = i + 1 := ⟨_, rfl⟩
          refine lv_iinc (v := i4) (lv' := [(5, .int i4), (4, .int (nI ll)), (0, .ref (ad 2)), (1, .int (nI pp)), (2, .long v0)]) hx hb dX1_enterChild_45 hl (k := 0) rfl (by rw [ei4]; rfl) (by decide) rfl (fun ls hl => ?_)
          refine lv_goto (tgt := 20) hx hb dX1_enterChild_48 (by decide) ?_
          exact ih20 i4 (vp_updL Ch1 (Int32.toNatClampNeg i) z3) _ _ _ (Nat.le_of_succ_le hk) (ns_step hi hk ei4) (by subst hi; subst ez3; rw [fCopy] at ht; exact ht) hP hD hS (lv_sub hl [0, 1, 2, 3, 4] rfl)
    exact lp20 ll (0 : Int32) Ch _ _ _ (Nat.le_refl ll) (by rw [Nat.sub_self]; rfl) rfl hP hD hS (lv_sub hl [0, 1, 2, 3, 4] rfl)
  · skip
    refine lv_bipush (v := -2) hx hb dX1_enterChild_14 (by decide) ?_
    exact nk_retI (g := _) (Ch, R, Ln, Ky, (nI zz)) hx hb hr hlocks hP hD hS dX1_enterChild_16 (by exact (if_neg c11))

set_option maxHeartbeats 800000 in
set_option maxRecDepth 100000 in
theorem mX3_path (l : Launch) (D : va_G) (ad : Nat → Nat) (ca : Nat → ClassId) (sd : Int64) (sc : Int32) (tr : Int32) (st : Int32) (T : Nat → Int64) (Wt : Nat → Int64) (O : Nat → Int32) (SA : Nat → Option Nat) (KA : Nat → Option Nat) (R : Nat → Int64) (Ln : Nat → Int32) (Ky : Nat → Int64) (Ch : Nat → Int64) (X : va_W) (zz tt : Nat) (hz0 : zz ≤ 24) (ht0 : tt ≤ 4) : nkMI l yX3_path wsX3_path ({ frames := 3, cells := 0, slots := 0, locals := 72 }) D (tC ca) [.ref (ad 0)] (wC ad ca sd (nI tt) sc tr st (nI zz) T Wt O SA KA R Ln Ky Ch X) (fun u : Int32 × sPth => wC ad ca sd u.1 sc tr st u.2.2.2.2 T Wt O SA KA u.2.1 u.2.2.1 u.2.2.2.1 Ch X) (fun r u => fPath T R Ln Ky zz tt = (r, u)) 0 0 := by
  refine nk_ofM (Qf := fun A => va_Qi (fun r u => fPath T R Ln Ky zz tt = (r, u)) (nkB D A (fun u : Int32 × sPth => wC ad ca sd u.1 sc tr st u.2.2.2.2 T Wt O SA KA u.2.1 u.2.2.1 u.2.2.2.1 Ch X)) A) (cc := cX3_path) (maxL := 2) (ret := (some .int)) (by decide) rfl (Nat.le_of_ble_eq_true rfl) ?_
  intro p e s m below meth c A hx hb hr hml hts hown hlocks hin hK hP hD hA hS ls hl
  replace hown : s.vm.findClass RX3 = some m.cls := hown
  replace hl : lv_has ls 2 [(0, .ref (ad 0))] := hl
  have hP : va_P D vwCl (wC ad ca sd (nI tt) sc tr st (nI zz) T Wt O SA KA R Ln Ky Ch X) s.heap := hP
  have iX1 : ∀ w ∈ u_ws RX1 TX1 5, w ∈ wsX3_path := by decide +kernel
  have iX3 : ∀ w ∈ u_ws RX3 TX3 11, w ∈ wsX3_path := by decide +kernel
  refine lv_aload_n hx hb dX3_path_0 rfl (lv_at hl 0 rfl) ?_
  refine va_get (D := D) (ci := 3) (v := .int (nI tt)) (C := RX3) (T := TX3) (N := 11) hx hb hts iX3 hown hK.1 hP 0 rfl rfl 2 (by decide) (hts (.fieldLink RX3 13 "NamedStreams" "toldCount" "I") (by decide +kernel)) (fun _ h9 => h9) rfl dX3_path_1 ?_
  refine lv_if_ne (tgt := 9) hx hb dX3_path_4 (by decide) (fun c4 => ?_) (fun c4 => ?_)
  · skip
    refine lv_aload_n hx hb dX3_path_9 rfl (lv_at hl 0 rfl) ?_
    refine va_get (D := D) (ci := 3) (v := .ref (ad 2)) (C := RX3) (T := TX3) (N := 11) hx hb hts iX3 hown hK.1 hP 0 rfl rfl 3 (by decide) (hts (.fieldLink RX3 20 "NamedStreams" "paths" "LNamedStreams$Paths;") (by decide +kernel)) (fun _ h9 => h9) rfl dX3_path_10 ?_
    refine lv_aload_n hx hb dX3_path_13 rfl (lv_at hl 0 rfl) ?_
    refine va_get (D := D) (ci := 3) (v := .ref (ad 1)) (C := RX3) (T := TX3) (N := 11) hx hb hts iX3 hown hK.1 hP 0 rfl rfl 1 (by decide) (hts (.fieldLink RX3 9 "NamedStreams" "toldParts" "[J") (by decide +kernel)) (fun _ h9 => h9) rfl dX3_path_14 ?_
    refine lv_aload_n hx hb dX3_path_17 rfl (lv_at hl 0 rfl) ?_
    refine va_get (D := D) (ci := 3) (v := .int (nI tt)) (C := RX3) (T := TX3) (N := 11) hx hb hts iX3 hown hK.1 hP 0 rfl rfl 2 (by decide) (hts (.fieldLink RX3 13 "NamedStreams" "toldCount" "I") (by decide +kernel)) (fun _ h9 => h9) rfl dX3_path_18 ?_
    refine nk_VI (As := [.ref (ad 1), .int (nI tt)]) (rest := []) ⟨hx, hb, hml, hown, hts⟩ (mX1_enter_T l D ad ca sd (nI tt) sc tr st T Wt O SA KA R Ln Ky Ch X zz tt hz0 ht0) (cwV 2 hts gX3_path_X1_enter rfl rfl rfl (by decide +kernel) ⟨Nat.le_of_ble_eq_true rfl, Nat.le_of_ble_eq_true rfl⟩) hK hP hD hS hA 2 1 rfl rfl rfl rfl hl.1 rfl (Nat.le_of_ble_eq_true rfl) dX3_path_21 ⟨Nat.le_of_ble_eq_true rfl, Nat.le_of_ble_eq_true rfl⟩ (fun r1 ur1 H locs hr1 hP hD hS => ?_)
    obtain ⟨rfl, rfl⟩ : r1 = (fEnt T R Ln Ky zz tt).1 ∧ ur1 = (fEnt T R Ln Ky zz tt).2 := by rw [hr1]; exact ⟨rfl, rfl⟩
    have hP : va_P D vwCl (wC ad ca sd (nI tt) sc tr st ((fEnt T R Ln Ky zz tt).2.2.2.2) T Wt O SA KA ((fEnt T R Ln Ky zz tt).2.1) ((fEnt T R Ln Ky zz tt).2.2.1) ((fEnt T R Ln Ky zz tt).2.2.2.1) Ch X) H := hP
    have hD : va_D A (wC ad ca sd (nI tt) sc tr st ((fEnt T R Ln Ky zz tt).2.2.2.2) T Wt O SA KA ((fEnt T R Ln Ky zz tt).2.1) ((fEnt T R Ln Ky zz tt).2.2.1) ((fEnt T R Ln Ky zz tt).2.2.2.1) Ch X) := hD
    refine lv_topi (fun z2 ez2 => ?_)
    refine lv_istore_n (lv' := [(1, .int z2), (0, .ref (ad 0))]) hx hb dX3_path_24 rfl hl (by decide) rfl (fun ls hl => ?_)
    refine lv_iload_n hx hb dX3_path_25 rfl (lv_at hl 0 rfl) ?_
    refine lv_bipush (v := -2) hx hb dX3_path_26 (by decide) ?_
    refine lv_icmp_eq (tgt := 36) hx hb dX3_path_28 (by decide) (fun c28 => ?_) (fun c28 => ?_)
    · skip
      refine lv_iload_n hx hb dX3_path_36 rfl (lv_at hl 0 rfl) ?_
      exact nk_retI (g := _) ((nI tt), (fEnt T R Ln Ky zz tt).2.1, (fEnt T R Ln Ky zz tt).2.2.1, (fEnt T R Ln Ky zz tt).2.2.2.1, (fEnt T R Ln Ky zz tt).2.2.2.2) hx hb hr hlocks hP hD hS dX3_path_37 (by subst ez2; exact ((if_neg c4).trans (if_pos c28)))
    · skip
      refine lv_aload_n hx hb dX3_path_31 rfl (lv_at hl 1 rfl) ?_
      refine lv_iconst (v := 0) hx hb dX3_path_32 (by decide) ?_
      refine va_put (D := D) (ci := 3) (v := .int (0 : Int32)) (ty := .int) (C := RX3) (T := TX3) (N := 11) hx hb hts iX3 tyX3 tyX3_ok nmX3 hown hK.1 hP hD hS 0 rfl rfl 2 (by decide) (hts (.fieldLink RX3 13 "NamedStreams" "toldCount" "I") (by decide +kernel)) (fun _ h9 => h9) rfl (by decide +kernel) rfl rfl (Nat.le_of_ble_eq_true rfl) dX3_path_33 (fun H locs hP hD hS => ?_)
      have hP : va_P D vwCl (wC ad ca sd (0 : Int32) sc tr st ((fEnt T R Ln Ky zz tt).2.2.2.2) T Wt O SA KA ((fEnt T R Ln Ky zz tt).2.1) ((fEnt T R Ln Ky zz tt).2.2.1) ((fEnt T R Ln Ky zz tt).2.2.2.1) Ch X) H := hP
      have hD : va_D A (wC ad ca sd (0 : Int32) sc tr st ((fEnt T R Ln Ky zz tt).2.2.2.2) T Wt O SA KA ((fEnt T R Ln Ky zz tt).2.1) ((fEnt T R Ln Ky zz tt).2.2.1) ((fEnt T R Ln Ky zz tt).2.2.2.1) Ch X) := hD
      refine lv_iload_n hx hb dX3_path_36 rfl (lv_at hl 0 rfl) ?_
      exact nk_retI (g := _) ((0 : Int32), (fEnt T R Ln Ky zz tt).2.1, (fEnt T R Ln Ky zz tt).2.2.1, (fEnt T R Ln Ky zz tt).2.2.2.1, (fEnt T R Ln Ky zz tt).2.2.2.2) hx hb hr hlocks hP hD hS dX3_path_37 (by subst ez2; exact ((if_neg c4).trans (if_neg c28)))
  · skip
    refine lv_iconst (v := -1) hx hb dX3_path_7 (by decide) ?_
    exact nk_retI (g := _) ((nI tt), R, Ln, Ky, (nI zz)) hx hb hr hlocks hP hD hS dX3_path_8 (by exact (if_pos c4))
