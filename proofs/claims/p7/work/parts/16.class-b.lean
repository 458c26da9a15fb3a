/-! what the class's methods compute, on -/
def fSpanC (sd : Int64) (pz : Int32) (Ky : Nat → Int64) (run : Int64) (p c : Int32) (n : Int64) (tr : Int32) : Int64 × Int32 := if n = 0 then (-4, tr) else if fHas pz p = 0 then (-1, tr) else if c < 0 then (-1, tr) else if 0 ≤ n then fSpan (fBase sd run (Ky p.toNatClampNeg)) (fFirst c) n tr else (-1, tr)
/-- the bits of a word from place j - 1 down, against the digits of r / b; K: what comes behind the word -/
def fFrW (w b : Int64) : Nat → Int64 → Int32 → (Int64 → Int32 → Int32 × Int32) → Int32 × Int32
  | 0, r, tr, K => K r tr
  | j + 1, r, tr, K => if r < b - r then (if nsU w (nI j) &&& 1 = 1 then (0, tr + 1) else if r + r = 0 then (0, tr + 1) else fFrW w b j (r + r) (tr + 1) K)
    else (if nsU w (nI j) &&& 1 = 1 then (if r - (b - r) = 0 then (0, tr + 1) else fFrW w b j (r - (b - r)) (tr + 1) K) else (1, tr + 1))
def fFrac (o f b : Int64) : Nat → Int64 → Int32 → Int32 × Int32
  | 0, _, tr => (-3, tr)
  | k + 1, r, tr => fFrW (fWord o (f + (nI (32 - (k + 1))).toInt64)) b 64 r tr (fun r t => fFrac o f b k r t)
def fFracD (o f a b : Int64) : Int32 × Int32 := if a = b then (1, 0) else if a = 0 then (0, 0) else fFrac o f b 32 a 0
def fFracC (sd : Int64) (pz : Int32) (Ky : Nat → Int64) (run : Int64) (p c : Int32) (a b : Int64) (tr : Int32) : Int32 × Int32 := if fHas pz p = 0 then (-1, tr) else if c < 0 then (-1, tr) else if b < 0 then (-1, tr) else if a < 0 then (-1, tr) else if a ≤ b then (if b = 0 then (-4, tr) else fFracD (fBase sd run (Ky p.toNatClampNeg)) (fFirst c) a b) else (-1, tr)
def fWeight (Wt : Nat → Int64) (k : Int32) (w : Int64) : Int32 × (Nat → Int64) := if k < 0 then (-1, Wt) else if 10 ≤ k then (-1, Wt) else if 0 ≤ w then (1, vp_updL Wt k.toNatClampNeg w) else (-1, Wt)
def fSum (Wt : Nat → Int64) : Nat → Int64 → Int64
  | 0, s => s
  | k + 1, s => if 0 ≤ s + Wt (nI (10 - (k + 1))).toNatClampNeg then fSum Wt k (s + Wt (nI (10 - (k + 1))).toNatClampNeg) else -5
def fReach (Wt : Nat → Int64) : Nat → Int64 → Int32
  | 0, _ => nI 9
  | k + 1, d => if d < Wt (nI (9 - (k + 1))).toNatClampNeg then nI (9 - (k + 1)) else fReach Wt k (d - Wt (nI (9 - (k + 1))).toNatClampNeg)
def fPick (o f : Int64) (Wt : Nat → Int64) (tr : Int32) : Int32 × Int32 := if fSum Wt 10 0 = 0 then (-4, tr) else if 0 ≤ fSum Wt 10 0 then (if 0 ≤ (fSpan o f (fSum Wt 10 0) tr).1 then (fReach Wt 9 (fSpan o f (fSum Wt 10 0) tr).1, (fSpan o f (fSum Wt 10 0) tr).2) else (-3, (fSpan o f (fSum Wt 10 0) tr).2)) else (-5, tr)
def fPickC (sd : Int64) (pz : Int32) (Ky Wt : Nat → Int64) (run : Int64) (p c : Int32) (tr : Int32) : Int32 × Int32 := if fHas pz p = 0 then (-1, tr) else if 0 ≤ c then fPick (fBase sd run (Ky p.toNatClampNeg)) (fFirst c) Wt tr else (-1, tr)
def fFill (n : Nat) : Nat → (Nat → Int32) → (Nat → Int32)
  | 0, O => O
  | k + 1, O => fFill n k (upd O (nI (n - (k + 1))).toNatClampNeg (nI (n - (k + 1))))
def fSwap (O : Nat → Int32) (i j : Int32) : Nat → Int32 := upd (upd O i.toNatClampNeg (O j.toNatClampNeg)) j.toNatClampNeg (O i.toNatClampNeg)
def fPerm (o : Int64) (c : Int32) : Nat → (Nat → Int32) → Int32 → Int32 × (Nat → Int32) × Int32
  | 0, O, tr => (1, O, tr)
  | i + 1, O, tr => if 0 ≤ (fSpan o (fFirst (c + nI (i + 1))) ((nI (i + 1) + 1).toInt64) tr).1 then fPerm o c i (fSwap O (nI (i + 1)) (fSpan o (fFirst (c + nI (i + 1))) ((nI (i + 1) + 1).toInt64) tr).1.toInt32) (fSpan o (fFirst (c + nI (i + 1))) ((nI (i + 1) + 1).toInt64) tr).2 else (0, O, (fSpan o (fFirst (c + nI (i + 1))) ((nI (i + 1) + 1).toInt64) tr).2)
def fPermD (o : Int64) (c : Int32) (n : Nat) (O : Nat → Int32) (tr : Int32) : Int32 × (Nat → Int32) × Int32 := fPerm o c (n - 1) (fFill n n O) tr
def fPermC (sd : Int64) (pz : Int32) (Ky : Nat → Int64) (O : Nat → Int32) (run : Int64) (p c n k : Int32) (tr : Int32) : Int32 × (Nat → Int32) × Int32 := if fHas pz p = 0 then (-1, O, tr) else if c < 0 then (-1, O, tr) else if n < 0 then (-1, O, tr) else if 40 < n then (-1, O, tr) else if k < 0 then (-1, O, tr) else if k < n then (if c ≤ 2147483647 - n then (if (fPermD (fBase sd run (Ky p.toNatClampNeg)) c n.toNatClampNeg O tr).1 = 0 then (-3, (fPermD (fBase sd run (Ky p.toNatClampNeg)) c n.toNatClampNeg O tr).2) else ((fPermD (fBase sd run (Ky p.toNatClampNeg)) c n.toNatClampNeg O tr).2.1 k.toNatClampNeg, (fPermD (fBase sd run (Ky p.toNatClampNeg)) c n.toNatClampNeg O tr).2)) else (-1, O, tr)) else (-1, O, tr)
def fCounted (b n i : Int32) : Int32 := if b < 1 then -1 else if 16 < b then -1 else if n < 1 then -1 else if 65536 < n then -1 else if i < 0 then -1 else if i < n then ((1 : Int32) <<< (b &&& 31)) / n else -1
def fCount (pz sc tc x : Int32) : Int32 := if x = 0 then pz else if x = 1 then sc else if x = 2 then tc else -1
theorem ns_out {x : Int32} {lo hi : Int} (_ : (0 : Int) ≤ 0) (_ : (0 : Int) ≤ 0) (h : x.toInt < lo ∨ hi < x.toInt) : x.toInt < lo ∨ hi < x.toInt := h
theorem ns_out3 {x : Int32} (h0 : ¬ x = 0) (h1 : ¬ x = 1) (h2 : ¬ x = 2) : x.toInt < 0 ∨ 2 < x.toInt := by
  have a0 := lv_neT h0 (a := 0) rfl
  have a1 := lv_neT h1 (a := 1) rfl
  have a2 := lv_neT h2 (a := 2) rfl
  omega
theorem ns_nn {x : Int32} (h : ¬ x < 0) : 0 ≤ x := Int32.not_lt.mp h
theorem ns_pos {n : Int64} (h0 : ¬ n = 0) (h : 0 ≤ n) : 0 < n := by
  rw [Int64.le_iff_toInt_le] at h
  rw [Int64.lt_iff_toInt_lt]
  have h3 : (0 : Int64).toInt = 0 := rfl
  have h4 : n.toInt ≠ 0 := fun q => h0 (Int64.toInt_inj.mp q)
  omega
theorem ns_m1 (x : Int32) : x + (-1) = x - 1 := (Int32.sub_eq_add_neg x 1).symm
set_option maxHeartbeats 4000000 in
set_option maxRecDepth 100000 in
theorem mX3_span (l : Launch) (D : va_G) (ad : Nat → Nat) (ca : Nat → ClassId) (sd : Int64) (tc : Int32) (sc : Int32) (tr : Int32) (st : Int32) (pz : Int32) (T : Nat → Int64) (Wt : Nat → Int64) (O : Nat → Int32) (SA : Nat → Option Nat) (KA : Nat → Option Nat) (R : Nat → Int64) (Ln : Nat → Int32) (Ky : Nat → Int64) (Ch : Nat → Int64) (X : va_W) (run0 : Int64) (p0 c0 : Int32) (n0 : Int64) (hz : pz ≤ 24) : nkML l yX3_span wsX3_span ({ frames := 3, cells := 0, slots := 0, locals := 85 }) D (tC ca) [.ref (ad 0), .long run0, .int p0, .int c0, .long n0] (wC ad ca sd tc sc tr st pz T Wt O SA KA R Ln Ky Ch X) (fun u : Int32 => wC ad ca sd tc sc u st pz T Wt O SA KA R Ln Ky Ch X) (fun r u => fSpanC sd pz Ky run0 p0 c0 n0 tr = (r, u)) 0 0 := by
  refine nk_ofM (Qf := fun A => va_Ql (fun r u => fSpanC sd pz Ky run0 p0 c0 n0 tr = (r, u)) (nkB D A (fun u : Int32 => wC ad ca sd tc sc u st pz T Wt O SA KA R Ln Ky Ch X)) A) (cc := cX3_span) (maxL := 7) (ret := (some .long)) (by decide) rfl (Nat.le_of_ble_eq_true rfl) ?_
  intro p e s m below meth c A hx hb hr hml hts hown hlocks hin hK hP hD hA hS ls hl
  replace hown : s.vm.findClass RX3 = some m.cls := hown
  replace hl : lv_has ls 7 [(0, .ref (ad 0)), (1, .long run0), (3, .int p0), (4, .int c0), (5, .long n0)] := hl
  have hP : va_P D vwCl (wC ad ca sd tc sc tr st pz T Wt O SA KA R Ln Ky Ch X) s.heap := hP
  have iX1 : ∀ w ∈ u_ws RX1 TX1 5, w ∈ wsX3_span := by decide +kernel
  have iX3 : ∀ w ∈ u_ws RX3 TX3 11, w ∈ wsX3_span := by decide +kernel
  refine lv_lload hx hb dX3_span_0 (lv_at hl 4 rfl) ?_
  refine lv_lconst (v := 0) hx hb dX3_span_2 (by decide) ?_
  refine W.lcmp hx hb dX3_span_3 ?_
  refine lv_if_ne (tgt := 11) hx hb dX3_span_4 (by decide) (fun c4 => ?_) (fun c4 => ?_)
  · skip
    have c4 : ¬ (n0 = (0 : Int64)) := fun h => c4 ((lg_cmp_eq _ _).mpr h)
    refine lv_aload_n hx hb dX3_span_11 rfl (lv_at hl 0 rfl) ?_
    refine va_get (D := D) (ci := 3) (v := .ref (ad 2)) (C := RX3) (T := TX3) (N := 11) hx hb hts iX3 hown hK.1 hP 0 rfl rfl 3 (by decide) (hts (.fieldLink RX3 20 "NamedStreams" "paths" "LNamedStreams$Paths;") (by decide +kernel)) (fun _ h9 => h9) rfl dX3_span_12 ?_
    refine lv_iload_n hx hb dX3_span_15 rfl (lv_at hl 2 rfl) ?_
    refine nk_VRI (As := [.int p0]) (rest := []) ⟨hx, hb, hml, hown, hts⟩ (mX1_has l D ad ca sd tc sc tr st pz T Wt O SA KA R Ln Ky Ch X p0) (cwV 1 hts gX3_span_X1_has rfl rfl rfl (by decide +kernel) ⟨Nat.le_of_ble_eq_true rfl, Nat.le_of_ble_eq_true rfl⟩) hK hP 2 1 rfl rfl rfl rfl hl.1 rfl (Nat.le_of_ble_eq_true rfl) dX3_span_16 ⟨Nat.zero_le _, Nat.zero_le _⟩ (fun r1 hr1 => ?_)
    subst hr1
    refine lv_if_eq (tgt := 34) hx hb dX3_span_19 (by decide) (fun c19 => ?_) (fun c19 => ?_)
    · skip
      refine lv_ldc2 (v := -1) hx hb hown (hts (.constantLong RX3 77 (-1)) (by decide +kernel)) dX3_span_34 ?_
      exact nk_retL (g := _) tr hx hb hr hlocks hP hD hS dX3_span_37 (by exact ((if_neg c4).trans (if_pos c19)))
    · skip
      refine lv_iload hx hb dX3_span_22 (lv_at hl 3 rfl) ?_
      refine lv_if_lt (tgt := 34) hx hb dX3_span_24 (by decide) (fun c24 => ?_) (fun c24 => ?_)
      · skip
        refine lv_ldc2 (v := -1) hx hb hown (hts (.constantLong RX3 77 (-1)) (by decide +kernel)) dX3_span_34 ?_
        exact nk_retL (g := _) tr hx hb hr hlocks hP hD hS dX3_span_37 (by exact ((if_neg c4).trans ((if_neg c19).trans (if_pos c24))))
      · skip
        refine lv_lload hx hb dX3_span_27 (lv_at hl 4 rfl) ?_
        refine lv_lconst (v := 0) hx hb dX3_span_29 (by decide) ?_
        refine W.lcmp hx hb dX3_span_30 ?_
        refine lv_if_ge (tgt := 38) hx hb dX3_span_31 (by decide) (fun c31 => ?_) (fun c31 => ?_)
        · skip
          have c31 : (0 : Int64) ≤ n0 := (lg_cmp_ge _ _).mp c31
          refine lv_aload_n hx hb dX3_span_38 rfl (lv_at hl 0 rfl) ?_
          refine lv_lload_n hx hb dX3_span_39 rfl (lv_at hl 1 rfl) ?_
          refine lv_iload_n hx hb dX3_span_40 rfl (lv_at hl 2 rfl) ?_
          refine lv_iload hx hb dX3_span_41 (lv_at hl 3 rfl) ?_
          refine lv_lload hx hb dX3_span_43 (lv_at hl 4 rfl) ?_
          refine nk_VL (As := [.long run0, .int p0, .int c0, .long n0]) (rest := []) ⟨hx, hb, hml, hown, hts⟩ (mX3_drawSpan l D ad ca sd tc sc tr st pz T Wt O SA KA R Ln Ky Ch X run0 p0 c0 n0 (ns_hasIn c19 hz) c4) (cwV 4 hts gX3_span_X3_drawSpan rfl rfl rfl (by decide +kernel) ⟨Nat.le_of_ble_eq_true rfl, Nat.le_of_ble_eq_true rfl⟩) hK hP hD hS hA 0 3 rfl rfl rfl rfl hl.1 rfl (Nat.le_of_ble_eq_true rfl) dX3_span_45 ⟨Nat.zero_le _, Nat.zero_le _⟩ (fun r2 ur2 H locs hr2 hP hD hS => ?_)
          obtain ⟨rfl, rfl⟩ : r2 = (fSpan (fBase sd run0 (Ky (Int32.toNatClampNeg p0))) (fFirst c0) n0 tr).1 ∧ ur2 = (fSpan (fBase sd run0 (Ky (Int32.toNatClampNeg p0))) (fFirst c0) n0 tr).2 := by rw [hr2]; exact ⟨rfl, rfl⟩
          have hP : va_P D vwCl (wC ad ca sd tc sc ((fSpan (fBase sd run0 (Ky (Int32.toNatClampNeg p0))) (fFirst c0) n0 tr).2) st pz T Wt O SA KA R Ln Ky Ch X) H := hP
          have hD : va_D A (wC ad ca sd tc sc ((fSpan (fBase sd run0 (Ky (Int32.toNatClampNeg p0))) (fFirst c0) n0 tr).2) st pz T Wt O SA KA R Ln Ky Ch X) := hD
          exact nk_retL (g := _) ((fSpan (fBase sd run0 (Ky (Int32.toNatClampNeg p0))) (fFirst c0) n0 tr).2) hx hb hr hlocks hP hD hS dX3_span_48 (by exact ((if_neg c4).trans ((if_neg c19).trans ((if_neg c24).trans (if_pos c31)))))
        · skip
          have c31 : ¬ ((0 : Int64) ≤ n0) := fun h => c31 ((lg_cmp_ge _ _).mpr h)
          refine lv_ldc2 (v := -1) hx hb hown (hts (.constantLong RX3 77 (-1)) (by decide +kernel)) dX3_span_34 ?_
          exact nk_retL (g := _) tr hx hb hr hlocks hP hD hS dX3_span_37 (by exact ((if_neg c4).trans ((if_neg c19).trans ((if_neg c24).trans (if_neg c31)))))
  · skip
    have c4 : n0 = (0 : Int64) := (lg_cmp_eq _ _).mp c4
    refine lv_ldc2 (v := -4) hx hb hown (hts (.constantLong RX3 75 (-4)) (by decide +kernel)) dX3_span_7 ?_
    exact nk_retL (g := _) tr hx hb hr hlocks hP hD hS dX3_span_10 (by exact (if_pos c4))

set_option maxHeartbeats 4000000 in
set_option maxRecDepth 100000 in
theorem mX3_drawFraction (l : Launch) (D : va_G) (ad : Nat → Nat) (ca : Nat → ClassId) (sd : Int64) (tc : Int32) (sc : Int32) (tr : Int32) (st : Int32) (pz : Int32) (T : Nat → Int64) (Wt : Nat → Int64) (O : Nat → Int32) (SA : Nat → Option Nat) (KA : Nat → Option Nat) (R : Nat → Int64) (Ln : Nat → Int32) (Ky : Nat → Int64) (Ch : Nat → Int64) (X : va_W) (run0 : Int64) (p0 c0 : Int32) (a0 b0 : Int64) (hp0 : vp_in p0 24) : nkMI l yX3_drawFraction wsX3_drawFraction ({ frames := 2, cells := 0, slots := 0, locals := 46 }) D (tC ca) [.ref (ad 0), .long run0, .int p0, .int c0, .long a0, .long b0] (wC ad ca sd tc sc tr st pz T Wt O SA KA R Ln Ky Ch X) (fun u : Int32 => wC ad ca sd tc sc u st pz T Wt O SA KA R Ln Ky Ch X) (fun r u => fFracD (fBase sd run0 (Ky p0.toNatClampNeg)) (fFirst c0) a0 b0 = (r, u)) 0 0 := by
  refine nk_ofM (Qf := fun A => va_Qi (fun r u => fFracD (fBase sd run0 (Ky p0.toNatClampNeg)) (fFirst c0) a0 b0 = (r, u)) (nkB D A (fun u : Int32 => wC ad ca sd tc sc u st pz T Wt O SA KA R Ln Ky Ch X)) A) (cc := cX3_drawFraction) (maxL := 21) (ret := (some .int)) (by decide) rfl (Nat.le_of_ble_eq_true rfl) ?_
  intro p e s m below meth c A hx hb hr hml hts hown hlocks hin hK hP hD hA hS ls hl
  replace hown : s.vm.findClass RX3 = some m.cls := hown
  replace hl : lv_has ls 21 [(0, .ref (ad 0)), (1, .long run0), (3, .int p0), (4, .int c0), (5, .long a0), (7, .long b0)] := hl
  have hP : va_P D vwCl (wC ad ca sd tc sc tr st pz T Wt O SA KA R Ln Ky Ch X) s.heap := hP
  have iX1 : ∀ w ∈ u_ws RX1 TX1 5, w ∈ wsX3_drawFraction := by decide +kernel
  have iX3 : ∀ w ∈ u_ws RX3 TX3 11, w ∈ wsX3_drawFraction := by decide +kernel
  refine lv_aload_n hx hb dX3_drawFraction_0 rfl (lv_at hl 0 rfl) ?_
  refine lv_iconst (v := 0) hx hb dX3_drawFraction_1 (by decide) ?_
  refine va_put (D := D) (ci := 3) (v := .int (0 : Int32)) (ty := .int) (C := RX3) (T := TX3) (N := 11) hx hb hts iX3 tyX3 tyX3_ok nmX3 hown hK.1 hP hD hS 0 rfl rfl 9 (by decide) (hts (.fieldLink RX3 46 "NamedStreams" "latestTries" "I") (by decide +kernel)) (fun _ h9 => h9) rfl (by decide +kernel) rfl rfl (Nat.le_of_ble_eq_true rfl) dX3_drawFraction_2 (fun H locs hP hD hS => ?_)
  have hP : va_P D vwCl (wC ad ca sd tc sc (0 : Int32) st pz T Wt O SA KA R Ln Ky Ch X) H := hP
  have hD : va_D A (wC ad ca sd tc sc (0 : Int32) st pz T Wt O SA KA R Ln Ky Ch X) := hD
  refine lv_lload hx hb dX3_drawFraction_5 (lv_at hl 4 rfl) ?_
  refine lv_lload hx hb dX3_drawFraction_7 (lv_at hl 5 rfl) ?_
  refine W.lcmp hx hb dX3_drawFraction_9 ?_
  refine lv_if_ne (tgt := 15) hx hb dX3_drawFraction_10 (by decide) (fun c10 => ?_) (fun c10 => ?_)
  · skip
    have c10 : ¬ (a0 = b0) := fun h => c10 ((lg_cmp_eq _ _).mpr h)
    refine lv_lload hx hb dX3_drawFraction_15 (lv_at hl 4 rfl) ?_
    refine lv_lconst (v := 0) hx hb dX3_drawFraction_17 (by decide) ?_
    refine W.lcmp hx hb dX3_drawFraction_18 ?_
    refine lv_if_ne (tgt := 24) hx hb dX3_drawFraction_19 (by decide) (fun c19 => ?_) (fun c19 => ?_)
    · skip
      have c19 : ¬ (a0 = (0 : Int64)) := fun h => c19 ((lg_cmp_eq _ _).mpr h)
      refine lv_aload_n hx hb dX3_drawFraction_24 rfl (lv_at hl 0 rfl) ?_
      refine lv_lload_n hx hb dX3_drawFraction_25 rfl (lv_at hl 1 rfl) ?_
      refine lv_iload_n hx hb dX3_drawFraction_26 rfl (lv_at hl 2 rfl) ?_
      refine nk_VRL (As := [.long run0, .int p0]) (rest := []) ⟨hx, hb, hml, hown, hts⟩ (mX3_baseOf l D ad ca sd tc sc (0 : Int32) st pz T Wt O SA KA R Ln Ky Ch X run0 p0 hp0) (cwV 2 hts gX3_drawFraction_X3_baseOf rfl rfl rfl (by decide +kernel) ⟨Nat.le_of_ble_eq_true rfl, Nat.le_of_ble_eq_true rfl⟩) hK hP 0 3 rfl rfl rfl rfl hl.1 rfl (Nat.le_of_ble_eq_true rfl) dX3_drawFraction_27 ⟨Nat.zero_le _, Nat.zero_le _⟩ (fun r1 hr1 => ?_)
      subst hr1
      refine lv_topl (fun z2 ez2 => ?_)
      refine lv_lstore (lv' := [(9, .long z2), (0, .ref (ad 0)), (1, .long run0), (3, .int p0), (4, .int c0), (5, .long a0), (7, .long b0)]) hx hb dX3_drawFraction_30 hl (by decide) rfl (fun ls hl => ?_)
      refine lv_iload hx hb dX3_drawFraction_32 (lv_at hl 4 rfl) ?_
      refine nk_SSL (As := [.int c0]) (rest := []) ⟨hx, hb, hml, hown, hts⟩ (mX3_firstCounter l c0) (va_cwS 1 hts gX3_drawFraction_X3_firstCounter rfl rfl rfl (by decide +kernel) ⟨Nat.le_of_ble_eq_true rfl, Nat.le_of_ble_eq_true rfl⟩) rfl hl.1 rfl (Nat.le_of_ble_eq_true rfl) dX3_drawFraction_34 ⟨Nat.zero_le _, Nat.zero_le _⟩ (fun r3 hr3 => ?_)
      subst hr3
      refine lv_topl (fun z4 ez4 => ?_)
      refine lv_lstore (lv' := [(11, .long z4), (9, .long z2), (0, .ref (ad 0)), (1, .long run0), (3, .int p0), (4, .int c0), (5, .long a0), (7, .long b0)]) hx hb dX3_drawFraction_37 hl (by decide) rfl (fun ls hl => ?_)
      refine lv_lload hx hb dX3_drawFraction_39 (lv_at hl 6 rfl) ?_
      refine lv_lstore (lv' := [(13, .long a0), (11, .long z4), (9, .long z2), (0, .ref (ad 0)), (1, .long run0), (3, .int p0), (4, .int c0), (5, .long a0), (7, .long b0)]) hx hb dX3_drawFraction_41 hl (by decide) rfl (fun ls hl => ?_)
      refine lv_iconst (v := 0) hx hb dX3_drawFraction_43 (by decide) ?_
      refine lv_istore (lv' := [(15, .int (0 : Int32)), (13, .long a0), (11, .long z4), (9, .long z2), (0, .ref (ad 0)), (1, .long run0), (3, .int p0), (4, .int c0), (5, .long a0), (7, .long b0)]) hx hb dX3_drawFraction_44 hl (by decide) rfl (fun ls hl => ?_)
      have lp46 : ∀ (k : Nat) (i : Int32) (r1 : Int64) (tr1 : Int32) (H : Heap) (locs : List Loc) (ls : Array Slot), k ≤ 32 → i = nI (32 - k) → fFrac z2 z4 b0 k r1 tr1 = fFracD (fBase sd run0 (Ky p0.toNatClampNeg)) (fFirst c0) a0 b0 → va_P D vwCl (wC ad ca sd tc sc tr1 st pz T Wt O SA KA R Ln Ky Ch X) H → va_D A (wC ad ca sd tc sc tr1 st pz T Wt O SA KA R Ln Ky Ch X) → va_S A s.heap H locs → lv_has ls 21 [(15, .int i), (13, .long r1), (11, .long z4), (9, .long z2), (0, .ref (ad 0)), (1, .long run0), (3, .int p0), (4, .int c0), (5, .long a0), (7, .long b0)] → W p l e ({ frames := 2, cells := 0, slots := 0, locals := 46 } : Room) s m ([.ref (ad 0), .long run0, .int p0, .int c0, .long a0, .long b0] : List Value).toArray below meth c H locs 0 0 (MQ below (va_Qi (fun r u => fFracD (fBase sd run0 (Ky p0.toNatClampNeg)) (fFirst c0) a0 b0 = (r, u)) (nkB D A (fun u : Int32 => wC ad ca sd tc sc u st pz T Wt O SA KA R Ln Ky Ch X)) A) ([.ref (ad 0), .long run0, .int p0, .int c0, .long a0, .long b0] : List Value).toArray s 0 0 A) (F0 m 46 ls []) := by
        intro k
        induction k with
        | zero =>
          intro i r1 tr1 H locs ls hk hi ht hP hD hS hl
          refine lv_iload hx hb dX3_drawFraction_46 (lv_at hl 0 rfl) ?_
          refine lv_bipush (v := 32) hx hb dX3_drawFraction_48 (by decide) ?_
          refine lv_icmp_ge (tgt := 184) hx hb dX3_drawFraction_50 (by decide) (fun c50 => ?_) (fun c50 => ?_)
          · skip
            refine lv_bipush (v := -3) hx hb dX3_drawFraction_184 (by decide) ?_
            exact nk_retI (g := _) tr1 hx hb hr hlocks hP hD hS dX3_drawFraction_186 (by rw [← ht]; rfl)
          · skip
            exact absurd (by rw [hi]; decide) c50
        | succ k ih46 =>
          intro i r1 tr1 H locs ls hk hi ht hP hD hS hl
          refine lv_iload hx hb dX3_drawFraction_46 (lv_at hl 0 rfl) ?_
          refine lv_bipush (v := 32) hx hb dX3_drawFraction_48 (by decide) ?_
          refine lv_icmp_ge (tgt := 184) hx hb dX3_drawFraction_50 (by decide) (fun c50 => ?_) (fun c50 => ?_)
          · skip
            exact absurd c50 (Int32.not_le.mpr (by rw [hi]; exact ns_nI_lt (n := 32) rfl (by omega) (by decide)))
          · skip
            refine lv_lload hx hb dX3_drawFraction_53 (lv_at hl 3 rfl) ?_
            refine lv_lload hx hb dX3_drawFraction_55 (lv_at hl 2 rfl) ?_
            refine lv_iload hx hb dX3_drawFraction_57 (lv_at hl 0 rfl) ?_
            refine lv_i2l hx hb dX3_drawFraction_59 rfl ?_
            refine lv_ladd hx hb dX3_drawFraction_60 ?_
            refine nk_SSL (As := [.long z2, .long (z4 + (Int32.toInt64 i))]) (rest := []) ⟨hx, hb, hml, hown, hts⟩ (mX3_wordAt l z2 (z4 + (Int32.toInt64 i))) (va_cwS 2 hts gX3_drawFraction_X3_wordAt rfl rfl rfl (by decide +kernel) ⟨Nat.le_of_ble_eq_true rfl, Nat.le_of_ble_eq_true rfl⟩) rfl hl.1 rfl (Nat.le_of_ble_eq_true rfl) dX3_drawFraction_61 ⟨Nat.zero_le _, Nat.zero_le _⟩ (fun r5 hr5 => ?_)
            subst hr5
            refine lv_topl (fun z6 ez6 => ?_)
            refine lv_lstore (lv' := [(16, .long z6), (15, .int i), (13, .long r1), (11, .long z4), (9, .long z2), (0, .ref (ad 0)), (1, .long run0), (3, .int p0), (4, .int c0), (5, .long a0), (7, .long b0)]) hx hb dX3_drawFraction_64 hl (by decide) rfl (fun ls hl => ?_)
            refine lv_bipush (v := 63) hx hb dX3_drawFraction_66 (by decide) ?_
            refine lv_istore (lv' := [(18, .int (63 : Int32)), (16, .long z6), (15, .int i), (13, .long r1), (11, .long z4), (9, .long z2), (0, .ref (ad 0)), (1, .long run0), (3, .int p0), (4, .int c0), (5, .long a0), (7, .long b0)]) hx hb dX3_drawFraction_68 hl (by decide) rfl (fun ls hl => ?_)
            have lp70 : ∀ (j : Nat) (pl : Int32) (r2 : Int64) (tr2 : Int32) (H : Heap) (locs : List Loc) (ls : Array Slot), j ≤ 64 → pl = nI j - 1 → fFrW z6 b0 j r2 tr2 (fun r t => fFrac z2 z4 b0 k r t) = fFracD (fBase sd run0 (Ky p0.toNatClampNeg)) (fFirst c0) a0 b0 → va_P D vwCl (wC ad ca sd tc sc tr2 st pz T Wt O SA KA R Ln Ky Ch X) H → va_D A (wC ad ca sd tc sc tr2 st pz T Wt O SA KA R Ln Ky Ch X) → va_S A s.heap H locs → lv_has ls 21 [(18, .int pl), (16, .long z6), (15, .int i), (13, .long r2), (11, .long z4), (9, .long z2), (0, .ref (ad 0)), (1, .long run0), (3, .int p0), (4, .int c0), (5, .long a0), (7, .long b0)] → W p l e ({ frames := 2, cells := 0, slots := 0, locals := 46 } : Room) s m ([.ref (ad 0), .long run0, .int p0, .int c0, .long a0, .long b0] : List Value).toArray below meth c H locs 0 0 (MQ below (va_Qi (fun r u => fFracD (fBase sd run0 (Ky p0.toNatClampNeg)) (fFirst c0) a0 b0 = (r, u)) (nkB D A (fun u : Int32 => wC ad ca sd tc sc u st pz T Wt O SA KA R Ln Ky Ch X)) A) ([.ref (ad 0), .long run0, .int p0, .int c0, .long a0, .long b0] : List Value).toArray s 0 0 A) (F0 m 70 ls []) := by
              intro j
              induction j with
              | zero =>
                intro pl r2 tr2 H locs ls hj hpl htI hP hD hS hl
                refine lv_iload hx hb dX3_drawFraction_70 (lv_at hl 0 rfl) ?_
                refine lv_if_lt (tgt := 178) hx hb dX3_drawFraction_72 (by decide) (fun c72 => ?_) (fun c72 => ?_)
                · skip
                  obtain ⟨i7, ei7⟩ : ∃ y : Int32, y = i + 1 := ⟨_, rfl⟩
                  refine lv_iinc (v := i7) (lv' := [(15, .int i7), (18, .int pl), (16, .long z6), (13, .long r2), (11, .long z4), (9, .long z2), (0, .ref (ad 0)), (1, .long run0), (3, .int p0), (4, .int c0), (5, .long a0), (7, .long b0)]) hx hb dX3_drawFraction_178 hl (k := 2) rfl (by rw [ei7]; rfl) (by decide) rfl (fun ls hl => ?_)
                  refine lv_goto (tgt := 46) hx hb dX3_drawFraction_181 (by decide) ?_
                  exact ih46 i7 r2 tr2 _ _ _ (Nat.le_of_succ_le hk) (ns_step hi hk ei7) htI hP hD hS (lv_sub hl [0, 3, 4, 5, 6, 7, 8, 9, 10, 11] rfl)
                · skip
                  exact absurd (by rw [hpl]; decide) c72
              | succ j ih70 =>
                intro pl r2 tr2 H locs ls hj hpl htI hP hD hS hl
                refine lv_iload hx hb dX3_drawFraction_70 (lv_at hl 0 rfl) ?_
                refine lv_if_lt (tgt := 178) hx hb dX3_drawFraction_72 (by decide) (fun c72 => ?_) (fun c72 => ?_)
                · skip
                  exact absurd c72 (by rw [hpl, nI_pred]; exact nI_pos (by omega))
                · skip
                  refine lv_lload hx hb dX3_drawFraction_75 (lv_at hl 3 rfl) ?_
                  refine lv_lload hx hb dX3_drawFraction_77 (lv_at hl 11 rfl) ?_
                  refine lv_lload hx hb dX3_drawFraction_79 (lv_at hl 3 rfl) ?_
                  refine lv_lsub hx hb dX3_drawFraction_81 ?_
                  refine W.lcmp hx hb dX3_drawFraction_82 ?_
                  refine lv_if_lt (tgt := 90) hx hb dX3_drawFraction_83 (by decide) (fun c83 => ?_) (fun c83 => ?_)
                  · skip
                    have c83 : r2 < (b0 - r2) := (lg_cmp_lt _ _).mp c83
                    refine lv_iconst (v := 0) hx hb dX3_drawFraction_90 (by decide) ?_
                    refine lv_istore (lv' := [(19, .int (0 : Int32)), (18, .int pl), (16, .long z6), (15, .int i), (13, .long r2), (11, .long z4), (9, .long z2), (0, .ref (ad 0)), (1, .long run0), (3, .int p0), (4, .int c0), (5, .long a0), (7, .long b0)]) hx hb dX3_drawFraction_91 hl (by decide) rfl (fun ls hl => ?_)
                    refine lv_iload hx hb dX3_drawFraction_93 (lv_at hl 0 rfl) ?_
                    refine lv_if_eq (tgt := 109) hx hb dX3_drawFraction_95 (by decide) (fun c95 => ?_) (fun c95 => ?_)
                    · skip
                      refine lv_lload hx hb dX3_drawFraction_109 (lv_at hl 4 rfl) ?_
                      refine lv_lload hx hb dX3_drawFraction_111 (lv_at hl 4 rfl) ?_
                      refine lv_ladd hx hb dX3_drawFraction_113 ?_
                      refine lv_topl (fun z8 ez8 => ?_)
                      refine lv_lstore (lv' := [(13, .long z8), (19, .int (0 : Int32)), (18, .int pl), (16, .long z6), (15, .int i), (11, .long z4), (9, .long z2), (0, .ref (ad 0)), (1, .long run0), (3, .int p0), (4, .int c0), (5, .long a0), (7, .long b0)]) hx hb dX3_drawFraction_114 hl (by decide) rfl (fun ls hl => ?_)
                      refine lv_lload hx hb dX3_drawFraction_116 (lv_at hl 3 rfl) ?_
                      refine lv_iload hx hb dX3_drawFraction_118 (lv_at hl 2 rfl) ?_
                      refine lv_lushr (v := (nsU z6 pl)) hx hb dX3_drawFraction_120 rfl ?_
                      refine lv_lconst (v := 1) hx hb dX3_drawFraction_121 (by decide) ?_
                      refine lv_land hx hb dX3_drawFraction_122 ?_
                      refine lv_lconst (v := 1) hx hb dX3_drawFraction_123 (by decide) ?_
                      refine W.lcmp hx hb dX3_drawFraction_124 ?_
                      refine lv_if_ne (tgt := 132) hx hb dX3_drawFraction_125 (by decide) (fun c125 => ?_) (fun c125 => ?_)
                      · skip
                        have c125 : ¬ (((nsU z6 pl) &&& (1 : Int64)) = (1 : Int64)) := fun h => c125 ((lg_cmp_eq _ _).mpr h)
                        refine lv_iconst (v := 0) hx hb dX3_drawFraction_132 (by decide) ?_
                        refine lv_istore (lv' := [(20, .int (0 : Int32)), (13, .long z8), (19, .int (0 : Int32)), (18, .int pl), (16, .long z6), (15, .int i), (11, .long z4), (9, .long z2), (0, .ref (ad 0)), (1, .long run0), (3, .int p0), (4, .int c0), (5, .long a0), (7, .long b0)]) hx hb dX3_drawFraction_133 hl (by decide) rfl (fun ls hl => ?_)
                        refine lv_aload_n hx hb dX3_drawFraction_135 rfl (lv_at hl 8 rfl) ?_
                        refine lv_dup hx hb dX3_drawFraction_136 rfl ?_
                        refine va_get (D := D) (ci := 3) (v := .int tr2) (C := RX3) (T := TX3) (N := 11) hx hb hts iX3 hown hK.1 hP 0 rfl rfl 9 (by decide) (hts (.fieldLink RX3 46 "NamedStreams" "latestTries" "I") (by decide +kernel)) (fun _ h9 => h9) rfl dX3_drawFraction_137 ?_
                        refine lv_iconst (v := 1) hx hb dX3_drawFraction_140 (by decide) ?_
                        refine lv_iadd hx hb dX3_drawFraction_141 ?_
                        refine lv_topi (fun z9 ez9 => ?_)
                        refine va_put (D := D) (ci := 3) (v := .int z9) (ty := .int) (C := RX3) (T := TX3) (N := 11) hx hb hts iX3 tyX3 tyX3_ok nmX3 hown hK.1 hP hD hS 0 rfl rfl 9 (by decide) (hts (.fieldLink RX3 46 "NamedStreams" "latestTries" "I") (by decide +kernel)) (fun _ h9 => h9) rfl (by decide +kernel) rfl rfl (Nat.le_of_ble_eq_true rfl) dX3_drawFraction_142 (fun H locs hP hD hS => ?_)
                        have hP : va_P D vwCl (wC ad ca sd tc sc z9 st pz T Wt O SA KA R Ln Ky Ch X) H := hP
                        have hD : va_D A (wC ad ca sd tc sc z9 st pz T Wt O SA KA R Ln Ky Ch X) := hD
                        refine lv_iload hx hb dX3_drawFraction_145 (lv_at hl 0 rfl) ?_
                        refine lv_iload hx hb dX3_drawFraction_147 (lv_at hl 2 rfl) ?_
                        refine lv_icmp_eq (tgt := 163) hx hb dX3_drawFraction_149 (by decide) (fun c149 => ?_) (fun c149 => ?_)
                        · skip
                          refine lv_lload hx hb dX3_drawFraction_163 (lv_at hl 1 rfl) ?_
                          refine lv_lconst (v := 0) hx hb dX3_drawFraction_165 (by decide) ?_
                          refine W.lcmp hx hb dX3_drawFraction_166 ?_
                          refine lv_if_ne (tgt := 172) hx hb dX3_drawFraction_167 (by decide) (fun c167 => ?_) (fun c167 => ?_)
                          · skip
                            have c167 : ¬ (z8 = (0 : Int64)) := fun h => c167 ((lg_cmp_eq _ _).mpr h)
                            obtain ⟨i10, ei10⟩ : ∃ y : Int32, y = pl + (-1) := ⟨_, rfl⟩
                            refine lv_iinc (v := i10) (lv' := [(18, .int i10), (20, .int (0 : Int32)), (13, .long z8), (19, .int (0 : Int32)), (16, .long z6), (15, .int i), (11, .long z4), (9, .long z2), (0, .ref (ad 0)), (1, .long run0), (3, .int p0), (4, .int c0), (5, .long a0), (7, .long b0)]) hx hb dX3_drawFraction_172 hl (k := 3) rfl (by rw [ei10]; rfl) (by decide) rfl (fun ls hl => ?_)
                            refine lv_goto (tgt := 70) hx hb dX3_drawFraction_175 (by decide) ?_
                            exact ih70 i10 z8 z9 _ _ _ (Nat.le_of_succ_le hj) (by rw [ei10, hpl, nI_pred]; exact ns_m1 _) (by rw [nI_pred] at hpl; subst hpl; subst ez8; subst ez9; subst ei10; rw [← htI, fFrW, if_pos c83, if_neg c125, if_neg c167]) hP hD hS (lv_sub hl [0, 4, 5, 2, 6, 7, 8, 9, 10, 11, 12, 13] rfl)
                          · skip
                            have c167 : z8 = (0 : Int64) := (lg_cmp_eq _ _).mp c167
                            refine lv_iconst (v := 0) hx hb dX3_drawFraction_170 (by decide) ?_
                            exact nk_retI (g := _) z9 hx hb hr hlocks hP hD hS dX3_drawFraction_171 (by rw [nI_pred] at hpl; subst hpl; subst ez8; subst ez9; rw [← htI]; exact ((if_pos c83).trans ((if_neg c125).trans (if_pos c167))))
                        · skip
                          exact absurd c149 (by decide)
                      · skip
                        have c125 : ((nsU z6 pl) &&& (1 : Int64)) = (1 : Int64) := (lg_cmp_eq _ _).mp c125
                        refine lv_iconst (v := 1) hx hb dX3_drawFraction_128 (by decide) ?_
                        refine lv_goto (tgt := 133) hx hb dX3_drawFraction_129 (by decide) ?_
                        refine lv_istore (lv' := [(20, .int (1 : Int32)), (13, .long z8), (19, .int (0 : Int32)), (18, .int pl), (16, .long z6), (15, .int i), (11, .long z4), (9, .long z2), (0, .ref (ad 0)), (1, .long run0), (3, .int p0), (4, .int c0), (5, .long a0), (7, .long b0)]) hx hb dX3_drawFraction_133 hl (by decide) rfl (fun ls hl => ?_)
                        refine lv_aload_n hx hb dX3_drawFraction_135 rfl (lv_at hl 8 rfl) ?_
                        refine lv_dup hx hb dX3_drawFraction_136 rfl ?_
                        refine va_get (D := D) (ci := 3) (v := .int tr2) (C := RX3) (T := TX3) (N := 11) hx hb hts iX3 hown hK.1 hP 0 rfl rfl 9 (by decide) (hts (.fieldLink RX3 46 "NamedStreams" "latestTries" "I") (by decide +kernel)) (fun _ h9 => h9) rfl dX3_drawFraction_137 ?_
                        refine lv_iconst (v := 1) hx hb dX3_drawFraction_140 (by decide) ?_
                        refine lv_iadd hx hb dX3_drawFraction_141 ?_
                        refine lv_topi (fun z11 ez11 => ?_)
                        refine va_put (D := D) (ci := 3) (v := .int z11) (ty := .int) (C := RX3) (T := TX3) (N := 11) hx hb hts iX3 tyX3 tyX3_ok nmX3 hown hK.1 hP hD hS 0 rfl rfl 9 (by decide) (hts (.fieldLink RX3 46 "NamedStreams" "latestTries" "I") (by decide +kernel)) (fun _ h9 => h9) rfl (by decide +kernel) rfl rfl (Nat.le_of_ble_eq_true rfl) dX3_drawFraction_142 (fun H locs hP hD hS => ?_)
                        have hP : va_P D vwCl (wC ad ca sd tc sc z11 st pz T Wt O SA KA R Ln Ky Ch X) H := hP
                        have hD : va_D A (wC ad ca sd tc sc z11 st pz T Wt O SA KA R Ln Ky Ch X) := hD
                        refine lv_iload hx hb dX3_drawFraction_145 (lv_at hl 0 rfl) ?_
                        refine lv_iload hx hb dX3_drawFraction_147 (lv_at hl 2 rfl) ?_
                        refine lv_icmp_eq (tgt := 163) hx hb dX3_drawFraction_149 (by decide) (fun c149 => ?_) (fun c149 => ?_)
                        · skip
                          exact absurd c149 (by decide)
                        · skip
                          refine lv_iload hx hb dX3_drawFraction_152 (lv_at hl 0 rfl) ?_
                          refine lv_if_eq (tgt := 161) hx hb dX3_drawFraction_154 (by decide) (fun c154 => ?_) (fun c154 => ?_)
                          · skip
                            exact absurd c154 (by decide)
                          · skip
                            refine lv_iconst (v := 0) hx hb dX3_drawFraction_157 (by decide) ?_
                            refine lv_goto (tgt := 162) hx hb dX3_drawFraction_158 (by decide) ?_
                            exact nk_retI (g := _) z11 hx hb hr hlocks hP hD hS dX3_drawFraction_162 (by rw [nI_pred] at hpl; subst hpl; subst ez8; subst ez11; rw [← htI]; exact ((if_pos c83).trans (if_pos c125)))
                    · skip
                      exact absurd c95 (by decide)
                  · skip
                    have c83 : ¬ (r2 < (b0 - r2)) := fun h => c83 ((lg_cmp_lt _ _).mpr h)
                    refine lv_iconst (v := 1) hx hb dX3_drawFraction_86 (by decide) ?_
                    refine lv_goto (tgt := 91) hx hb dX3_drawFraction_87 (by decide) ?_
                    refine lv_istore (lv' := [(19, .int (1 : Int32)), (18, .int pl), (16, .long z6), (15, .int i), (13, .long r2), (11, .long z4), (9, .long z2), (0, .ref (ad 0)), (1, .long run0), (3, .int p0), (4, .int c0), (5, .long a0), (7, .long b0)]) hx hb dX3_drawFraction_91 hl (by decide) rfl (fun ls hl => ?_)
                    refine lv_iload hx hb dX3_drawFraction_93 (lv_at hl 0 rfl) ?_
                    refine lv_if_eq (tgt := 109) hx hb dX3_drawFraction_95 (by decide) (fun c95 => ?_) (fun c95 => ?_)
                    · skip
                      exact absurd c95 (by decide)
                    · skip
                      refine lv_lload hx hb dX3_drawFraction_98 (lv_at hl 4 rfl) ?_
                      refine lv_lload hx hb dX3_drawFraction_100 (lv_at hl 12 rfl) ?_
                      refine lv_lload hx hb dX3_drawFraction_102 (lv_at hl 4 rfl) ?_
                      refine lv_lsub hx hb dX3_drawFraction_104 ?_
                      refine lv_lsub hx hb dX3_drawFraction_105 ?_
                      refine lv_goto (tgt := 114) hx hb dX3_drawFraction_106 (by decide) ?_
                      refine lv_topl (fun z12 ez12 => ?_)
                      refine lv_lstore (lv' := [(13, .long z12), (19, .int (1 : Int32)), (18, .int pl), (16, .long z6), (15, .int i), (11, .long z4), (9, .long z2), (0, .ref (ad 0)), (1, .long run0), (3, .int p0), (4, .int c0), (5, .long a0), (7, .long b0)]) hx hb dX3_drawFraction_114 hl (by decide) rfl (fun ls hl => ?_)
                      refine lv_lload hx hb dX3_drawFraction_116 (lv_at hl 3 rfl) ?_
                      refine lv_iload hx hb dX3_drawFraction_118 (lv_at hl 2 rfl) ?_
                      refine lv_lushr (v := (nsU z6 pl)) hx hb dX3_drawFraction_120 rfl ?_
                      refine lv_lconst (v := 1) hx hb dX3_drawFraction_121 (by decide) ?_
                      refine lv_land hx hb dX3_drawFraction_122 ?_
                      refine lv_lconst (v := 1) hx hb dX3_drawFraction_123 (by decide) ?_
                      refine W.lcmp hx hb dX3_drawFraction_124 ?_
                      refine lv_if_ne (tgt := 132) hx hb dX3_drawFraction_125 (by decide) (fun c125 => ?_) (fun c125 => ?_)
                      · skip
                        have c125 : ¬ (((nsU z6 pl) &&& (1 : Int64)) = (1 : Int64)) := fun h => c125 ((lg_cmp_eq _ _).mpr h)
                        refine lv_iconst (v := 0) hx hb dX3_drawFraction_132 (by decide) ?_
                        refine lv_istore (lv' := [(20, .int (0 : Int32)), (13, .long z12), (19, .int (1 : Int32)), (18, .int pl), (16, .long z6), (15, .int i), (11, .long z4), (9, .long z2), (0, .ref (ad 0)), (1, .long run0), (3, .int p0), (4, .int c0), (5, .long a0), (7, .long b0)]) hx hb dX3_drawFraction_133 hl (by decide) rfl (fun ls hl => ?_)
                        refine lv_aload_n hx hb dX3_drawFraction_135 rfl (lv_at hl 8 rfl) ?_
                        refine lv_dup hx hb dX3_drawFraction_136 rfl ?_
                        refine va_get (D := D) (ci := 3) (v := .int tr2) (C := RX3) (T := TX3) (N := 11) hx hb hts iX3 hown hK.1 hP 0 rfl rfl 9 (by decide) (hts (.fieldLink RX3 46 "NamedStreams" "latestTries" "I") (by decide +kernel)) (fun _ h9 => h9) rfl dX3_drawFraction_137 ?_
                        refine lv_iconst (v := 1) hx hb dX3_drawFraction_140 (by decide) ?_
                        refine lv_iadd hx hb dX3_drawFraction_141 ?_
                        refine lv_topi (fun z13 ez13 => ?_)
                        refine va_put (D := D) (ci := 3) (v := .int z13) (ty := .int) (C := RX3) (T := TX3) (N := 11) hx hb hts iX3 tyX3 tyX3_ok nmX3 hown hK.1 hP hD hS 0 rfl rfl 9 (by decide) (hts (.fieldLink RX3 46 "NamedStreams" "latestTries" "I") (by decide +kernel)) (fun _ h9 => h9) rfl (by decide +kernel) rfl rfl (Nat.le_of_ble_eq_true rfl) dX3_drawFraction_142 (fun H locs hP hD hS => ?_)
                        have hP : va_P D vwCl (wC ad ca sd tc sc z13 st pz T Wt O SA KA R Ln Ky Ch X) H := hP
                        have hD : va_D A (wC ad ca sd tc sc z13 st pz T Wt O SA KA R Ln Ky Ch X) := hD
                        refine lv_iload hx hb dX3_drawFraction_145 (lv_at hl 0 rfl) ?_
                        refine lv_iload hx hb dX3_drawFraction_147 (lv_at hl 2 rfl) ?_
                        refine lv_icmp_eq (tgt := 163) hx hb dX3_drawFraction_149 (by decide) (fun c149 => ?_) (fun c149 => ?_)
                        · skip
                          exact absurd c149 (by decide)
                        · skip
                          refine lv_iload hx hb dX3_drawFraction_152 (lv_at hl 0 rfl) ?_
                          refine lv_if_eq (tgt := 161) hx hb dX3_drawFraction_154 (by decide) (fun c154 => ?_) (fun c154 => ?_)
                          · skip
                            refine lv_iconst (v := 1) hx hb dX3_drawFraction_161 (by decide) ?_
                            exact nk_retI (g := _) z13 hx hb hr hlocks hP hD hS dX3_drawFraction_162 (by rw [nI_pred] at hpl; subst hpl; subst ez12; subst ez13; rw [← htI]; exact ((if_neg c83).trans (if_neg c125)))
                          · skip
                            exact absurd c154 (by decide)
                      · skip
                        have c125 : ((nsU z6 pl) &&& (1 : Int64)) = (1 : Int64) := (lg_cmp_eq _ _).mp c125
                        refine lv_iconst (v := 1) hx hb dX3_drawFraction_128 (by decide) ?_
                        refine lv_goto (tgt := 133) hx hb dX3_drawFraction_129 (by decide) ?_
                        refine lv_istore (lv' := [(20, .int (1 : Int32)), (13, .long z12), (19, .int (1 : Int32)), (18, .int pl), (16, .long z6), (15, .int i), (11, .long z4), (9, .long z2), (0, .ref (ad 0)), (1, .long run0), (3, .int p0), (4, .int c0), (5, .long a0), (7, .long b0)]) hx hb dX3_drawFraction_133 hl (by decide) rfl (fun ls hl => ?_)
                        refine lv_aload_n hx hb dX3_drawFraction_135 rfl (lv_at hl 8 rfl) ?_
                        refine lv_dup hx hb dX3_drawFraction_136 rfl ?_
                        refine va_get (D := D) (ci := 3) (v := .int tr2) (C := RX3) (T := TX3) (N := 11) hx hb hts iX3 hown hK.1 hP 0 rfl rfl 9 (by decide) (hts (.fieldLink RX3 46 "NamedStreams" "latestTries" "I") (by decide +kernel)) (fun _ h9 => h9) rfl dX3_drawFraction_137 ?_
                        refine lv_iconst (v := 1) hx hb dX3_drawFraction_140 (by decide) ?_
                        refine lv_iadd hx hb dX3_drawFraction_141 ?_
                        refine lv_topi (fun z14 ez14 => ?_)
                        refine va_put (D := D) (ci := 3) (v := .int z14) (ty := .int) (C := RX3) (T := TX3) (N := 11) hx hb hts iX3 tyX3 tyX3_ok nmX3 hown hK.1 hP hD hS 0 rfl rfl 9 (by decide) (hts (.fieldLink RX3 46 "NamedStreams" "latestTries" "I") (by decide +kernel)) (fun _ h9 => h9) rfl (by decide +kernel) rfl rfl (Nat.le_of_ble_eq_true rfl) dX3_drawFraction_142 (fun H locs hP hD hS => ?_)
                        have hP : va_P D vwCl (wC ad ca sd tc sc z14 st pz T Wt O SA KA R Ln Ky Ch X) H := hP
                        have hD : va_D A (wC ad ca sd tc sc z14 st pz T Wt O SA KA R Ln Ky Ch X) := hD
                        refine lv_iload hx hb dX3_drawFraction_145 (lv_at hl 0 rfl) ?_
                        refine lv_iload hx hb dX3_drawFraction_147 (lv_at hl 2 rfl) ?_
                        refine lv_icmp_eq (tgt := 163) hx hb dX3_drawFraction_149 (by decide) (fun c149 => ?_) (fun c149 => ?_)
                        · skip
                          refine lv_lload hx hb dX3_drawFraction_163 (lv_at hl 1 rfl) ?_
                          refine lv_lconst (v := 0) hx hb dX3_drawFraction_165 (by decide) ?_
                          refine W.lcmp hx hb dX3_drawFraction_166 ?_
                          refine lv_if_ne (tgt := 172) hx hb dX3_drawFraction_167 (by decide) (fun c167 => ?_) (fun c167 => ?_)
                          · skip
                            have c167 : ¬ (z12 = (0 : Int64)) := fun h => c167 ((lg_cmp_eq _ _).mpr h)
                            obtain ⟨i15, ei15⟩ : ∃ y : Int32, y = pl + (-1) := ⟨_, rfl⟩
                            refine lv_iinc (v := i15) (lv' := [(18, .int i15), (20, .int (1 : Int32)), (13, .long z12), (19, .int (1 : Int32)), (16, .long z6), (15, .int i), (11, .long z4), (9, .long z2), (0, .ref (ad 0)), (1, .long run0), (3, .int p0), (4, .int c0), (5, .long a0), (7, .long b0)]) hx hb dX3_drawFraction_172 hl (k := 3) rfl (by rw [ei15]; rfl) (by decide) rfl (fun ls hl => ?_)
                            refine lv_goto (tgt := 70) hx hb dX3_drawFraction_175 (by decide) ?_
                            exact ih70 i15 z12 z14 _ _ _ (Nat.le_of_succ_le hj) (by rw [ei15, hpl, nI_pred]; exact ns_m1 _) (by rw [nI_pred] at hpl; subst hpl; subst ez12; subst ez14; subst ei15; rw [← htI, fFrW, if_neg c83, if_pos c125, if_neg c167]) hP hD hS (lv_sub hl [0, 4, 5, 2, 6, 7, 8, 9, 10, 11, 12, 13] rfl)
                          · skip
                            have c167 : z12 = (0 : Int64) := (lg_cmp_eq _ _).mp c167
                            refine lv_iconst (v := 0) hx hb dX3_drawFraction_170 (by decide) ?_
                            exact nk_retI (g := _) z14 hx hb hr hlocks hP hD hS dX3_drawFraction_171 (by rw [nI_pred] at hpl; subst hpl; subst ez12; subst ez14; rw [← htI]; exact ((if_neg c83).trans ((if_pos c125).trans (if_pos c167))))
                        · skip
                          exact absurd c149 (by decide)
            exact lp70 64 (63 : Int32) r1 tr1 _ _ _ (Nat.le_refl 64) (by decide) (by subst hi; subst ez6; exact ht) hP hD hS (lv_sub hl [0, 1, 2, 3, 4, 5, 6, 7, 8, 9, 10, 11] rfl)
      exact lp46 32 (0 : Int32) a0 (0 : Int32) _ _ _ (Nat.le_refl 32) (by decide) (by subst ez2; subst ez4; exact ((if_neg c10).trans (if_neg c19)).symm) hP hD hS (lv_sub hl [0, 1, 2, 3, 4, 5, 6, 7, 8, 9] rfl)
    · skip
      have c19 : a0 = (0 : Int64) := (lg_cmp_eq _ _).mp c19
      refine lv_iconst (v := 0) hx hb dX3_drawFraction_22 (by decide) ?_
      exact nk_retI (g := _) (0 : Int32) hx hb hr hlocks hP hD hS dX3_drawFraction_23 (by exact ((if_neg c10).trans (if_pos c19)))
  · skip
    have c10 : a0 = b0 := (lg_cmp_eq _ _).mp c10
    refine lv_iconst (v := 1) hx hb dX3_drawFraction_13 (by decide) ?_
    exact nk_retI (g := _) (0 : Int32) hx hb hr hlocks hP hD hS dX3_drawFraction_14 (by exact (if_pos c10))

set_option maxHeartbeats 4000000 in
set_option maxRecDepth 100000 in
theorem mX3_fraction (l : Launch) (D : va_G) (ad : Nat → Nat) (ca : Nat → ClassId) (sd : Int64) (tc : Int32) (sc : Int32) (tr : Int32) (st : Int32) (pz : Int32) (T : Nat → Int64) (Wt : Nat → Int64) (O : Nat → Int32) (SA : Nat → Option Nat) (KA : Nat → Option Nat) (R : Nat → Int64) (Ln : Nat → Int32) (Ky : Nat → Int64) (Ch : Nat → Int64) (X : va_W) (run0 : Int64) (p0 c0 : Int32) (a0 b0 : Int64) (hz : pz ≤ 24) : nkMI l yX3_fraction wsX3_fraction ({ frames := 3, cells := 0, slots := 0, locals := 86 }) D (tC ca) [.ref (ad 0), .long run0, .int p0, .int c0, .long a0, .long b0] (wC ad ca sd tc sc tr st pz T Wt O SA KA R Ln Ky Ch X) (fun u : Int32 => wC ad ca sd tc sc u st pz T Wt O SA KA R Ln Ky Ch X) (fun r u => fFracC sd pz Ky run0 p0 c0 a0 b0 tr = (r, u)) 0 0 := by
  refine nk_ofM (Qf := fun A => va_Qi (fun r u => fFracC sd pz Ky run0 p0 c0 a0 b0 tr = (r, u)) (nkB D A (fun u : Int32 => wC ad ca sd tc sc u st pz T Wt O SA KA R Ln Ky Ch X)) A) (cc := cX3_fraction) (maxL := 9) (ret := (some .int)) (by decide) rfl (Nat.le_of_ble_eq_true rfl) ?_
  intro p e s m below meth c A hx hb hr hml hts hown hlocks hin hK hP hD hA hS ls hl
  replace hown : s.vm.findClass RX3 = some m.cls := hown
  replace hl : lv_has ls 9 [(0, .ref (ad 0)), (1, .long run0), (3, .int p0), (4, .int c0), (5, .long a0), (7, .long b0)] := hl
  have hP : va_P D vwCl (wC ad ca sd tc sc tr st pz T Wt O SA KA R Ln Ky Ch X) s.heap := hP
  have iX1 : ∀ w ∈ u_ws RX1 TX1 5, w ∈ wsX3_fraction := by decide +kernel
  have iX3 : ∀ w ∈ u_ws RX3 TX3 11, w ∈ wsX3_fraction := by decide +kernel
  refine lv_aload_n hx hb dX3_fraction_0 rfl (lv_at hl 0 rfl) ?_
  refine va_get (D := D) (ci := 3) (v := .ref (ad 2)) (C := RX3) (T := TX3) (N := 11) hx hb hts iX3 hown hK.1 hP 0 rfl rfl 3 (by decide) (hts (.fieldLink RX3 20 "NamedStreams" "paths" "LNamedStreams$Paths;") (by decide +kernel)) (fun _ h9 => h9) rfl dX3_fraction_1 ?_
  refine lv_iload_n hx hb dX3_fraction_4 rfl (lv_at hl 2 rfl) ?_
  refine nk_VRI (As := [.int p0]) (rest := []) ⟨hx, hb, hml, hown, hts⟩ (mX1_has l D ad ca sd tc sc tr st pz T Wt O SA KA R Ln Ky Ch X p0) (cwV 1 hts gX3_fraction_X1_has rfl rfl rfl (by decide +kernel) ⟨Nat.le_of_ble_eq_true rfl, Nat.le_of_ble_eq_true rfl⟩) hK hP 2 1 rfl rfl rfl rfl hl.1 rfl (Nat.le_of_ble_eq_true rfl) dX3_fraction_5 ⟨Nat.zero_le _, Nat.zero_le _⟩ (fun r1 hr1 => ?_)
  subst hr1
  refine lv_if_eq (tgt := 38) hx hb dX3_fraction_8 (by decide) (fun c8 => ?_) (fun c8 => ?_)
  · skip
    refine lv_iconst (v := -1) hx hb dX3_fraction_38 (by decide) ?_
    exact nk_retI (g := _) tr hx hb hr hlocks hP hD hS dX3_fraction_39 (by exact (if_pos c8))
  · skip
    refine lv_iload hx hb dX3_fraction_11 (lv_at hl 3 rfl) ?_
    refine lv_if_lt (tgt := 38) hx hb dX3_fraction_13 (by decide) (fun c13 => ?_) (fun c13 => ?_)
    · skip
      refine lv_iconst (v := -1) hx hb dX3_fraction_38 (by decide) ?_
      exact nk_retI (g := _) tr hx hb hr hlocks hP hD hS dX3_fraction_39 (by exact ((if_neg c8).trans (if_pos c13)))
    · skip
      refine lv_lload hx hb dX3_fraction_16 (lv_at hl 5 rfl) ?_
      refine lv_lconst (v := 0) hx hb dX3_fraction_18 (by decide) ?_
      refine W.lcmp hx hb dX3_fraction_19 ?_
      refine lv_if_lt (tgt := 38) hx hb dX3_fraction_20 (by decide) (fun c20 => ?_) (fun c20 => ?_)
      · skip
        have c20 : b0 < (0 : Int64) := (lg_cmp_lt _ _).mp c20
        refine lv_iconst (v := -1) hx hb dX3_fraction_38 (by decide) ?_
        exact nk_retI (g := _) tr hx hb hr hlocks hP hD hS dX3_fraction_39 (by exact ((if_neg c8).trans ((if_neg c13).trans (if_pos c20))))
      · skip
        have c20 : ¬ (b0 < (0 : Int64)) := fun h => c20 ((lg_cmp_lt _ _).mpr h)
        refine lv_lload hx hb dX3_fraction_23 (lv_at hl 4 rfl) ?_
        refine lv_lconst (v := 0) hx hb dX3_fraction_25 (by decide) ?_
        refine W.lcmp hx hb dX3_fraction_26 ?_
        refine lv_if_lt (tgt := 38) hx hb dX3_fraction_27 (by decide) (fun c27 => ?_) (fun c27 => ?_)
        · skip
          have c27 : a0 < (0 : Int64) := (lg_cmp_lt _ _).mp c27
          refine lv_iconst (v := -1) hx hb dX3_fraction_38 (by decide) ?_
          exact nk_retI (g := _) tr hx hb hr hlocks hP hD hS dX3_fraction_39 (by exact ((if_neg c8).trans ((if_neg c13).trans ((if_neg c20).trans (if_pos c27)))))
        · skip
          have c27 : ¬ (a0 < (0 : Int64)) := fun h => c27 ((lg_cmp_lt _ _).mpr h)
          refine lv_lload hx hb dX3_fraction_30 (lv_at hl 4 rfl) ?_
          refine lv_lload hx hb dX3_fraction_32 (lv_at hl 5 rfl) ?_
          refine W.lcmp hx hb dX3_fraction_34 ?_
          refine lv_if_le (tgt := 40) hx hb dX3_fraction_35 (by decide) (fun c35 => ?_) (fun c35 => ?_)
          · skip
            have c35 : a0 ≤ b0 := (lg_cmp_le _ _).mp c35
            refine lv_lload hx hb dX3_fraction_40 (lv_at hl 5 rfl) ?_
            refine lv_lconst (v := 0) hx hb dX3_fraction_42 (by decide) ?_
            refine W.lcmp hx hb dX3_fraction_43 ?_
            refine lv_if_ne (tgt := 50) hx hb dX3_fraction_44 (by decide) (fun c44 => ?_) (fun c44 => ?_)
            · skip
              have c44 : ¬ (b0 = (0 : Int64)) := fun h => c44 ((lg_cmp_eq _ _).mpr h)
              refine lv_aload_n hx hb dX3_fraction_50 rfl (lv_at hl 0 rfl) ?_
              refine lv_lload_n hx hb dX3_fraction_51 rfl (lv_at hl 1 rfl) ?_
              refine lv_iload_n hx hb dX3_fraction_52 rfl (lv_at hl 2 rfl) ?_
              refine lv_iload hx hb dX3_fraction_53 (lv_at hl 3 rfl) ?_
              refine lv_lload hx hb dX3_fraction_55 (lv_at hl 4 rfl) ?_
              refine lv_lload hx hb dX3_fraction_57 (lv_at hl 5 rfl) ?_
              refine nk_VI (As := [.long run0, .int p0, .int c0, .long a0, .long b0]) (rest := []) ⟨hx, hb, hml, hown, hts⟩ (mX3_drawFraction l D ad ca sd tc sc tr st pz T Wt O SA KA R Ln Ky Ch X run0 p0 c0 a0 b0 (ns_hasIn c8 hz)) (cwV 5 hts gX3_fraction_X3_drawFraction rfl rfl rfl (by decide +kernel) ⟨Nat.le_of_ble_eq_true rfl, Nat.le_of_ble_eq_true rfl⟩) hK hP hD hS hA 0 3 rfl rfl rfl rfl hl.1 rfl (Nat.le_of_ble_eq_true rfl) dX3_fraction_59 ⟨Nat.zero_le _, Nat.zero_le _⟩ (fun r2 ur2 H locs hr2 hP hD hS => ?_)
              obtain ⟨rfl, rfl⟩ : r2 = (fFracD (fBase sd run0 (Ky (Int32.toNatClampNeg p0))) (fFirst c0) a0 b0).1 ∧ ur2 = (fFracD (fBase sd run0 (Ky (Int32.toNatClampNeg p0))) (fFirst c0) a0 b0).2 := by rw [hr2]; exact ⟨rfl, rfl⟩
              have hP : va_P D vwCl (wC ad ca sd tc sc ((fFracD (fBase sd run0 (Ky (Int32.toNatClampNeg p0))) (fFirst c0) a0 b0).2) st pz T Wt O SA KA R Ln Ky Ch X) H := hP
              have hD : va_D A (wC ad ca sd tc sc ((fFracD (fBase sd run0 (Ky (Int32.toNatClampNeg p0))) (fFirst c0) a0 b0).2) st pz T Wt O SA KA R Ln Ky Ch X) := hD
              exact nk_retI (g := _) ((fFracD (fBase sd run0 (Ky (Int32.toNatClampNeg p0))) (fFirst c0) a0 b0).2) hx hb hr hlocks hP hD hS dX3_fraction_62 (by exact ((if_neg c8).trans ((if_neg c13).trans ((if_neg c20).trans ((if_neg c27).trans ((if_pos c35).trans (if_neg c44)))))))
            · skip
              have c44 : b0 = (0 : Int64) := (lg_cmp_eq _ _).mp c44
              refine lv_bipush (v := -4) hx hb dX3_fraction_47 (by decide) ?_
              exact nk_retI (g := _) tr hx hb hr hlocks hP hD hS dX3_fraction_49 (by exact ((if_neg c8).trans ((if_neg c13).trans ((if_neg c20).trans ((if_neg c27).trans ((if_pos c35).trans (if_pos c44)))))))
          · skip
            have c35 : ¬ (a0 ≤ b0) := fun h => c35 ((lg_cmp_le _ _).mpr h)
            refine lv_iconst (v := -1) hx hb dX3_fraction_38 (by decide) ?_
            exact nk_retI (g := _) tr hx hb hr hlocks hP hD hS dX3_fraction_39 (by exact ((if_neg c8).trans ((if_neg c13).trans ((if_neg c20).trans ((if_neg c27).trans (if_neg c35))))))

set_option maxHeartbeats 4000000 in
set_option maxRecDepth 100000 in
theorem mX3_weight (l : Launch) (D : va_G) (ad : Nat → Nat) (ca : Nat → ClassId) (sd : Int64) (tc : Int32) (sc : Int32) (tr : Int32) (st : Int32) (pz : Int32) (T : Nat → Int64) (Wt : Nat → Int64) (O : Nat → Int32) (SA : Nat → Option Nat) (KA : Nat → Option Nat) (R : Nat → Int64) (Ln : Nat → Int32) (Ky : Nat → Int64) (Ch : Nat → Int64) (X : va_W) (k0 : Int32) (w0 : Int64) : nkMI l yX3_weight wsX3_weight ({ frames := 0, cells := 0, slots := 0, locals := 0 }) D (tC ca) [.ref (ad 0), .int k0, .long w0] (wC ad ca sd tc sc tr st pz T Wt O SA KA R Ln Ky Ch X) (fun u : Nat → Int64 => wC ad ca sd tc sc tr st pz T u O SA KA R Ln Ky Ch X) (fun r u => fWeight Wt k0 w0 = (r, u)) 0 0 := by
  refine nk_ofM (Qf := fun A => va_Qi (fun r u => fWeight Wt k0 w0 = (r, u)) (nkB D A (fun u : Nat → Int64 => wC ad ca sd tc sc tr st pz T u O SA KA R Ln Ky Ch X)) A) (cc := cX3_weight) (maxL := 4) (ret := (some .int)) (by decide) rfl (Nat.le_of_ble_eq_true rfl) ?_
  intro p e s m below meth c A hx hb hr hml hts hown hlocks hin hK hP hD hA hS ls hl
  replace hown : s.vm.findClass RX3 = some m.cls := hown
  replace hl : lv_has ls 4 [(0, .ref (ad 0)), (1, .int k0), (2, .long w0)] := hl
  have hP : va_P D vwCl (wC ad ca sd tc sc tr st pz T Wt O SA KA R Ln Ky Ch X) s.heap := hP
  have iX3 : ∀ w ∈ u_ws RX3 TX3 11, w ∈ wsX3_weight := by decide +kernel
  refine lv_iload_n hx hb dX3_weight_0 rfl (lv_at hl 1 rfl) ?_
  refine lv_if_lt (tgt := 16) hx hb dX3_weight_1 (by decide) (fun c1 => ?_) (fun c1 => ?_)
  · skip
    refine lv_iconst (v := -1) hx hb dX3_weight_16 (by decide) ?_
    exact nk_retI (g := _) Wt hx hb hr hlocks hP hD hS dX3_weight_17 (by exact (if_pos c1))
  · skip
    refine lv_iload_n hx hb dX3_weight_4 rfl (lv_at hl 1 rfl) ?_
    refine lv_bipush (v := 10) hx hb dX3_weight_5 (by decide) ?_
    refine lv_icmp_ge (tgt := 16) hx hb dX3_weight_7 (by decide) (fun c7 => ?_) (fun c7 => ?_)
    · skip
      refine lv_iconst (v := -1) hx hb dX3_weight_16 (by decide) ?_
      exact nk_retI (g := _) Wt hx hb hr hlocks hP hD hS dX3_weight_17 (by exact ((if_neg c1).trans (if_pos c7)))
    · skip
      refine lv_lload_n hx hb dX3_weight_10 rfl (lv_at hl 2 rfl) ?_
      refine lv_lconst (v := 0) hx hb dX3_weight_11 (by decide) ?_
      refine W.lcmp hx hb dX3_weight_12 ?_
      refine lv_if_ge (tgt := 18) hx hb dX3_weight_13 (by decide) (fun c13 => ?_) (fun c13 => ?_)
      · skip
        have c13 : (0 : Int64) ≤ w0 := (lg_cmp_ge _ _).mp c13
        refine lv_aload_n hx hb dX3_weight_18 rfl (lv_at hl 0 rfl) ?_
        refine va_get (D := D) (ci := 3) (v := .ref (ad 3)) (C := RX3) (T := TX3) (N := 11) hx hb hts iX3 hown hK.1 hP 0 rfl rfl 4 (by decide) (hts (.fieldLink RX3 24 "NamedStreams" "weights" "[J") (by decide +kernel)) (fun _ h9 => h9) rfl dX3_weight_19 ?_
        refine lv_iload_n hx hb dX3_weight_22 rfl (lv_at hl 1 rfl) ?_
        refine lv_lload_n hx hb dX3_weight_23 rfl (lv_at hl 2 rfl) ?_
        refine va_last hx hb hK.1 hP hD hS 3 1 rfl rfl (ns_in (ns_nn c1) (Int32.not_le.mp c7) (by decide)) dX3_weight_24 (fun H locs hP hD hS => ?_)
        have hP : va_P D vwCl (wC ad ca sd tc sc tr st pz T (vp_updL Wt (Int32.toNatClampNeg k0) w0) O SA KA R Ln Ky Ch X) H := hP
        have hD : va_D A (wC ad ca sd tc sc tr st pz T (vp_updL Wt (Int32.toNatClampNeg k0) w0) O SA KA R Ln Ky Ch X) := hD
        refine lv_iconst (v := 1) hx hb dX3_weight_25 (by decide) ?_
        exact nk_retI (g := _) (vp_updL Wt (Int32.toNatClampNeg k0) w0) hx hb hr hlocks hP hD hS dX3_weight_26 (by exact ((if_neg c1).trans ((if_neg c7).trans (if_pos c13))))
      · skip
        have c13 : ¬ ((0 : Int64) ≤ w0) := fun h => c13 ((lg_cmp_ge _ _).mpr h)
        refine lv_iconst (v := -1) hx hb dX3_weight_16 (by decide) ?_
        exact nk_retI (g := _) Wt hx hb hr hlocks hP hD hS dX3_weight_17 (by exact ((if_neg c1).trans ((if_neg c7).trans (if_neg c13))))

set_option maxHeartbeats 4000000 in
set_option maxRecDepth 100000 in
theorem mX3_sumOfWeights (l : Launch) (D : va_G) (ad : Nat → Nat) (ca : Nat → ClassId) (sd : Int64) (tc : Int32) (sc : Int32) (tr : Int32) (st : Int32) (pz : Int32) (T : Nat → Int64) (Wt : Nat → Int64) (O : Nat → Int32) (SA : Nat → Option Nat) (KA : Nat → Option Nat) (R : Nat → Int64) (Ln : Nat → Int32) (Ky : Nat → Int64) (Ch : Nat → Int64) (X : va_W) : nkRL l yX3_sumOfWeights wsX3_sumOfWeights ({ frames := 0, cells := 0, slots := 0, locals := 0 }) D (tC ca) [.ref (ad 0)] (wC ad ca sd tc sc tr st pz T Wt O SA KA R Ln Ky Ch X) (fun r => r = fSum Wt 10 0) := by
  refine nk_ofR (cc := cX3_sumOfWeights) (maxL := 4) (ret := (some .long)) (by decide) rfl (Nat.le_of_ble_eq_true rfl) ?_
  intro p e s m below meth c hx hb hr hml hts hown hlocks hK hP ls hl
  replace hown : s.vm.findClass RX3 = some m.cls := hown
  replace hl : lv_has ls 4 [(0, .ref (ad 0))] := hl
  have hP : va_P D vwCl (wC ad ca sd tc sc tr st pz T Wt O SA KA R Ln Ky Ch X) s.heap := hP
  have iX3 : ∀ w ∈ u_ws RX3 TX3 11, w ∈ wsX3_sumOfWeights := by decide +kernel
  refine lv_lconst (v := 0) hx hb dX3_sumOfWeights_0 (by decide) ?_
  refine lv_lstore_n (lv' := [(1, .long (0 : Int64)), (0, .ref (ad 0))]) hx hb dX3_sumOfWeights_1 rfl hl (by decide) rfl (fun ls hl => ?_)
  refine lv_iconst (v := 0) hx hb dX3_sumOfWeights_2 (by decide) ?_
  refine lv_istore_n (lv' := [(3, .int (0 : Int32)), (1, .long (0 : Int64)), (0, .ref (ad 0))]) hx hb dX3_sumOfWeights_3 rfl hl (by decide) rfl (fun ls hl => ?_)
  have lp4 : ∀ (k : Nat) (i : Int32) (s1 : Int64) (ls : Array Slot), k ≤ 10 → i = nI (10 - k) → fSum Wt k s1 = fSum Wt 10 0 → lv_has ls 4 [(3, .int i), (1, .long s1), (0, .ref (ad 0))] → W p l e ({ frames := 0, cells := 0, slots := 0, locals := 0 } : Room) s m ([.ref (ad 0)] : List Value).toArray below meth c s.heap [] 0 0 (MQ below (vp_Sl (fun r => r = fSum Wt 10 0)) ([.ref (ad 0)] : List Value).toArray s 0 0 (fun _ => False)) (F0 m 4 ls []) := by
    intro k
    induction k with
    | zero =>
      intro i s1 ls hk hi ht hl
      refine lv_iload_n hx hb dX3_sumOfWeights_4 rfl (lv_at hl 0 rfl) ?_
      refine lv_bipush (v := 10) hx hb dX3_sumOfWeights_5 (by decide) ?_
      refine lv_icmp_ge (tgt := 35) hx hb dX3_sumOfWeights_7 (by decide) (fun c7 => ?_) (fun c7 => ?_)
      · skip
        refine lv_lload_n hx hb dX3_sumOfWeights_35 rfl (lv_at hl 1 rfl) ?_
        exact nk_endL hx hb hr hlocks dX3_sumOfWeights_36 (by rw [← ht]; rfl)
      · skip
        exact absurd (by rw [hi]; decide) c7
    | succ k ih4 =>
      intro i s1 ls hk hi ht hl
      refine lv_iload_n hx hb dX3_sumOfWeights_4 rfl (lv_at hl 0 rfl) ?_
      refine lv_bipush (v := 10) hx hb dX3_sumOfWeights_5 (by decide) ?_
      refine lv_icmp_ge (tgt := 35) hx hb dX3_sumOfWeights_7 (by decide) (fun c7 => ?_) (fun c7 => ?_)
      · skip
        exact absurd c7 (Int32.not_le.mpr (by rw [hi]; exact ns_nI_lt (n := 10) rfl (by omega) (by decide)))
      · skip
        refine lv_lload_n hx hb dX3_sumOfWeights_10 rfl (lv_at hl 1 rfl) ?_
        refine lv_aload_n hx hb dX3_sumOfWeights_11 rfl (lv_at hl 2 rfl) ?_
        refine va_get (D := D) (ci := 3) (v := .ref (ad 3)) (C := RX3) (T := TX3) (N := 11) hx hb hts iX3 hown hK.1 hP 0 rfl rfl 4 (by decide) (hts (.fieldLink RX3 24 "NamedStreams" "weights" "[J") (by decide +kernel)) (fun _ h9 => h9) rfl dX3_sumOfWeights_12 ?_
        refine lv_iload_n hx hb dX3_sumOfWeights_15 rfl (lv_at hl 0 rfl) ?_
        refine va_lald hx hb hK.1 hP 3 1 rfl rfl (by rw [hi]; exact vp_in_nI (by omega) (by decide)) dX3_sumOfWeights_16 ?_
        refine lv_ladd hx hb dX3_sumOfWeights_17 ?_
        refine lv_topl (fun z1 ez1 => ?_)
        refine lv_lstore_n (lv' := [(1, .long z1), (3, .int i), (0, .ref (ad 0))]) hx hb dX3_sumOfWeights_18 rfl hl (by decide) rfl (fun ls hl => ?_)
        refine lv_lload_n hx hb dX3_sumOfWeights_19 rfl (lv_at hl 0 rfl) ?_
        refine lv_lconst (v := 0) hx hb dX3_sumOfWeights_20 (by decide) ?_
        refine W.lcmp hx hb dX3_sumOfWeights_21 ?_
        refine lv_if_ge (tgt := 29) hx hb dX3_sumOfWeights_22 (by decide) (fun c22 => ?_) (fun c22 => ?_)
        · skip
          have c22 : (0 : Int64) ≤ z1 := (lg_cmp_ge _ _).mp c22
          obtain ⟨i2, ei2⟩ : ∃ y : Int32, y = i + 1 := ⟨_, rfl⟩
          refine lv_iinc (v := i2) (lv' := [(3, .int i2), (1, .long z1), (0, .ref (ad 0))]) hx hb dX3_sumOfWeights_29 hl (k := 1) rfl (by rw [ei2]; rfl) (by decide) rfl (fun ls hl => ?_)
          refine lv_goto (tgt := 4) hx hb dX3_sumOfWeights_32 (by decide) ?_
          exact ih4 i2 z1 _ (Nat.le_of_succ_le hk) (ns_step hi hk ei2) (by subst hi; subst ez1; rw [← ht]; exact (if_pos c22).symm) (lv_sub hl [0, 1, 2] rfl)
        · skip
          have c22 : ¬ ((0 : Int64) ≤ z1) := fun h => c22 ((lg_cmp_ge _ _).mpr h)
          refine lv_ldc2 (v := -5) hx hb hown (hts (.constantLong RX3 158 (-5)) (by decide +kernel)) dX3_sumOfWeights_25 ?_
          exact nk_endL hx hb hr hlocks dX3_sumOfWeights_28 (by subst hi; subst ez1; rw [← ht]; exact (if_neg c22).symm)
  exact lp4 10 (0 : Int32) (0 : Int64) _ (Nat.le_refl 10) (by decide) rfl (lv_sub hl [0, 1, 2] rfl)

set_option maxHeartbeats 4000000 in
set_option maxRecDepth 100000 in
theorem mX3_weightReaching (l : Launch) (D : va_G) (ad : Nat → Nat) (ca : Nat → ClassId) (sd : Int64) (tc : Int32) (sc : Int32) (tr : Int32) (st : Int32) (pz : Int32) (T : Nat → Int64) (Wt : Nat → Int64) (O : Nat → Int32) (SA : Nat → Option Nat) (KA : Nat → Option Nat) (R : Nat → Int64) (Ln : Nat → Int32) (Ky : Nat → Int64) (Ch : Nat → Int64) (X : va_W) (d0 : Int64) : nkRI l yX3_weightReaching wsX3_weightReaching ({ frames := 0, cells := 0, slots := 0, locals := 0 }) D (tC ca) [.ref (ad 0), .long d0] (wC ad ca sd tc sc tr st pz T Wt O SA KA R Ln Ky Ch X) (fun r => r = fReach Wt 9 d0) := by
  refine nk_ofR (cc := cX3_weightReaching) (maxL := 6) (ret := (some .int)) (by decide) rfl (Nat.le_of_ble_eq_true rfl) ?_
  intro p e s m below meth c hx hb hr hml hts hown hlocks hK hP ls hl
  replace hown : s.vm.findClass RX3 = some m.cls := hown
  replace hl : lv_has ls 6 [(0, .ref (ad 0)), (1, .long d0)] := hl
  have hP : va_P D vwCl (wC ad ca sd tc sc tr st pz T Wt O SA KA R Ln Ky Ch X) s.heap := hP
  have iX3 : ∀ w ∈ u_ws RX3 TX3 11, w ∈ wsX3_weightReaching := by decide +kernel
  refine lv_lload_n hx hb dX3_weightReaching_0 rfl (lv_at hl 1 rfl) ?_
  refine lv_lstore_n (lv' := [(3, .long d0), (0, .ref (ad 0)), (1, .long d0)]) hx hb dX3_weightReaching_1 rfl hl (by decide) rfl (fun ls hl => ?_)
  refine lv_iconst (v := 0) hx hb dX3_weightReaching_2 (by decide) ?_
  refine lv_istore (lv' := [(5, .int (0 : Int32)), (3, .long d0), (0, .ref (ad 0)), (1, .long d0)]) hx hb dX3_weightReaching_3 hl (by decide) rfl (fun ls hl => ?_)
  have lp5 : ∀ (k : Nat) (i : Int32) (s1 : Int64) (ls : Array Slot), k ≤ 9 → i = nI (9 - k) → fReach Wt k s1 = fReach Wt 9 d0 → lv_has ls 6 [(5, .int i), (3, .long s1), (0, .ref (ad 0)), (1, .long d0)] → W p l e ({ frames := 0, cells := 0, slots := 0, locals := 0 } : Room) s m ([.ref (ad 0), .long d0] : List Value).toArray below meth c s.heap [] 0 0 (MQ below (vp_Si (fun r => r = fReach Wt 9 d0)) ([.ref (ad 0), .long d0] : List Value).toArray s 0 0 (fun _ => False)) (F0 m 5 ls []) := by
    intro k
    induction k with
    | zero =>
      intro i s1 ls hk hi ht hl
      refine lv_iload hx hb dX3_weightReaching_5 (lv_at hl 0 rfl) ?_
      refine lv_bipush (v := 9) hx hb dX3_weightReaching_7 (by decide) ?_
      refine lv_icmp_ge (tgt := 40) hx hb dX3_weightReaching_9 (by decide) (fun c9 => ?_) (fun c9 => ?_)
      · skip
        refine lv_iload hx hb dX3_weightReaching_40 (lv_at hl 0 rfl) ?_
        exact nk_endI hx hb hr hlocks dX3_weightReaching_42 (by rw [← ht, hi]; rfl)
      · skip
        exact absurd (by rw [hi]; decide) c9
    | succ k ih5 =>
      intro i s1 ls hk hi ht hl
      refine lv_iload hx hb dX3_weightReaching_5 (lv_at hl 0 rfl) ?_
      refine lv_bipush (v := 9) hx hb dX3_weightReaching_7 (by decide) ?_
      refine lv_icmp_ge (tgt := 40) hx hb dX3_weightReaching_9 (by decide) (fun c9 => ?_) (fun c9 => ?_)
      · skip
        exact absurd c9 (Int32.not_le.mpr (by rw [hi]; exact ns_nI_lt (n := 9) rfl (by omega) (by decide)))
      · skip
        refine lv_lload_n hx hb dX3_weightReaching_12 rfl (lv_at hl 1 rfl) ?_
        refine lv_aload_n hx hb dX3_weightReaching_13 rfl (lv_at hl 2 rfl) ?_
        refine va_get (D := D) (ci := 3) (v := .ref (ad 3)) (C := RX3) (T := TX3) (N := 11) hx hb hts iX3 hown hK.1 hP 0 rfl rfl 4 (by decide) (hts (.fieldLink RX3 24 "NamedStreams" "weights" "[J") (by decide +kernel)) (fun _ h9 => h9) rfl dX3_weightReaching_14 ?_
        refine lv_iload hx hb dX3_weightReaching_17 (lv_at hl 0 rfl) ?_
        refine va_lald hx hb hK.1 hP 3 1 rfl rfl (by rw [hi]; exact vp_in_nI (by omega) (by decide)) dX3_weightReaching_19 ?_
        refine W.lcmp hx hb dX3_weightReaching_20 ?_
        refine lv_if_lt (tgt := 40) hx hb dX3_weightReaching_21 (by decide) (fun c21 => ?_) (fun c21 => ?_)
        · skip
          have c21 : s1 < (Wt (Int32.toNatClampNeg i)) := (lg_cmp_lt _ _).mp c21
          refine lv_iload hx hb dX3_weightReaching_40 (lv_at hl 0 rfl) ?_
          exact nk_endI hx hb hr hlocks dX3_weightReaching_42 (by subst hi; rw [← ht]; exact (if_pos c21).symm)
        · skip
          have c21 : ¬ (s1 < (Wt (Int32.toNatClampNeg i))) := fun h => c21 ((lg_cmp_lt _ _).mpr h)
          refine lv_lload_n hx hb dX3_weightReaching_24 rfl (lv_at hl 1 rfl) ?_
          refine lv_aload_n hx hb dX3_weightReaching_25 rfl (lv_at hl 2 rfl) ?_
          refine va_get (D := D) (ci := 3) (v := .ref (ad 3)) (C := RX3) (T := TX3) (N := 11) hx hb hts iX3 hown hK.1 hP 0 rfl rfl 4 (by decide) (hts (.fieldLink RX3 24 "NamedStreams" "weights" "[J") (by decide +kernel)) (fun _ h9 => h9) rfl dX3_weightReaching_26 ?_
          refine lv_iload hx hb dX3_weightReaching_29 (lv_at hl 0 rfl) ?_
          refine va_lald hx hb hK.1 hP 3 1 rfl rfl (by rw [hi]; exact vp_in_nI (by omega) (by decide)) dX3_weightReaching_31 ?_
          refine lv_lsub hx hb dX3_weightReaching_32 ?_
          refine lv_topl (fun z1 ez1 => ?_)
          refine lv_lstore_n (lv' := [(3, .long z1), (5, .int i), (0, .ref (ad 0)), (1, .long d0)]) hx hb dX3_weightReaching_33 rfl hl (by decide) rfl (fun ls hl => ?_)
          obtain ⟨i2, ei2⟩ : ∃ y : Int32, y = i + 1 := ⟨_, rfl⟩
          refine lv_iinc (v := i2) (lv' := [(5, .int i2), (3, .long z1), (0, .ref (ad 0)), (1, .long d0)]) hx hb dX3_weightReaching_34 hl (k := 1) rfl (by rw [ei2]; rfl) (by decide) rfl (fun ls hl => ?_)
          refine lv_goto (tgt := 5) hx hb dX3_weightReaching_37 (by decide) ?_
          exact ih5 i2 z1 _ (Nat.le_of_succ_le hk) (ns_step hi hk ei2) (by subst hi; subst ez1; rw [← ht]; exact (if_neg c21).symm) (lv_sub hl [0, 1, 2, 3] rfl)
  exact lp5 9 (0 : Int32) d0 _ (Nat.le_refl 9) (by decide) rfl (lv_sub hl [0, 1, 2, 3] rfl)

set_option maxHeartbeats 4000000 in
set_option maxRecDepth 100000 in
theorem mX3_drawPick (l : Launch) (D : va_G) (ad : Nat → Nat) (ca : Nat → ClassId) (sd : Int64) (tc : Int32) (sc : Int32) (tr : Int32) (st : Int32) (pz : Int32) (T : Nat → Int64) (Wt : Nat → Int64) (O : Nat → Int32) (SA : Nat → Option Nat) (KA : Nat → Option Nat) (R : Nat → Int64) (Ln : Nat → Int32) (Ky : Nat → Int64) (Ch : Nat → Int64) (X : va_W) (run0 : Int64) (p0 c0 : Int32) (hp0 : vp_in p0 24) : nkMI l yX3_drawPick wsX3_drawPick ({ frames := 3, cells := 0, slots := 0, locals := 85 }) D (tC ca) [.ref (ad 0), .long run0, .int p0, .int c0] (wC ad ca sd tc sc tr st pz T Wt O SA KA R Ln Ky Ch X) (fun u : Int32 => wC ad ca sd tc sc u st pz T Wt O SA KA R Ln Ky Ch X) (fun r u => fPick (fBase sd run0 (Ky p0.toNatClampNeg)) (fFirst c0) Wt tr = (r, u)) 0 0 := by
  refine nk_ofM (Qf := fun A => va_Qi (fun r u => fPick (fBase sd run0 (Ky p0.toNatClampNeg)) (fFirst c0) Wt tr = (r, u)) (nkB D A (fun u : Int32 => wC ad ca sd tc sc u st pz T Wt O SA KA R Ln Ky Ch X)) A) (cc := cX3_drawPick) (maxL := 9) (ret := (some .int)) (by decide) rfl (Nat.le_of_ble_eq_true rfl) ?_
  intro p e s m below meth c A hx hb hr hml hts hown hlocks hin hK hP hD hA hS ls hl
  replace hown : s.vm.findClass RX3 = some m.cls := hown
  replace hl : lv_has ls 9 [(0, .ref (ad 0)), (1, .long run0), (3, .int p0), (4, .int c0)] := hl
  have hP : va_P D vwCl (wC ad ca sd tc sc tr st pz T Wt O SA KA R Ln Ky Ch X) s.heap := hP
  have iX1 : ∀ w ∈ u_ws RX1 TX1 5, w ∈ wsX3_drawPick := by decide +kernel
  have iX3 : ∀ w ∈ u_ws RX3 TX3 11, w ∈ wsX3_drawPick := by decide +kernel
  refine lv_aload_n hx hb dX3_drawPick_0 rfl (lv_at hl 0 rfl) ?_
  refine nk_VRL (As := []) (rest := []) ⟨hx, hb, hml, hown, hts⟩ (mX3_sumOfWeights l D ad ca sd tc sc tr st pz T Wt O SA KA R Ln Ky Ch X) (cwV 0 hts gX3_drawPick_X3_sumOfWeights rfl rfl rfl (by decide +kernel) ⟨Nat.le_of_ble_eq_true rfl, Nat.le_of_ble_eq_true rfl⟩) hK hP 0 3 rfl rfl rfl rfl hl.1 rfl (Nat.le_of_ble_eq_true rfl) dX3_drawPick_1 ⟨Nat.zero_le _, Nat.zero_le _⟩ (fun r1 hr1 => ?_)
  subst hr1
  refine lv_topl (fun z2 ez2 => ?_)
  refine lv_lstore (lv' := [(5, .long z2), (0, .ref (ad 0)), (1, .long run0), (3, .int p0), (4, .int c0)]) hx hb dX3_drawPick_4 hl (by decide) rfl (fun ls hl => ?_)
  refine lv_lload hx hb dX3_drawPick_6 (lv_at hl 0 rfl) ?_
  refine lv_lconst (v := 0) hx hb dX3_drawPick_8 (by decide) ?_
  refine W.lcmp hx hb dX3_drawPick_9 ?_
  refine lv_if_ne (tgt := 16) hx hb dX3_drawPick_10 (by decide) (fun c10 => ?_) (fun c10 => ?_)
  · skip
    have c10 : ¬ (z2 = (0 : Int64)) := fun h => c10 ((lg_cmp_eq _ _).mpr h)
    refine lv_lload hx hb dX3_drawPick_16 (lv_at hl 0 rfl) ?_
    refine lv_lconst (v := 0) hx hb dX3_drawPick_18 (by decide) ?_
    refine W.lcmp hx hb dX3_drawPick_19 ?_
    refine lv_if_ge (tgt := 26) hx hb dX3_drawPick_20 (by decide) (fun c20 => ?_) (fun c20 => ?_)
    · skip
      have c20 : (0 : Int64) ≤ z2 := (lg_cmp_ge _ _).mp c20
      refine lv_aload_n hx hb dX3_drawPick_26 rfl (lv_at hl 1 rfl) ?_
      refine lv_lload_n hx hb dX3_drawPick_27 rfl (lv_at hl 2 rfl) ?_
      refine lv_iload_n hx hb dX3_drawPick_28 rfl (lv_at hl 3 rfl) ?_
      refine lv_iload hx hb dX3_drawPick_29 (lv_at hl 4 rfl) ?_
      refine lv_lload hx hb dX3_drawPick_31 (lv_at hl 0 rfl) ?_
      refine nk_VL (As := [.long run0, .int p0, .int c0, .long z2]) (rest := []) ⟨hx, hb, hml, hown, hts⟩ (mX3_drawSpan l D ad ca sd tc sc tr st pz T Wt O SA KA R Ln Ky Ch X run0 p0 c0 z2 hp0 c10) (cwV 4 hts gX3_drawPick_X3_drawSpan rfl rfl rfl (by decide +kernel) ⟨Nat.le_of_ble_eq_true rfl, Nat.le_of_ble_eq_true rfl⟩) hK hP hD hS hA 0 3 rfl rfl rfl rfl hl.1 rfl (Nat.le_of_ble_eq_true rfl) dX3_drawPick_33 ⟨Nat.zero_le _, Nat.zero_le _⟩ (fun r3 ur3 H locs hr3 hP hD hS => ?_)
      obtain ⟨rfl, rfl⟩ : r3 = (fSpan (fBase sd run0 (Ky (Int32.toNatClampNeg p0))) (fFirst c0) z2 tr).1 ∧ ur3 = (fSpan (fBase sd run0 (Ky (Int32.toNatClampNeg p0))) (fFirst c0) z2 tr).2 := by rw [hr3]; exact ⟨rfl, rfl⟩
      have hP : va_P D vwCl (wC ad ca sd tc sc ((fSpan (fBase sd run0 (Ky (Int32.toNatClampNeg p0))) (fFirst c0) z2 tr).2) st pz T Wt O SA KA R Ln Ky Ch X) H := hP
      have hD : va_D A (wC ad ca sd tc sc ((fSpan (fBase sd run0 (Ky (Int32.toNatClampNeg p0))) (fFirst c0) z2 tr).2) st pz T Wt O SA KA R Ln Ky Ch X) := hD
      refine lv_topl (fun z4 ez4 => ?_)
      refine lv_lstore (lv' := [(7, .long z4), (5, .long z2), (0, .ref (ad 0)), (1, .long run0), (3, .int p0), (4, .int c0)]) hx hb dX3_drawPick_36 hl (by decide) rfl (fun ls hl => ?_)
      refine lv_lload hx hb dX3_drawPick_38 (lv_at hl 0 rfl) ?_
      refine lv_lconst (v := 0) hx hb dX3_drawPick_40 (by decide) ?_
      refine W.lcmp hx hb dX3_drawPick_41 ?_
      refine lv_if_ge (tgt := 50) hx hb dX3_drawPick_42 (by decide) (fun c42 => ?_) (fun c42 => ?_)
      · skip
        have c42 : (0 : Int64) ≤ z4 := (lg_cmp_ge _ _).mp c42
        refine lv_aload_n hx hb dX3_drawPick_50 rfl (lv_at hl 2 rfl) ?_
        refine lv_lload hx hb dX3_drawPick_51 (lv_at hl 0 rfl) ?_
        refine nk_VRI (As := [.long z4]) (rest := []) ⟨hx, hb, hml, hown, hts⟩ (mX3_weightReaching l D ad ca sd tc sc ((fSpan (fBase sd run0 (Ky (Int32.toNatClampNeg p0))) (fFirst c0) z2 tr).2) st pz T Wt O SA KA R Ln Ky Ch X z4) (cwV 1 hts gX3_drawPick_X3_weightReaching rfl rfl rfl (by decide +kernel) ⟨Nat.le_of_ble_eq_true rfl, Nat.le_of_ble_eq_true rfl⟩) hK hP 0 3 rfl rfl rfl rfl hl.1 rfl (Nat.le_of_ble_eq_true rfl) dX3_drawPick_53 ⟨Nat.zero_le _, Nat.zero_le _⟩ (fun r5 hr5 => ?_)
        subst hr5
        exact nk_retI (g := _) ((fSpan (fBase sd run0 (Ky (Int32.toNatClampNeg p0))) (fFirst c0) z2 tr).2) hx hb hr hlocks hP hD hS dX3_drawPick_56 (by subst ez2; subst ez4; exact ((if_neg c10).trans ((if_pos c20).trans (if_pos c42))))
      · skip
        have c42 : ¬ ((0 : Int64) ≤ z4) := fun h => c42 ((lg_cmp_ge _ _).mpr h)
        refine lv_bipush (v := -3) hx hb dX3_drawPick_45 (by decide) ?_
        refine lv_goto (tgt := 56) hx hb dX3_drawPick_47 (by decide) ?_
        exact nk_retI (g := _) ((fSpan (fBase sd run0 (Ky (Int32.toNatClampNeg p0))) (fFirst c0) z2 tr).2) hx hb hr hlocks hP hD hS dX3_drawPick_56 (by subst ez2; subst ez4; exact ((if_neg c10).trans ((if_pos c20).trans (if_neg c42))))
    · skip
      have c20 : ¬ ((0 : Int64) ≤ z2) := fun h => c20 ((lg_cmp_ge _ _).mpr h)
      refine lv_bipush (v := -5) hx hb dX3_drawPick_23 (by decide) ?_
      exact nk_retI (g := _) tr hx hb hr hlocks hP hD hS dX3_drawPick_25 (by subst ez2; exact ((if_neg c10).trans (if_neg c20)))
  · skip
    have c10 : z2 = (0 : Int64) := (lg_cmp_eq _ _).mp c10
    refine lv_bipush (v := -4) hx hb dX3_drawPick_13 (by decide) ?_
    exact nk_retI (g := _) tr hx hb hr hlocks hP hD hS dX3_drawPick_15 (by subst ez2; exact (if_pos c10))

set_option maxHeartbeats 4000000 in
set_option maxRecDepth 100000 in
theorem mX3_pick (l : Launch) (D : va_G) (ad : Nat → Nat) (ca : Nat → ClassId) (sd : Int64) (tc : Int32) (sc : Int32) (tr : Int32) (st : Int32) (pz : Int32) (T : Nat → Int64) (Wt : Nat → Int64) (O : Nat → Int32) (SA : Nat → Option Nat) (KA : Nat → Option Nat) (R : Nat → Int64) (Ln : Nat → Int32) (Ky : Nat → Int64) (Ch : Nat → Int64) (X : va_W) (run0 : Int64) (p0 c0 : Int32) (hz : pz ≤ 24) : nkMI l yX3_pick wsX3_pick ({ frames := 4, cells := 0, slots := 0, locals := 113 }) D (tC ca) [.ref (ad 0), .long run0, .int p0, .int c0] (wC ad ca sd tc sc tr st pz T Wt O SA KA R Ln Ky Ch X) (fun u : Int32 => wC ad ca sd tc sc u st pz T Wt O SA KA R Ln Ky Ch X) (fun r u => fPickC sd pz Ky Wt run0 p0 c0 tr = (r, u)) 0 0 := by
  refine nk_ofM (Qf := fun A => va_Qi (fun r u => fPickC sd pz Ky Wt run0 p0 c0 tr = (r, u)) (nkB D A (fun u : Int32 => wC ad ca sd tc sc u st pz T Wt O SA KA R Ln Ky Ch X)) A) (cc := cX3_pick) (maxL := 5) (ret := (some .int)) (by decide) rfl (Nat.le_of_ble_eq_true rfl) ?_
  intro p e s m below meth c A hx hb hr hml hts hown hlocks hin hK hP hD hA hS ls hl
  replace hown : s.vm.findClass RX3 = some m.cls := hown
  replace hl : lv_has ls 5 [(0, .ref (ad 0)), (1, .long run0), (3, .int p0), (4, .int c0)] := hl
  have hP : va_P D vwCl (wC ad ca sd tc sc tr st pz T Wt O SA KA R Ln Ky Ch X) s.heap := hP
  have iX1 : ∀ w ∈ u_ws RX1 TX1 5, w ∈ wsX3_pick := by decide +kernel
  have iX3 : ∀ w ∈ u_ws RX3 TX3 11, w ∈ wsX3_pick := by decide +kernel
  refine lv_aload_n hx hb dX3_pick_0 rfl (lv_at hl 0 rfl) ?_
  refine va_get (D := D) (ci := 3) (v := .ref (ad 2)) (C := RX3) (T := TX3) (N := 11) hx hb hts iX3 hown hK.1 hP 0 rfl rfl 3 (by decide) (hts (.fieldLink RX3 20 "NamedStreams" "paths" "LNamedStreams$Paths;") (by decide +kernel)) (fun _ h9 => h9) rfl dX3_pick_1 ?_
  refine lv_iload_n hx hb dX3_pick_4 rfl (lv_at hl 2 rfl) ?_
  refine nk_VRI (As := [.int p0]) (rest := []) ⟨hx, hb, hml, hown, hts⟩ (mX1_has l D ad ca sd tc sc tr st pz T Wt O SA KA R Ln Ky Ch X p0) (cwV 1 hts gX3_pick_X1_has rfl rfl rfl (by decide +kernel) ⟨Nat.le_of_ble_eq_true rfl, Nat.le_of_ble_eq_true rfl⟩) hK hP 2 1 rfl rfl rfl rfl hl.1 rfl (Nat.le_of_ble_eq_true rfl) dX3_pick_5 ⟨Nat.zero_le _, Nat.zero_le _⟩ (fun r1 hr1 => ?_)
  subst hr1
  refine lv_if_eq (tgt := 16) hx hb dX3_pick_8 (by decide) (fun c8 => ?_) (fun c8 => ?_)
  · skip
    refine lv_iconst (v := -1) hx hb dX3_pick_16 (by decide) ?_
    exact nk_retI (g := _) tr hx hb hr hlocks hP hD hS dX3_pick_17 (by exact (if_pos c8))
  · skip
    refine lv_iload hx hb dX3_pick_11 (lv_at hl 3 rfl) ?_
    refine lv_if_ge (tgt := 18) hx hb dX3_pick_13 (by decide) (fun c13 => ?_) (fun c13 => ?_)
    · skip
      refine lv_aload_n hx hb dX3_pick_18 rfl (lv_at hl 0 rfl) ?_
      refine lv_lload_n hx hb dX3_pick_19 rfl (lv_at hl 1 rfl) ?_
      refine lv_iload_n hx hb dX3_pick_20 rfl (lv_at hl 2 rfl) ?_
      refine lv_iload hx hb dX3_pick_21 (lv_at hl 3 rfl) ?_
      refine nk_VI (As := [.long run0, .int p0, .int c0]) (rest := []) ⟨hx, hb, hml, hown, hts⟩ (mX3_drawPick l D ad ca sd tc sc tr st pz T Wt O SA KA R Ln Ky Ch X run0 p0 c0 (ns_hasIn c8 hz)) (cwV 3 hts gX3_pick_X3_drawPick rfl rfl rfl (by decide +kernel) ⟨Nat.le_of_ble_eq_true rfl, Nat.le_of_ble_eq_true rfl⟩) hK hP hD hS hA 0 3 rfl rfl rfl rfl hl.1 rfl (Nat.le_of_ble_eq_true rfl) dX3_pick_23 ⟨Nat.zero_le _, Nat.zero_le _⟩ (fun r2 ur2 H locs hr2 hP hD hS => ?_)
      obtain ⟨rfl, rfl⟩ : r2 = (fPick (fBase sd run0 (Ky (Int32.toNatClampNeg p0))) (fFirst c0) Wt tr).1 ∧ ur2 = (fPick (fBase sd run0 (Ky (Int32.toNatClampNeg p0))) (fFirst c0) Wt tr).2 := by rw [hr2]; exact ⟨rfl, rfl⟩
      have hP : va_P D vwCl (wC ad ca sd tc sc ((fPick (fBase sd run0 (Ky (Int32.toNatClampNeg p0))) (fFirst c0) Wt tr).2) st pz T Wt O SA KA R Ln Ky Ch X) H := hP
      have hD : va_D A (wC ad ca sd tc sc ((fPick (fBase sd run0 (Ky (Int32.toNatClampNeg p0))) (fFirst c0) Wt tr).2) st pz T Wt O SA KA R Ln Ky Ch X) := hD
      exact nk_retI (g := _) ((fPick (fBase sd run0 (Ky (Int32.toNatClampNeg p0))) (fFirst c0) Wt tr).2) hx hb hr hlocks hP hD hS dX3_pick_26 (by exact ((if_neg c8).trans (if_pos c13)))
    · skip
      refine lv_iconst (v := -1) hx hb dX3_pick_16 (by decide) ?_
      exact nk_retI (g := _) tr hx hb hr hlocks hP hD hS dX3_pick_17 (by exact ((if_neg c8).trans (if_neg c13)))

set_option maxHeartbeats 4000000 in
set_option maxRecDepth 100000 in
theorem mX3_counted (l : Launch) (D : va_G) (ad : Nat → Nat) (ca : Nat → ClassId) (sd : Int64) (tc : Int32) (sc : Int32) (tr : Int32) (st : Int32) (pz : Int32) (T : Nat → Int64) (Wt : Nat → Int64) (O : Nat → Int32) (SA : Nat → Option Nat) (KA : Nat → Option Nat) (R : Nat → Int64) (Ln : Nat → Int32) (Ky : Nat → Int64) (Ch : Nat → Int64) (X : va_W) (b0 n0 i0 : Int32) : nkRI l yX3_counted wsX3_counted ({ frames := 0, cells := 0, slots := 0, locals := 0 }) D (tC ca) [.ref (ad 0), .int b0, .int n0, .int i0] (wC ad ca sd tc sc tr st pz T Wt O SA KA R Ln Ky Ch X) (fun r => r = fCounted b0 n0 i0) := by
  refine nk_ofR (cc := cX3_counted) (maxL := 4) (ret := (some .int)) (by decide) rfl (Nat.le_of_ble_eq_true rfl) ?_
  intro p e s m below meth c hx hb hr hml hts hown hlocks hK hP ls hl
  replace hown : s.vm.findClass RX3 = some m.cls := hown
  replace hl : lv_has ls 4 [(0, .ref (ad 0)), (1, .int b0), (2, .int n0), (3, .int i0)] := hl
  have hP : va_P D vwCl (wC ad ca sd tc sc tr st pz T Wt O SA KA R Ln Ky Ch X) s.heap := hP
  refine lv_iload_n hx hb dX3_counted_0 rfl (lv_at hl 1 rfl) ?_
  refine lv_iconst (v := 1) hx hb dX3_counted_1 (by decide) ?_
  refine lv_icmp_lt (tgt := 31) hx hb dX3_counted_2 (by decide) (fun c2 => ?_) (fun c2 => ?_)
  · skip
    refine lv_iconst (v := -1) hx hb dX3_counted_31 (by decide) ?_
    exact nk_endI hx hb hr hlocks dX3_counted_32 (by exact (if_pos c2).symm)
  · skip
    refine lv_iload_n hx hb dX3_counted_5 rfl (lv_at hl 1 rfl) ?_
    refine lv_bipush (v := 16) hx hb dX3_counted_6 (by decide) ?_
    refine lv_icmp_gt (tgt := 31) hx hb dX3_counted_8 (by decide) (fun c8 => ?_) (fun c8 => ?_)
    · skip
      refine lv_iconst (v := -1) hx hb dX3_counted_31 (by decide) ?_
      exact nk_endI hx hb hr hlocks dX3_counted_32 (by exact ((if_neg c2).trans (if_pos c8)).symm)
    · skip
      refine lv_iload_n hx hb dX3_counted_11 rfl (lv_at hl 2 rfl) ?_
      refine lv_iconst (v := 1) hx hb dX3_counted_12 (by decide) ?_
      refine lv_icmp_lt (tgt := 31) hx hb dX3_counted_13 (by decide) (fun c13 => ?_) (fun c13 => ?_)
      · skip
        refine lv_iconst (v := -1) hx hb dX3_counted_31 (by decide) ?_
        exact nk_endI hx hb hr hlocks dX3_counted_32 (by exact ((if_neg c2).trans ((if_neg c8).trans (if_pos c13))).symm)
      · skip
        refine lv_iload_n hx hb dX3_counted_16 rfl (lv_at hl 2 rfl) ?_
        refine lv_ldc (v := 65536) hx hb hown (hts (.constant RX3 127 (65536)) (by decide +kernel)) dX3_counted_17 ?_
        refine lv_icmp_gt (tgt := 31) hx hb dX3_counted_19 (by decide) (fun c19 => ?_) (fun c19 => ?_)
        · skip
          refine lv_iconst (v := -1) hx hb dX3_counted_31 (by decide) ?_
          exact nk_endI hx hb hr hlocks dX3_counted_32 (by exact ((if_neg c2).trans ((if_neg c8).trans ((if_neg c13).trans (if_pos c19)))).symm)
        · skip
          refine lv_iload_n hx hb dX3_counted_22 rfl (lv_at hl 3 rfl) ?_
          refine lv_if_lt (tgt := 31) hx hb dX3_counted_23 (by decide) (fun c23 => ?_) (fun c23 => ?_)
          · skip
            refine lv_iconst (v := -1) hx hb dX3_counted_31 (by decide) ?_
            exact nk_endI hx hb hr hlocks dX3_counted_32 (by exact ((if_neg c2).trans ((if_neg c8).trans ((if_neg c13).trans ((if_neg c19).trans (if_pos c23))))).symm)
          · skip
            refine lv_iload_n hx hb dX3_counted_26 rfl (lv_at hl 3 rfl) ?_
            refine lv_iload_n hx hb dX3_counted_27 rfl (lv_at hl 2 rfl) ?_
            refine lv_icmp_lt (tgt := 33) hx hb dX3_counted_28 (by decide) (fun c28 => ?_) (fun c28 => ?_)
            · skip
              refine lv_iconst (v := 1) hx hb dX3_counted_33 (by decide) ?_
              refine lv_iload_n hx hb dX3_counted_34 rfl (lv_at hl 1 rfl) ?_
              refine lv_ishl hx hb dX3_counted_35 ?_
              refine lv_iload_n hx hb dX3_counted_36 rfl (lv_at hl 2 rfl) ?_
              refine lv_idiv hx hb dX3_counted_37 (fun q => c13 (by rw [q]; decide)) ?_
              exact nk_endI hx hb hr hlocks dX3_counted_38 (by exact ((if_neg c2).trans ((if_neg c8).trans ((if_neg c13).trans ((if_neg c19).trans ((if_neg c23).trans (if_pos c28)))))).symm)
            · skip
              refine lv_iconst (v := -1) hx hb dX3_counted_31 (by decide) ?_
              exact nk_endI hx hb hr hlocks dX3_counted_32 (by exact ((if_neg c2).trans ((if_neg c8).trans ((if_neg c13).trans ((if_neg c19).trans ((if_neg c23).trans (if_neg c28)))))).symm)

set_option maxHeartbeats 4000000 in
set_option maxRecDepth 100000 in
theorem mX3_count (l : Launch) (D : va_G) (ad : Nat → Nat) (ca : Nat → ClassId) (sd : Int64) (tc : Int32) (sc : Int32) (tr : Int32) (st : Int32) (pz : Int32) (T : Nat → Int64) (Wt : Nat → Int64) (O : Nat → Int32) (SA : Nat → Option Nat) (KA : Nat → Option Nat) (R : Nat → Int64) (Ln : Nat → Int32) (Ky : Nat → Int64) (Ch : Nat → Int64) (X : va_W) (x0 : Int32) : nkRI l yX3_count wsX3_count ({ frames := 0, cells := 0, slots := 0, locals := 0 }) D (tC ca) [.ref (ad 0), .int x0] (wC ad ca sd tc sc tr st pz T Wt O SA KA R Ln Ky Ch X) (fun r => r = fCount pz sc tc x0) := by
  refine nk_ofR (cc := cX3_count) (maxL := 2) (ret := (some .int)) (by decide) rfl (Nat.le_of_ble_eq_true rfl) ?_
  intro p e s m below meth c hx hb hr hml hts hown hlocks hK hP ls hl
  replace hown : s.vm.findClass RX3 = some m.cls := hown
  replace hl : lv_has ls 2 [(0, .ref (ad 0)), (1, .int x0)] := hl
  have hP : va_P D vwCl (wC ad ca sd tc sc tr st pz T Wt O SA KA R Ln Ky Ch X) s.heap := hP
  have iX1 : ∀ w ∈ u_ws RX1 TX1 5, w ∈ wsX3_count := by decide +kernel
  have iX3 : ∀ w ∈ u_ws RX3 TX3 11, w ∈ wsX3_count := by decide +kernel
  refine lv_iload_n hx hb dX3_count_0 rfl (lv_at hl 1 rfl) ?_
  by_cases c1_0 : x0 = (0 : Int32)
  · skip
    refine lv_tableIn (tgt := 28) hx hb dX3_count_1 (by rw [c1_0]; decide) (by rw [c1_0]; decide) (by rw [c1_0]; rfl) (by decide) ?_
    refine lv_aload_n hx hb dX3_count_28 rfl (lv_at hl 0 rfl) ?_
    refine va_get (D := D) (ci := 3) (v := .ref (ad 2)) (C := RX3) (T := TX3) (N := 11) hx hb hts iX3 hown hK.1 hP 0 rfl rfl 3 (by decide) (hts (.fieldLink RX3 20 "NamedStreams" "paths" "LNamedStreams$Paths;") (by decide +kernel)) (fun _ h9 => h9) rfl dX3_count_29 ?_
    refine va_get (D := D) (ci := 1) (v := .int pz) (C := RX1) (T := TX1) (N := 5) hx hb hts iX1 hown hK.1 hP 2 rfl rfl 4 (by decide) (hts (.fieldLink RX3 128 "NamedStreams$Paths" "size" "I") (by decide +kernel)) (fun _ h9 => h9) rfl dX3_count_32 ?_
    exact nk_endI hx hb hr hlocks dX3_count_35 (by exact (if_pos c1_0).symm)
  · skip
    by_cases c1_1 : x0 = (1 : Int32)
    · skip
      refine lv_tableIn (tgt := 36) hx hb dX3_count_1 (by rw [c1_1]; decide) (by rw [c1_1]; decide) (by rw [c1_1]; rfl) (by decide) ?_
      refine lv_aload_n hx hb dX3_count_36 rfl (lv_at hl 0 rfl) ?_
      refine va_get (D := D) (ci := 3) (v := .int sc) (C := RX3) (T := TX3) (N := 11) hx hb hts iX3 hown hK.1 hP 0 rfl rfl 7 (by decide) (hts (.fieldLink RX3 37 "NamedStreams" "streamCount" "I") (by decide +kernel)) (fun _ h9 => h9) rfl dX3_count_37 ?_
      exact nk_endI hx hb hr hlocks dX3_count_40 (by exact ((if_neg c1_0).trans (if_pos c1_1)).symm)
    · skip
      by_cases c1_2 : x0 = (2 : Int32)
      · skip
        refine lv_tableIn (tgt := 41) hx hb dX3_count_1 (by rw [c1_2]; decide) (by rw [c1_2]; decide) (by rw [c1_2]; rfl) (by decide) ?_
        refine lv_aload_n hx hb dX3_count_41 rfl (lv_at hl 0 rfl) ?_
        refine va_get (D := D) (ci := 3) (v := .int tc) (C := RX3) (T := TX3) (N := 11) hx hb hts iX3 hown hK.1 hP 0 rfl rfl 2 (by decide) (hts (.fieldLink RX3 13 "NamedStreams" "toldCount" "I") (by decide +kernel)) (fun _ h9 => h9) rfl dX3_count_42 ?_
        exact nk_endI hx hb hr hlocks dX3_count_45 (by exact ((if_neg c1_0).trans ((if_neg c1_1).trans (if_pos c1_2))).symm)
      · skip
        refine lv_tableOut (tgt := 46) hx hb dX3_count_1 (ns_out (by decide) (by decide) (ns_out3 c1_0 c1_1 c1_2)) (by decide) ?_
        refine lv_iconst (v := -1) hx hb dX3_count_46 (by decide) ?_
        exact nk_endI hx hb hr hlocks dX3_count_47 (by exact ((if_neg c1_0).trans ((if_neg c1_1).trans (if_neg c1_2))).symm)
