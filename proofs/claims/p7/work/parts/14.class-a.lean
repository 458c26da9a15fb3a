/-! what the class's methods compute -/
def fHas (pz p : Int32) : Int32 := if p < 0 then 0 else if pz ≤ p then 0 else 1
theorem ns_has {pz p : Int32} (h : ¬ fHas pz p = 0) : 0 ≤ p ∧ p < pz := by
  unfold fHas at h
  by_cases h1 : p < 0
  · rw [if_pos h1] at h; exact absurd rfl h
  · rw [if_neg h1] at h
    by_cases h2 : pz ≤ p
    · rw [if_pos h2] at h; exact absurd rfl h
    · exact ⟨Int32.not_lt.mp h1, Int32.not_le.mp h2⟩
theorem ns_hasIn {pz p : Int32} (h : ¬ fHas pz p = 0) (hz : pz ≤ 24) : vp_in p 24 := ns_in (ns_has h).1 (Int32.lt_of_lt_of_le (ns_has h).2 hz) (by decide)
def fBase (sd run key : Int64) : Int64 := fMix ((sd + (-7046029254386353131) * (run + 1)) ^^^ key)
/-- the words of a place from the (32 - k)th on, the tries so far -/
def fDraw (b f n x : Int64) : Nat → Int32 → Int64 × Int32
  | 0, tr => (-3, tr)
  | k + 1, _ => if x = 0 then (fRem (fWord b (f + (nI (32 - (k + 1))).toInt64)) n, nI (32 - (k + 1)) + 1) else if fBelow (fWord b (f + (nI (32 - (k + 1))).toInt64)) (-x) = 0 then fDraw b f n x k (nI (32 - (k + 1)) + 1) else (fRem (fWord b (f + (nI (32 - (k + 1))).toInt64)) n, nI (32 - (k + 1)) + 1)
def fSpan (b f n : Int64) (tr : Int32) : Int64 × Int32 := fDraw b f n (fRem (-n) n) 32 tr
def fPart (tc : Int32) (T : Nat → Int64) (v : Int64) : Int32 × Int32 × (Nat → Int64) := if tc < 4 then (tc + 1, tc + 1, vp_updL T tc.toNatClampNeg v) else (-2, tc, T)
def fKey (pz : Int32) (Ky : Nat → Int64) (p : Int32) : Int64 × Int32 := if fHas pz p = 0 then (0, -1) else (Ky p.toNatClampNeg, 0)
def fWd (sd : Int64) (pz : Int32) (Ky : Nat → Int64) (run : Int64) (p : Int32) (k : Int64) : Int64 × Int32 := if fHas pz p = 0 then (0, -1) else (fWord (fBase sd run (Ky p.toNatClampNeg)) k, 0)
theorem ns_nI_lt {k n : Nat} {m : Int32} (hm : m = nI n) (h : k < n) (hn : n < 2 ^ 31) : nI k < m := by rw [hm]; exact nI_lt h hn
theorem ns_step {k n : Nat} {i j : Int32} (hi : i = nI (n - (k + 1))) (h : k + 1 ≤ n) (e : j = i + 1) : j = nI (n - k) := by
  rw [e, hi, nI_1]; congr 1; omega
set_option maxHeartbeats 4000000 in
set_option maxRecDepth 100000 in
theorem mX1_has (l : Launch) (D : va_G) (ad : Nat → Nat) (ca : Nat → ClassId) (sd : Int64) (tc : Int32) (sc : Int32) (tr : Int32) (st : Int32) (pz : Int32) (T : Nat → Int64) (Wt : Nat → Int64) (O : Nat → Int32) (SA : Nat → Option Nat) (KA : Nat → Option Nat) (R : Nat → Int64) (Ln : Nat → Int32) (Ky : Nat → Int64) (Ch : Nat → Int64) (X : va_W) (p0 : Int32) : nkRI l yX1_has wsX1_has ({ frames := 0, cells := 0, slots := 0, locals := 0 }) D (tC ca) [.ref (ad 2), .int p0] (wC ad ca sd tc sc tr st pz T Wt O SA KA R Ln Ky Ch X) (fun r => r = fHas pz p0) := by
  refine nk_ofR (cc := cX1_has) (maxL := 2) (ret := (some .boolean)) (by decide) rfl (Nat.le_of_ble_eq_true rfl) ?_
  intro p e s m below meth c hx hb hr hml hts hown hlocks hK hP ls hl
  replace hown : s.vm.findClass RX1 = some m.cls := hown
  replace hl : lv_has ls 2 [(0, .ref (ad 2)), (1, .int p0)] := hl
  have hP : va_P D vwCl (wC ad ca sd tc sc tr st pz T Wt O SA KA R Ln Ky Ch X) s.heap := hP
  have iX1 : ∀ w ∈ u_ws RX1 TX1 5, w ∈ wsX1_has := by decide +kernel
  refine lv_iload_n hx hb dX1_has_0 rfl (lv_at hl 1 rfl) ?_
  refine lv_if_lt (tgt := 16) hx hb dX1_has_1 (by decide) (fun c1 => ?_) (fun c1 => ?_)
  · skip
    refine lv_iconst (v := 0) hx hb dX1_has_16 (by decide) ?_
    exact nk_endZ hx hb hr hlocks (by first | rfl | decide) dX1_has_17 (by simp only [fHas]; first | rw [if_pos c1] | rw [if_neg c1, if_pos c9] | rw [if_neg c1, if_neg c9])
  · skip
    refine lv_iload_n hx hb dX1_has_4 rfl (lv_at hl 1 rfl) ?_
    refine lv_aload_n hx hb dX1_has_5 rfl (lv_at hl 0 rfl) ?_
    refine va_get (D := D) (ci := 1) (v := .int pz) (C := RX1) (T := TX1) (N := 5) hx hb hts iX1 hown hK.1 hP 2 rfl rfl 4 (by decide) (hts (.fieldLink RX1 25 "NamedStreams$Paths" "size" "I") (by decide +kernel)) (fun _ h9 => h9) rfl dX1_has_6 ?_
    refine lv_icmp_ge (tgt := 16) hx hb dX1_has_9 (by decide) (fun c9 => ?_) (fun c9 => ?_)
    · skip
      refine lv_iconst (v := 0) hx hb dX1_has_16 (by decide) ?_
      exact nk_endZ hx hb hr hlocks (by first | rfl | decide) dX1_has_17 (by simp only [fHas]; first | rw [if_pos c1] | rw [if_neg c1, if_pos c9] | rw [if_neg c1, if_neg c9])
    · skip
      refine lv_iconst (v := 1) hx hb dX1_has_12 (by decide) ?_
      refine lv_goto (tgt := 17) hx hb dX1_has_13 (by decide) ?_
      exact nk_endZ hx hb hr hlocks (by first | rfl | decide) dX1_has_17 (by simp only [fHas]; first | rw [if_pos c1] | rw [if_neg c1, if_pos c9] | rw [if_neg c1, if_neg c9])

set_option maxHeartbeats 4000000 in
set_option maxRecDepth 100000 in
theorem mX3_baseOf (l : Launch) (D : va_G) (ad : Nat → Nat) (ca : Nat → ClassId) (sd : Int64) (tc : Int32) (sc : Int32) (tr : Int32) (st : Int32) (pz : Int32) (T : Nat → Int64) (Wt : Nat → Int64) (O : Nat → Int32) (SA : Nat → Option Nat) (KA : Nat → Option Nat) (R : Nat → Int64) (Ln : Nat → Int32) (Ky : Nat → Int64) (Ch : Nat → Int64) (X : va_W) (run0 : Int64) (p0 : Int32) (hp0 : vp_in p0 24) : nkRL l yX3_baseOf wsX3_baseOf ({ frames := 1, cells := 0, slots := 0, locals := 23 }) D (tC ca) [.ref (ad 0), .long run0, .int p0] (wC ad ca sd tc sc tr st pz T Wt O SA KA R Ln Ky Ch X) (fun r => r = fBase sd run0 (Ky p0.toNatClampNeg)) := by
  refine nk_ofR (cc := cX3_baseOf) (maxL := 4) (ret := (some .long)) (by decide) rfl (Nat.le_of_ble_eq_true rfl) ?_
  intro p e s m below meth c hx hb hr hml hts hown hlocks hK hP ls hl
  replace hown : s.vm.findClass RX3 = some m.cls := hown
  replace hl : lv_has ls 4 [(0, .ref (ad 0)), (1, .long run0), (3, .int p0)] := hl
  have hP : va_P D vwCl (wC ad ca sd tc sc tr st pz T Wt O SA KA R Ln Ky Ch X) s.heap := hP
  have iX1 : ∀ w ∈ u_ws RX1 TX1 5, w ∈ wsX3_baseOf := by decide +kernel
  have iX3 : ∀ w ∈ u_ws RX3 TX3 11, w ∈ wsX3_baseOf := by decide +kernel
  refine lv_aload_n hx hb dX3_baseOf_0 rfl (lv_at hl 0 rfl) ?_
  refine va_get (D := D) (ci := 3) (v := .long sd) (C := RX3) (T := TX3) (N := 11) hx hb hts iX3 hown hK.1 hP 0 rfl rfl 0 (by decide) (hts (.fieldLink RX3 52 "NamedStreams" "seed" "J") (by decide +kernel)) (fun _ h9 => h9) rfl dX3_baseOf_1 ?_
  refine lv_ldc2 (v := -7046029254386353131) hx hb hown (hts (.constantLong RX3 135 (-7046029254386353131)) (by decide +kernel)) dX3_baseOf_4 ?_
  refine lv_lload_n hx hb dX3_baseOf_7 rfl (lv_at hl 1 rfl) ?_
  refine lv_lconst (v := 1) hx hb dX3_baseOf_8 (by decide) ?_
  refine lv_ladd hx hb dX3_baseOf_9 ?_
  refine lv_lmul hx hb dX3_baseOf_10 ?_
  refine lv_ladd hx hb dX3_baseOf_11 ?_
  refine lv_aload_n hx hb dX3_baseOf_12 rfl (lv_at hl 0 rfl) ?_
  refine va_get (D := D) (ci := 3) (v := .ref (ad 2)) (C := RX3) (T := TX3) (N := 11) hx hb hts iX3 hown hK.1 hP 0 rfl rfl 3 (by decide) (hts (.fieldLink RX3 20 "NamedStreams" "paths" "LNamedStreams$Paths;") (by decide +kernel)) (fun _ h9 => h9) rfl dX3_baseOf_13 ?_
  refine va_get (D := D) (ci := 1) (v := .ref (ad 9)) (C := RX1) (T := TX1) (N := 5) hx hb hts iX1 hown hK.1 hP 2 rfl rfl 2 (by decide) (hts (.fieldLink RX3 64 "NamedStreams$Paths" "keys" "[J") (by decide +kernel)) (fun _ h9 => h9) rfl dX3_baseOf_16 ?_
  refine lv_iload_n hx hb dX3_baseOf_19 rfl (lv_at hl 2 rfl) ?_
  refine va_lald hx hb hK.1 hP 9 7 rfl rfl hp0 dX3_baseOf_20 ?_
  refine lv_lxor hx hb dX3_baseOf_21 ?_
  refine nk_SSL (As := [.long ((sd + ((-7046029254386353131 : Int64) * (run0 + (1 : Int64)))) ^^^ (Ky (Int32.toNatClampNeg p0)))]) (rest := []) ⟨hx, hb, hml, hown, hts⟩ (mX3_mix l ((sd + ((-7046029254386353131 : Int64) * (run0 + (1 : Int64)))) ^^^ (Ky (Int32.toNatClampNeg p0)))) (va_cwS 1 hts gX3_baseOf_X3_mix rfl rfl rfl (by decide +kernel) ⟨Nat.le_of_ble_eq_true rfl, Nat.le_of_ble_eq_true rfl⟩) rfl hl.1 rfl (Nat.le_of_ble_eq_true rfl) dX3_baseOf_22 ⟨Nat.zero_le _, Nat.zero_le _⟩ (fun r1 hr1 => ?_)
  subst hr1
  exact nk_endL hx hb hr hlocks dX3_baseOf_25 (by rfl)

set_option maxHeartbeats 4000000 in
set_option maxRecDepth 100000 in
theorem mX3_tries (l : Launch) (D : va_G) (ad : Nat → Nat) (ca : Nat → ClassId) (sd : Int64) (tc : Int32) (sc : Int32) (tr : Int32) (st : Int32) (pz : Int32) (T : Nat → Int64) (Wt : Nat → Int64) (O : Nat → Int32) (SA : Nat → Option Nat) (KA : Nat → Option Nat) (R : Nat → Int64) (Ln : Nat → Int32) (Ky : Nat → Int64) (Ch : Nat → Int64) (X : va_W) : nkRI l yX3_tries wsX3_tries ({ frames := 0, cells := 0, slots := 0, locals := 0 }) D (tC ca) [.ref (ad 0)] (wC ad ca sd tc sc tr st pz T Wt O SA KA R Ln Ky Ch X) (fun r => r = tr) := by
  refine nk_ofR (cc := cX3_tries) (maxL := 1) (ret := (some .int)) (by decide) rfl (Nat.le_of_ble_eq_true rfl) ?_
  intro p e s m below meth c hx hb hr hml hts hown hlocks hK hP ls hl
  replace hown : s.vm.findClass RX3 = some m.cls := hown
  replace hl : lv_has ls 1 [(0, .ref (ad 0))] := hl
  have hP : va_P D vwCl (wC ad ca sd tc sc tr st pz T Wt O SA KA R Ln Ky Ch X) s.heap := hP
  have iX3 : ∀ w ∈ u_ws RX3 TX3 11, w ∈ wsX3_tries := by decide +kernel
  refine lv_aload_n hx hb dX3_tries_0 rfl (lv_at hl 0 rfl) ?_
  refine va_get (D := D) (ci := 3) (v := .int tr) (C := RX3) (T := TX3) (N := 11) hx hb hts iX3 hown hK.1 hP 0 rfl rfl 9 (by decide) (hts (.fieldLink RX3 46 "NamedStreams" "latestTries" "I") (by decide +kernel)) (fun _ h9 => h9) rfl dX3_tries_1 ?_
  exact nk_endI hx hb hr hlocks dX3_tries_4 (by rfl)

set_option maxHeartbeats 4000000 in
set_option maxRecDepth 100000 in
theorem mX3_status (l : Launch) (D : va_G) (ad : Nat → Nat) (ca : Nat → ClassId) (sd : Int64) (tc : Int32) (sc : Int32) (tr : Int32) (st : Int32) (pz : Int32) (T : Nat → Int64) (Wt : Nat → Int64) (O : Nat → Int32) (SA : Nat → Option Nat) (KA : Nat → Option Nat) (R : Nat → Int64) (Ln : Nat → Int32) (Ky : Nat → Int64) (Ch : Nat → Int64) (X : va_W) : nkRI l yX3_status wsX3_status ({ frames := 0, cells := 0, slots := 0, locals := 0 }) D (tC ca) [.ref (ad 0)] (wC ad ca sd tc sc tr st pz T Wt O SA KA R Ln Ky Ch X) (fun r => r = st) := by
  refine nk_ofR (cc := cX3_status) (maxL := 1) (ret := (some .int)) (by decide) rfl (Nat.le_of_ble_eq_true rfl) ?_
  intro p e s m below meth c hx hb hr hml hts hown hlocks hK hP ls hl
  replace hown : s.vm.findClass RX3 = some m.cls := hown
  replace hl : lv_has ls 1 [(0, .ref (ad 0))] := hl
  have hP : va_P D vwCl (wC ad ca sd tc sc tr st pz T Wt O SA KA R Ln Ky Ch X) s.heap := hP
  have iX3 : ∀ w ∈ u_ws RX3 TX3 11, w ∈ wsX3_status := by decide +kernel
  refine lv_aload_n hx hb dX3_status_0 rfl (lv_at hl 0 rfl) ?_
  refine va_get (D := D) (ci := 3) (v := .int st) (C := RX3) (T := TX3) (N := 11) hx hb hts iX3 hown hK.1 hP 0 rfl rfl 10 (by decide) (hts (.fieldLink RX3 49 "NamedStreams" "latestStatus" "I") (by decide +kernel)) (fun _ h9 => h9) rfl dX3_status_1 ?_
  exact nk_endI hx hb hr hlocks dX3_status_4 (by rfl)

set_option maxHeartbeats 4000000 in
set_option maxRecDepth 100000 in
theorem mX3_part (l : Launch) (D : va_G) (ad : Nat → Nat) (ca : Nat → ClassId) (sd : Int64) (tc : Int32) (sc : Int32) (tr : Int32) (st : Int32) (pz : Int32) (T : Nat → Int64) (Wt : Nat → Int64) (O : Nat → Int32) (SA : Nat → Option Nat) (KA : Nat → Option Nat) (R : Nat → Int64) (Ln : Nat → Int32) (Ky : Nat → Int64) (Ch : Nat → Int64) (X : va_W) (v0 : Int64) (h0 : 0 ≤ tc) : nkMI l yX3_part wsX3_part ({ frames := 0, cells := 0, slots := 0, locals := 0 }) D (tC ca) [.ref (ad 0), .long v0] (wC ad ca sd tc sc tr st pz T Wt O SA KA R Ln Ky Ch X) (fun u : Int32 × (Nat → Int64) => wC ad ca sd u.1 sc tr st pz u.2 Wt O SA KA R Ln Ky Ch X) (fun r u => fPart tc T v0 = (r, u)) 0 0 := by
  refine nk_ofM (Qf := fun A => va_Qi (fun r u => fPart tc T v0 = (r, u)) (nkB D A (fun u : Int32 × (Nat → Int64) => wC ad ca sd u.1 sc tr st pz u.2 Wt O SA KA R Ln Ky Ch X)) A) (cc := cX3_part) (maxL := 3) (ret := (some .int)) (by decide) rfl (Nat.le_of_ble_eq_true rfl) ?_
  intro p e s m below meth c A hx hb hr hml hts hown hlocks hin hK hP hD hA hS ls hl
  replace hown : s.vm.findClass RX3 = some m.cls := hown
  replace hl : lv_has ls 3 [(0, .ref (ad 0)), (1, .long v0)] := hl
  have hP : va_P D vwCl (wC ad ca sd tc sc tr st pz T Wt O SA KA R Ln Ky Ch X) s.heap := hP
  have iX3 : ∀ w ∈ u_ws RX3 TX3 11, w ∈ wsX3_part := by decide +kernel
  refine lv_aload_n hx hb dX3_part_0 rfl (lv_at hl 0 rfl) ?_
  refine va_get (D := D) (ci := 3) (v := .int tc) (C := RX3) (T := TX3) (N := 11) hx hb hts iX3 hown hK.1 hP 0 rfl rfl 2 (by decide) (hts (.fieldLink RX3 13 "NamedStreams" "toldCount" "I") (by decide +kernel)) (fun _ h9 => h9) rfl dX3_part_1 ?_
  refine lv_iconst (v := 4) hx hb dX3_part_4 (by decide) ?_
  refine lv_icmp_lt (tgt := 11) hx hb dX3_part_5 (by decide) (fun c5 => ?_) (fun c5 => ?_)
  · skip
    refine lv_aload_n hx hb dX3_part_11 rfl (lv_at hl 0 rfl) ?_
    refine va_get (D := D) (ci := 3) (v := .ref (ad 1)) (C := RX3) (T := TX3) (N := 11) hx hb hts iX3 hown hK.1 hP 0 rfl rfl 1 (by decide) (hts (.fieldLink RX3 9 "NamedStreams" "toldParts" "[J") (by decide +kernel)) (fun _ h9 => h9) rfl dX3_part_12 ?_
    refine lv_aload_n hx hb dX3_part_15 rfl (lv_at hl 0 rfl) ?_
    refine va_get (D := D) (ci := 3) (v := .int tc) (C := RX3) (T := TX3) (N := 11) hx hb hts iX3 hown hK.1 hP 0 rfl rfl 2 (by decide) (hts (.fieldLink RX3 13 "NamedStreams" "toldCount" "I") (by decide +kernel)) (fun _ h9 => h9) rfl dX3_part_16 ?_
    refine lv_lload_n hx hb dX3_part_19 rfl (lv_at hl 1 rfl) ?_
    refine va_last hx hb hK.1 hP hD hS 1 0 rfl rfl (ns_in h0 c5 (by decide)) dX3_part_20 (fun H locs hP hD hS => ?_)
    have hP : va_P D vwCl (wC ad ca sd tc sc tr st pz (vp_updL T (Int32.toNatClampNeg tc) v0) Wt O SA KA R Ln Ky Ch X) H := hP
    have hD : va_D A (wC ad ca sd tc sc tr st pz (vp_updL T (Int32.toNatClampNeg tc) v0) Wt O SA KA R Ln Ky Ch X) := hD
    refine lv_aload_n hx hb dX3_part_21 rfl (lv_at hl 0 rfl) ?_
    refine lv_dup hx hb dX3_part_22 rfl ?_
    refine va_get (D := D) (ci := 3) (v := .int tc) (C := RX3) (T := TX3) (N := 11) hx hb hts iX3 hown hK.1 hP 0 rfl rfl 2 (by decide) (hts (.fieldLink RX3 13 "NamedStreams" "toldCount" "I") (by decide +kernel)) (fun _ h9 => h9) rfl dX3_part_23 ?_
    refine lv_iconst (v := 1) hx hb dX3_part_26 (by decide) ?_
    refine lv_iadd hx hb dX3_part_27 ?_
    refine lv_topi (fun z1 ez1 => ?_)
    refine va_put (D := D) (ci := 3) (v := .int z1) (ty := .int) (C := RX3) (T := TX3) (N := 11) hx hb hts iX3 tyX3 tyX3_ok nmX3 hown hK.1 hP hD hS 0 rfl rfl 2 (by decide) (hts (.fieldLink RX3 13 "NamedStreams" "toldCount" "I") (by decide +kernel)) (fun _ h9 => h9) rfl (by decide +kernel) rfl rfl (Nat.le_of_ble_eq_true rfl) dX3_part_28 (fun H locs hP hD hS => ?_)
    have hP : va_P D vwCl (wC ad ca sd z1 sc tr st pz (vp_updL T (Int32.toNatClampNeg tc) v0) Wt O SA KA R Ln Ky Ch X) H := hP
    have hD : va_D A (wC ad ca sd z1 sc tr st pz (vp_updL T (Int32.toNatClampNeg tc) v0) Wt O SA KA R Ln Ky Ch X) := hD
    refine lv_aload_n hx hb dX3_part_31 rfl (lv_at hl 0 rfl) ?_
    refine va_get (D := D) (ci := 3) (v := .int z1) (C := RX3) (T := TX3) (N := 11) hx hb hts iX3 hown hK.1 hP 0 rfl rfl 2 (by decide) (hts (.fieldLink RX3 13 "NamedStreams" "toldCount" "I") (by decide +kernel)) (fun _ h9 => h9) rfl dX3_part_32 ?_
    exact nk_retI (g := _) (z1, (vp_updL T (Int32.toNatClampNeg tc) v0)) hx hb hr hlocks hP hD hS dX3_part_35 (by subst ez1; simp only [fPart]; first | rw [if_pos c5] | rw [if_neg c5])
  · skip
    refine lv_bipush (v := -2) hx hb dX3_part_8 (by decide) ?_
    exact nk_retI (g := _) (tc, T) hx hb hr hlocks hP hD hS dX3_part_10 (by simp only [fPart]; first | rw [if_pos c5] | rw [if_neg c5])

set_option maxHeartbeats 4000000 in
set_option maxRecDepth 100000 in
theorem mX3_key (l : Launch) (D : va_G) (ad : Nat → Nat) (ca : Nat → ClassId) (sd : Int64) (tc : Int32) (sc : Int32) (tr : Int32) (st : Int32) (pz : Int32) (T : Nat → Int64) (Wt : Nat → Int64) (O : Nat → Int32) (SA : Nat → Option Nat) (KA : Nat → Option Nat) (R : Nat → Int64) (Ln : Nat → Int32) (Ky : Nat → Int64) (Ch : Nat → Int64) (X : va_W) (p0 : Int32) (hz : pz ≤ 24) : nkML l yX3_key wsX3_key ({ frames := 1, cells := 0, slots := 0, locals := 21 }) D (tC ca) [.ref (ad 0), .int p0] (wC ad ca sd tc sc tr st pz T Wt O SA KA R Ln Ky Ch X) (fun u : Int32 => wC ad ca sd tc sc tr u pz T Wt O SA KA R Ln Ky Ch X) (fun r u => fKey pz Ky p0 = (r, u)) 0 0 := by
  refine nk_ofM (Qf := fun A => va_Ql (fun r u => fKey pz Ky p0 = (r, u)) (nkB D A (fun u : Int32 => wC ad ca sd tc sc tr u pz T Wt O SA KA R Ln Ky Ch X)) A) (cc := cX3_key) (maxL := 2) (ret := (some .long)) (by decide) rfl (Nat.le_of_ble_eq_true rfl) ?_
  intro p e s m below meth c A hx hb hr hml hts hown hlocks hin hK hP hD hA hS ls hl
  replace hown : s.vm.findClass RX3 = some m.cls := hown
  replace hl : lv_has ls 2 [(0, .ref (ad 0)), (1, .int p0)] := hl
  have hP : va_P D vwCl (wC ad ca sd tc sc tr st pz T Wt O SA KA R Ln Ky Ch X) s.heap := hP
  have iX1 : ∀ w ∈ u_ws RX1 TX1 5, w ∈ wsX3_key := by decide +kernel
  have iX3 : ∀ w ∈ u_ws RX3 TX3 11, w ∈ wsX3_key := by decide +kernel
  refine lv_aload_n hx hb dX3_key_0 rfl (lv_at hl 0 rfl) ?_
  refine va_get (D := D) (ci := 3) (v := .ref (ad 2)) (C := RX3) (T := TX3) (N := 11) hx hb hts iX3 hown hK.1 hP 0 rfl rfl 3 (by decide) (hts (.fieldLink RX3 20 "NamedStreams" "paths" "LNamedStreams$Paths;") (by decide +kernel)) (fun _ h9 => h9) rfl dX3_key_1 ?_
  refine lv_iload_n hx hb dX3_key_4 rfl (lv_at hl 1 rfl) ?_
  refine nk_VRI (As := [.int p0]) (rest := []) ⟨hx, hb, hml, hown, hts⟩ (mX1_has l D ad ca sd tc sc tr st pz T Wt O SA KA R Ln Ky Ch X p0) (cwV 1 hts gX3_key_X1_has rfl rfl rfl (by decide +kernel) ⟨Nat.le_of_ble_eq_true rfl, Nat.le_of_ble_eq_true rfl⟩) hK hP 2 1 rfl rfl rfl rfl hl.1 rfl (Nat.le_of_ble_eq_true rfl) dX3_key_5 ⟨Nat.zero_le _, Nat.zero_le _⟩ (fun r1 hr1 => ?_)
  subst hr1
  refine lv_if_ne (tgt := 18) hx hb dX3_key_8 (by decide) (fun c8 => ?_) (fun c8 => ?_)
  · skip
    refine lv_aload_n hx hb dX3_key_18 rfl (lv_at hl 0 rfl) ?_
    refine lv_iconst (v := 0) hx hb dX3_key_19 (by decide) ?_
    refine va_put (D := D) (ci := 3) (v := .int (0 : Int32)) (ty := .int) (C := RX3) (T := TX3) (N := 11) hx hb hts iX3 tyX3 tyX3_ok nmX3 hown hK.1 hP hD hS 0 rfl rfl 10 (by decide) (hts (.fieldLink RX3 49 "NamedStreams" "latestStatus" "I") (by decide +kernel)) (fun _ h9 => h9) rfl (by decide +kernel) rfl rfl (Nat.le_of_ble_eq_true rfl) dX3_key_20 (fun H locs hP hD hS => ?_)
    have hP : va_P D vwCl (wC ad ca sd tc sc tr (0 : Int32) pz T Wt O SA KA R Ln Ky Ch X) H := hP
    have hD : va_D A (wC ad ca sd tc sc tr (0 : Int32) pz T Wt O SA KA R Ln Ky Ch X) := hD
    refine lv_aload_n hx hb dX3_key_23 rfl (lv_at hl 0 rfl) ?_
    refine va_get (D := D) (ci := 3) (v := .ref (ad 2)) (C := RX3) (T := TX3) (N := 11) hx hb hts iX3 hown hK.1 hP 0 rfl rfl 3 (by decide) (hts (.fieldLink RX3 20 "NamedStreams" "paths" "LNamedStreams$Paths;") (by decide +kernel)) (fun _ h9 => h9) rfl dX3_key_24 ?_
    refine va_get (D := D) (ci := 1) (v := .ref (ad 9)) (C := RX1) (T := TX1) (N := 5) hx hb hts iX1 hown hK.1 hP 2 rfl rfl 2 (by decide) (hts (.fieldLink RX3 64 "NamedStreams$Paths" "keys" "[J") (by decide +kernel)) (fun _ h9 => h9) rfl dX3_key_27 ?_
    refine lv_iload_n hx hb dX3_key_30 rfl (lv_at hl 1 rfl) ?_
    refine va_lald hx hb hK.1 hP 9 7 rfl rfl (ns_hasIn c8 hz) dX3_key_31 ?_
    exact nk_retL (g := _) (0 : Int32) hx hb hr hlocks hP hD hS dX3_key_32 (by simp only [fKey]; first | rw [if_pos c8] | rw [if_neg c8])
  · skip
    refine lv_aload_n hx hb dX3_key_11 rfl (lv_at hl 0 rfl) ?_
    refine lv_iconst (v := -1) hx hb dX3_key_12 (by decide) ?_
    refine va_put (D := D) (ci := 3) (v := .int (-1 : Int32)) (ty := .int) (C := RX3) (T := TX3) (N := 11) hx hb hts iX3 tyX3 tyX3_ok nmX3 hown hK.1 hP hD hS 0 rfl rfl 10 (by decide) (hts (.fieldLink RX3 49 "NamedStreams" "latestStatus" "I") (by decide +kernel)) (fun _ h9 => h9) rfl (by decide +kernel) rfl rfl (Nat.le_of_ble_eq_true rfl) dX3_key_13 (fun H locs hP hD hS => ?_)
    have hP : va_P D vwCl (wC ad ca sd tc sc tr (-1 : Int32) pz T Wt O SA KA R Ln Ky Ch X) H := hP
    have hD : va_D A (wC ad ca sd tc sc tr (-1 : Int32) pz T Wt O SA KA R Ln Ky Ch X) := hD
    refine lv_lconst (v := 0) hx hb dX3_key_16 (by decide) ?_
    exact nk_retL (g := _) (-1 : Int32) hx hb hr hlocks hP hD hS dX3_key_17 (by simp only [fKey]; first | rw [if_pos c8] | rw [if_neg c8])

set_option maxHeartbeats 4000000 in
set_option maxRecDepth 100000 in
theorem mX3_word (l : Launch) (D : va_G) (ad : Nat → Nat) (ca : Nat → ClassId) (sd : Int64) (tc : Int32) (sc : Int32) (tr : Int32) (st : Int32) (pz : Int32) (T : Nat → Int64) (Wt : Nat → Int64) (O : Nat → Int32) (SA : Nat → Option Nat) (KA : Nat → Option Nat) (R : Nat → Int64) (Ln : Nat → Int32) (Ky : Nat → Int64) (Ch : Nat → Int64) (X : va_W) (run0 : Int64) (p0 : Int32) (k0 : Int64) (hz : pz ≤ 24) : nkML l yX3_word wsX3_word ({ frames := 2, cells := 0, slots := 0, locals := 46 }) D (tC ca) [.ref (ad 0), .long run0, .int p0, .long k0] (wC ad ca sd tc sc tr st pz T Wt O SA KA R Ln Ky Ch X) (fun u : Int32 => wC ad ca sd tc sc tr u pz T Wt O SA KA R Ln Ky Ch X) (fun r u => fWd sd pz Ky run0 p0 k0 = (r, u)) 0 0 := by
  refine nk_ofM (Qf := fun A => va_Ql (fun r u => fWd sd pz Ky run0 p0 k0 = (r, u)) (nkB D A (fun u : Int32 => wC ad ca sd tc sc tr u pz T Wt O SA KA R Ln Ky Ch X)) A) (cc := cX3_word) (maxL := 6) (ret := (some .long)) (by decide) rfl (Nat.le_of_ble_eq_true rfl) ?_
  intro p e s m below meth c A hx hb hr hml hts hown hlocks hin hK hP hD hA hS ls hl
  replace hown : s.vm.findClass RX3 = some m.cls := hown
  replace hl : lv_has ls 6 [(0, .ref (ad 0)), (1, .long run0), (3, .int p0), (4, .long k0)] := hl
  have hP : va_P D vwCl (wC ad ca sd tc sc tr st pz T Wt O SA KA R Ln Ky Ch X) s.heap := hP
  have iX1 : ∀ w ∈ u_ws RX1 TX1 5, w ∈ wsX3_word := by decide +kernel
  have iX3 : ∀ w ∈ u_ws RX3 TX3 11, w ∈ wsX3_word := by decide +kernel
  refine lv_aload_n hx hb dX3_word_0 rfl (lv_at hl 0 rfl) ?_
  refine va_get (D := D) (ci := 3) (v := .ref (ad 2)) (C := RX3) (T := TX3) (N := 11) hx hb hts iX3 hown hK.1 hP 0 rfl rfl 3 (by decide) (hts (.fieldLink RX3 20 "NamedStreams" "paths" "LNamedStreams$Paths;") (by decide +kernel)) (fun _ h9 => h9) rfl dX3_word_1 ?_
  refine lv_iload_n hx hb dX3_word_4 rfl (lv_at hl 2 rfl) ?_
  refine nk_VRI (As := [.int p0]) (rest := []) ⟨hx, hb, hml, hown, hts⟩ (mX1_has l D ad ca sd tc sc tr st pz T Wt O SA KA R Ln Ky Ch X p0) (cwV 1 hts gX3_word_X1_has rfl rfl rfl (by decide +kernel) ⟨Nat.le_of_ble_eq_true rfl, Nat.le_of_ble_eq_true rfl⟩) hK hP 2 1 rfl rfl rfl rfl hl.1 rfl (Nat.le_of_ble_eq_true rfl) dX3_word_5 ⟨Nat.zero_le _, Nat.zero_le _⟩ (fun r1 hr1 => ?_)
  subst hr1
  refine lv_if_ne (tgt := 18) hx hb dX3_word_8 (by decide) (fun c8 => ?_) (fun c8 => ?_)
  · skip
    refine lv_aload_n hx hb dX3_word_18 rfl (lv_at hl 0 rfl) ?_
    refine lv_iconst (v := 0) hx hb dX3_word_19 (by decide) ?_
    refine va_put (D := D) (ci := 3) (v := .int (0 : Int32)) (ty := .int) (C := RX3) (T := TX3) (N := 11) hx hb hts iX3 tyX3 tyX3_ok nmX3 hown hK.1 hP hD hS 0 rfl rfl 10 (by decide) (hts (.fieldLink RX3 49 "NamedStreams" "latestStatus" "I") (by decide +kernel)) (fun _ h9 => h9) rfl (by decide +kernel) rfl rfl (Nat.le_of_ble_eq_true rfl) dX3_word_20 (fun H locs hP hD hS => ?_)
    have hP : va_P D vwCl (wC ad ca sd tc sc tr (0 : Int32) pz T Wt O SA KA R Ln Ky Ch X) H := hP
    have hD : va_D A (wC ad ca sd tc sc tr (0 : Int32) pz T Wt O SA KA R Ln Ky Ch X) := hD
    refine lv_aload_n hx hb dX3_word_23 rfl (lv_at hl 0 rfl) ?_
    refine lv_lload_n hx hb dX3_word_24 rfl (lv_at hl 1 rfl) ?_
    refine lv_iload_n hx hb dX3_word_25 rfl (lv_at hl 2 rfl) ?_
    refine nk_VRL (As := [.long run0, .int p0]) (rest := []) ⟨hx, hb, hml, hown, hts⟩ (mX3_baseOf l D ad ca sd tc sc tr (0 : Int32) pz T Wt O SA KA R Ln Ky Ch X run0 p0 (ns_hasIn c8 hz)) (cwV 2 hts gX3_word_X3_baseOf rfl rfl rfl (by decide +kernel) ⟨Nat.le_of_ble_eq_true rfl, Nat.le_of_ble_eq_true rfl⟩) hK hP 0 3 rfl rfl rfl rfl hl.1 rfl (Nat.le_of_ble_eq_true rfl) dX3_word_26 ⟨Nat.zero_le _, Nat.zero_le _⟩ (fun r2 hr2 => ?_)
    subst hr2
    refine lv_lload hx hb dX3_word_29 (lv_at hl 3 rfl) ?_
    refine nk_SSL (As := [.long (fBase sd run0 (Ky (Int32.toNatClampNeg p0))), .long k0]) (rest := []) ⟨hx, hb, hml, hown, hts⟩ (mX3_wordAt l (fBase sd run0 (Ky (Int32.toNatClampNeg p0))) k0) (va_cwS 2 hts gX3_word_X3_wordAt rfl rfl rfl (by decide +kernel) ⟨Nat.le_of_ble_eq_true rfl, Nat.le_of_ble_eq_true rfl⟩) rfl hl.1 rfl (Nat.le_of_ble_eq_true rfl) dX3_word_31 ⟨Nat.zero_le _, Nat.zero_le _⟩ (fun r3 hr3 => ?_)
    subst hr3
    exact nk_retL (g := _) (0 : Int32) hx hb hr hlocks hP hD hS dX3_word_34 (by exact (if_neg c8))
  · skip
    refine lv_aload_n hx hb dX3_word_11 rfl (lv_at hl 0 rfl) ?_
    refine lv_iconst (v := -1) hx hb dX3_word_12 (by decide) ?_
    refine va_put (D := D) (ci := 3) (v := .int (-1 : Int32)) (ty := .int) (C := RX3) (T := TX3) (N := 11) hx hb hts iX3 tyX3 tyX3_ok nmX3 hown hK.1 hP hD hS 0 rfl rfl 10 (by decide) (hts (.fieldLink RX3 49 "NamedStreams" "latestStatus" "I") (by decide +kernel)) (fun _ h9 => h9) rfl (by decide +kernel) rfl rfl (Nat.le_of_ble_eq_true rfl) dX3_word_13 (fun H locs hP hD hS => ?_)
    have hP : va_P D vwCl (wC ad ca sd tc sc tr (-1 : Int32) pz T Wt O SA KA R Ln Ky Ch X) H := hP
    have hD : va_D A (wC ad ca sd tc sc tr (-1 : Int32) pz T Wt O SA KA R Ln Ky Ch X) := hD
    refine lv_lconst (v := 0) hx hb dX3_word_16 (by decide) ?_
    exact nk_retL (g := _) (-1 : Int32) hx hb hr hlocks hP hD hS dX3_word_17 (by exact (if_pos c8))

set_option maxHeartbeats 4000000 in
set_option maxRecDepth 100000 in
theorem mX3_drawSpan (l : Launch) (D : va_G) (ad : Nat → Nat) (ca : Nat → ClassId) (sd : Int64) (tc : Int32) (sc : Int32) (tr : Int32) (st : Int32) (pz : Int32) (T : Nat → Int64) (Wt : Nat → Int64) (O : Nat → Int32) (SA : Nat → Option Nat) (KA : Nat → Option Nat) (R : Nat → Int64) (Ln : Nat → Int32) (Ky : Nat → Int64) (Ch : Nat → Int64) (X : va_W) (run0 : Int64) (p0 c0 : Int32) (n0 : Int64) (hp0 : vp_in p0 24) (hn0 : ¬ n0 = 0) : nkML l yX3_drawSpan wsX3_drawSpan ({ frames := 2, cells := 0, slots := 0, locals := 50 }) D (tC ca) [.ref (ad 0), .long run0, .int p0, .int c0, .long n0] (wC ad ca sd tc sc tr st pz T Wt O SA KA R Ln Ky Ch X) (fun u : Int32 => wC ad ca sd tc sc u st pz T Wt O SA KA R Ln Ky Ch X) (fun r u => fSpan (fBase sd run0 (Ky p0.toNatClampNeg)) (fFirst c0) n0 tr = (r, u)) 0 0 := by
  refine nk_ofM (Qf := fun A => va_Ql (fun r u => fSpan (fBase sd run0 (Ky p0.toNatClampNeg)) (fFirst c0) n0 tr = (r, u)) (nkB D A (fun u : Int32 => wC ad ca sd tc sc u st pz T Wt O SA KA R Ln Ky Ch X)) A) (cc := cX3_drawSpan) (maxL := 16) (ret := (some .long)) (by decide) rfl (Nat.le_of_ble_eq_true rfl) ?_
  intro p e s m below meth c A hx hb hr hml hts hown hlocks hin hK hP hD hA hS ls hl
  replace hown : s.vm.findClass RX3 = some m.cls := hown
  replace hl : lv_has ls 16 [(0, .ref (ad 0)), (1, .long run0), (3, .int p0), (4, .int c0), (5, .long n0)] := hl
  have hP : va_P D vwCl (wC ad ca sd tc sc tr st pz T Wt O SA KA R Ln Ky Ch X) s.heap := hP
  have iX1 : ∀ w ∈ u_ws RX1 TX1 5, w ∈ wsX3_drawSpan := by decide +kernel
  have iX3 : ∀ w ∈ u_ws RX3 TX3 11, w ∈ wsX3_drawSpan := by decide +kernel
  refine lv_aload_n hx hb dX3_drawSpan_0 rfl (lv_at hl 0 rfl) ?_
  refine lv_lload_n hx hb dX3_drawSpan_1 rfl (lv_at hl 1 rfl) ?_
  refine lv_iload_n hx hb dX3_drawSpan_2 rfl (lv_at hl 2 rfl) ?_
  refine nk_VRL (As := [.long run0, .int p0]) (rest := []) ⟨hx, hb, hml, hown, hts⟩ (mX3_baseOf l D ad ca sd tc sc tr st pz T Wt O SA KA R Ln Ky Ch X run0 p0 hp0) (cwV 2 hts gX3_drawSpan_X3_baseOf rfl rfl rfl (by decide +kernel) ⟨Nat.le_of_ble_eq_true rfl, Nat.le_of_ble_eq_true rfl⟩) hK hP 0 3 rfl rfl rfl rfl hl.1 rfl (Nat.le_of_ble_eq_true rfl) dX3_drawSpan_3 ⟨Nat.zero_le _, Nat.zero_le _⟩ (fun r1 hr1 => ?_)
  subst hr1
  refine lv_topl (fun z2 ez2 => ?_)
  refine lv_lstore (lv' := [(7, .long z2), (0, .ref (ad 0)), (1, .long run0), (3, .int p0), (4, .int c0), (5, .long n0)]) hx hb dX3_drawSpan_6 hl (by decide) rfl (fun ls hl => ?_)
  refine lv_iload hx hb dX3_drawSpan_8 (lv_at hl 4 rfl) ?_
  refine nk_SSL (As := [.int c0]) (rest := []) ⟨hx, hb, hml, hown, hts⟩ (mX3_firstCounter l c0) (va_cwS 1 hts gX3_drawSpan_X3_firstCounter rfl rfl rfl (by decide +kernel) ⟨Nat.le_of_ble_eq_true rfl, Nat.le_of_ble_eq_true rfl⟩) rfl hl.1 rfl (Nat.le_of_ble_eq_true rfl) dX3_drawSpan_10 ⟨Nat.zero_le _, Nat.zero_le _⟩ (fun r3 hr3 => ?_)
  subst hr3
  refine lv_topl (fun z4 ez4 => ?_)
  refine lv_lstore (lv' := [(9, .long z4), (7, .long z2), (0, .ref (ad 0)), (1, .long run0), (3, .int p0), (4, .int c0), (5, .long n0)]) hx hb dX3_drawSpan_13 hl (by decide) rfl (fun ls hl => ?_)
  refine lv_lload hx hb dX3_drawSpan_15 (lv_at hl 6 rfl) ?_
  refine lv_lneg hx hb dX3_drawSpan_17 ?_
  refine lv_lload hx hb dX3_drawSpan_18 (lv_at hl 6 rfl) ?_
  refine nk_SSL (As := [.long (-n0), .long n0]) (rest := []) ⟨hx, hb, hml, hown, hts⟩ (mX3_remainderUnsigned l (-n0) n0 hn0) (va_cwS 2 hts gX3_drawSpan_X3_remainderUnsigned rfl rfl rfl (by decide +kernel) ⟨Nat.le_of_ble_eq_true rfl, Nat.le_of_ble_eq_true rfl⟩) rfl hl.1 rfl (Nat.le_of_ble_eq_true rfl) dX3_drawSpan_20 ⟨Nat.zero_le _, Nat.zero_le _⟩ (fun r5 hr5 => ?_)
  subst hr5
  refine lv_topl (fun z6 ez6 => ?_)
  refine lv_lstore (lv' := [(11, .long z6), (9, .long z4), (7, .long z2), (0, .ref (ad 0)), (1, .long run0), (3, .int p0), (4, .int c0), (5, .long n0)]) hx hb dX3_drawSpan_23 hl (by decide) rfl (fun ls hl => ?_)
  refine lv_iconst (v := 0) hx hb dX3_drawSpan_25 (by decide) ?_
  refine lv_istore (lv' := [(13, .int (0 : Int32)), (11, .long z6), (9, .long z4), (7, .long z2), (0, .ref (ad 0)), (1, .long run0), (3, .int p0), (4, .int c0), (5, .long n0)]) hx hb dX3_drawSpan_26 hl (by decide) rfl (fun ls hl => ?_)
  have lp28 : ∀ (k : Nat) (i : Int32) (tr1 : Int32) (H : Heap) (locs : List Loc) (ls : Array Slot), k ≤ 32 → i = nI (32 - k) → fDraw z2 z4 n0 z6 k tr1 = fSpan (fBase sd run0 (Ky p0.toNatClampNeg)) (fFirst c0) n0 tr → va_P D vwCl (wC ad ca sd tc sc tr1 st pz T Wt O SA KA R Ln Ky Ch X) H → va_D A (wC ad ca sd tc sc tr1 st pz T Wt O SA KA R Ln Ky Ch X) → va_S A s.heap H locs → lv_has ls 16 [(13, .int i), (11, .long z6), (9, .long z4), (7, .long z2), (0, .ref (ad 0)), (1, .long run0), (3, .int p0), (4, .int c0), (5, .long n0)] → W p l e ({ frames := 2, cells := 0, slots := 0, locals := 50 } : Room) s m ([.ref (ad 0), .long run0, .int p0, .int c0, .long n0] : List Value).toArray below meth c H locs 0 0 (MQ below (va_Ql (fun r u => fSpan (fBase sd run0 (Ky p0.toNatClampNeg)) (fFirst c0) n0 tr = (r, u)) (nkB D A (fun u : Int32 => wC ad ca sd tc sc u st pz T Wt O SA KA R Ln Ky Ch X)) A) ([.ref (ad 0), .long run0, .int p0, .int c0, .long n0] : List Value).toArray s 0 0 A) (F0 m 28 ls []) := by
    intro k
    induction k with
    | zero =>
      intro i tr1 H locs ls hk hi ht hP hD hS hl
      refine lv_iload hx hb dX3_drawSpan_28 (lv_at hl 0 rfl) ?_
      refine lv_bipush (v := 32) hx hb dX3_drawSpan_30 (by decide) ?_
      refine lv_icmp_ge (tgt := 88) hx hb dX3_drawSpan_32 (by decide) (fun c32 => ?_) (fun c32 => ?_)
      · skip
        refine lv_ldc2 (v := -3) hx hb hown (hts (.constantLong RX3 156 (-3)) (by decide +kernel)) dX3_drawSpan_88 ?_
        exact nk_retL (g := _) tr1 hx hb hr hlocks hP hD hS dX3_drawSpan_91 (by subst hi; rw [← ht]; rfl)
      · skip
        exact absurd (by rw [hi]; decide) c32
    | succ k ih28 =>
      intro i tr1 H locs ls hk hi ht hP hD hS hl
      refine lv_iload hx hb dX3_drawSpan_28 (lv_at hl 0 rfl) ?_
      refine lv_bipush (v := 32) hx hb dX3_drawSpan_30 (by decide) ?_
      refine lv_icmp_ge (tgt := 88) hx hb dX3_drawSpan_32 (by decide) (fun c32 => ?_) (fun c32 => ?_)
      · skip
        exact absurd c32 (Int32.not_le.mpr (by rw [hi]; exact ns_nI_lt (n := 32) rfl (by omega) (by decide)))
      · skip
        refine lv_lload hx hb dX3_drawSpan_35 (lv_at hl 3 rfl) ?_
        refine lv_lload hx hb dX3_drawSpan_37 (lv_at hl 2 rfl) ?_
        refine lv_iload hx hb dX3_drawSpan_39 (lv_at hl 0 rfl) ?_
        refine lv_i2l hx hb dX3_drawSpan_41 rfl ?_
        refine lv_ladd hx hb dX3_drawSpan_42 ?_
        refine nk_SSL (As := [.long z2, .long (z4 + (Int32.toInt64 i))]) (rest := []) ⟨hx, hb, hml, hown, hts⟩ (mX3_wordAt l z2 (z4 + (Int32.toInt64 i))) (va_cwS 2 hts gX3_drawSpan_X3_wordAt rfl rfl rfl (by decide +kernel) ⟨Nat.le_of_ble_eq_true rfl, Nat.le_of_ble_eq_true rfl⟩) rfl hl.1 rfl (Nat.le_of_ble_eq_true rfl) dX3_drawSpan_43 ⟨Nat.zero_le _, Nat.zero_le _⟩ (fun r7 hr7 => ?_)
        subst hr7
        refine lv_topl (fun z8 ez8 => ?_)
        refine lv_lstore (lv' := [(14, .long z8), (13, .int i), (11, .long z6), (9, .long z4), (7, .long z2), (0, .ref (ad 0)), (1, .long run0), (3, .int p0), (4, .int c0), (5, .long n0)]) hx hb dX3_drawSpan_46 hl (by decide) rfl (fun ls hl => ?_)
        refine lv_aload_n hx hb dX3_drawSpan_48 rfl (lv_at hl 5 rfl) ?_
        refine lv_iload hx hb dX3_drawSpan_49 (lv_at hl 1 rfl) ?_
        refine lv_iconst (v := 1) hx hb dX3_drawSpan_51 (by decide) ?_
        refine lv_iadd hx hb dX3_drawSpan_52 ?_
        refine lv_topi (fun z9 ez9 => ?_)
        refine va_put (D := D) (ci := 3) (v := .int z9) (ty := .int) (C := RX3) (T := TX3) (N := 11) hx hb hts iX3 tyX3 tyX3_ok nmX3 hown hK.1 hP hD hS 0 rfl rfl 9 (by decide) (hts (.fieldLink RX3 46 "NamedStreams" "latestTries" "I") (by decide +kernel)) (fun _ h9 => h9) rfl (by decide +kernel) rfl rfl (Nat.le_of_ble_eq_true rfl) dX3_drawSpan_53 (fun H locs hP hD hS => ?_)
        have hP : va_P D vwCl (wC ad ca sd tc sc z9 st pz T Wt O SA KA R Ln Ky Ch X) H := hP
        have hD : va_D A (wC ad ca sd tc sc z9 st pz T Wt O SA KA R Ln Ky Ch X) := hD
        refine lv_lload hx hb dX3_drawSpan_56 (lv_at hl 2 rfl) ?_
        refine lv_lconst (v := 0) hx hb dX3_drawSpan_58 (by decide) ?_
        refine W.lcmp hx hb dX3_drawSpan_59 ?_
        refine lv_if_eq (tgt := 74) hx hb dX3_drawSpan_60 (by decide) (fun c60 => ?_) (fun c60 => ?_)
        · skip
          have c60 : z6 = (0 : Int64) := (lg_cmp_eq _ _).mp c60
          refine lv_lload hx hb dX3_drawSpan_74 (lv_at hl 0 rfl) ?_
          refine lv_lload hx hb dX3_drawSpan_76 (lv_at hl 9 rfl) ?_
          refine nk_SSL (As := [.long z8, .long n0]) (rest := []) ⟨hx, hb, hml, hown, hts⟩ (mX3_remainderUnsigned l z8 n0 hn0) (va_cwS 2 hts gX3_drawSpan_X3_remainderUnsigned rfl rfl rfl (by decide +kernel) ⟨Nat.le_of_ble_eq_true rfl, Nat.le_of_ble_eq_true rfl⟩) rfl hl.1 rfl (Nat.le_of_ble_eq_true rfl) dX3_drawSpan_78 ⟨Nat.zero_le _, Nat.zero_le _⟩ (fun r10 hr10 => ?_)
          subst hr10
          exact nk_retL (g := _) z9 hx hb hr hlocks hP hD hS dX3_drawSpan_81 (by subst hi; subst ez8; subst ez9; rw [← ht, fDraw]; first | rw [if_pos c60] | rw [if_neg c60, if_neg c71])
        · skip
          have c60 : ¬ (z6 = (0 : Int64)) := fun h => c60 ((lg_cmp_eq _ _).mpr h)
          refine lv_lload hx hb dX3_drawSpan_63 (lv_at hl 0 rfl) ?_
          refine lv_lload hx hb dX3_drawSpan_65 (lv_at hl 2 rfl) ?_
          refine lv_lneg hx hb dX3_drawSpan_67 ?_
          refine nk_SSI (As := [.long z8, .long (-z6)]) (rest := []) ⟨hx, hb, hml, hown, hts⟩ (mX3_belowUnsigned l z8 (-z6)) (va_cwS 2 hts gX3_drawSpan_X3_belowUnsigned rfl rfl rfl (by decide +kernel) ⟨Nat.le_of_ble_eq_true rfl, Nat.le_of_ble_eq_true rfl⟩) rfl hl.1 rfl (Nat.le_of_ble_eq_true rfl) dX3_drawSpan_68 ⟨Nat.zero_le _, Nat.zero_le _⟩ (fun r11 hr11 => ?_)
          subst hr11
          refine lv_if_eq (tgt := 82) hx hb dX3_drawSpan_71 (by decide) (fun c71 => ?_) (fun c71 => ?_)
          · skip
            obtain ⟨i12, ei12⟩ : ∃ y : Int32, y = i + 1 := ⟨_, rfl⟩
            refine lv_iinc (v := i12) (lv' := [(13, .int i12), (14, .long z8), (11, .long z6), (9, .long z4), (7, .long z2), (0, .ref (ad 0)), (1, .long run0), (3, .int p0), (4, .int c0), (5, .long n0)]) hx hb dX3_drawSpan_82 hl (k := 1) rfl (by rw [ei12]; rfl) (by decide) rfl (fun ls hl => ?_)
            refine lv_goto (tgt := 28) hx hb dX3_drawSpan_85 (by decide) ?_
            exact ih28 i12 z9 _ _ _ (Nat.le_of_succ_le hk) (ns_step hi hk ei12) (by subst hi; subst ez8; subst ez9; rw [← ht, fDraw, if_neg c60, if_pos c71]) hP hD hS (lv_sub hl [0, 2, 3, 4, 5, 6, 7, 8, 9] rfl)
          · skip
            refine lv_lload hx hb dX3_drawSpan_74 (lv_at hl 0 rfl) ?_
            refine lv_lload hx hb dX3_drawSpan_76 (lv_at hl 9 rfl) ?_
            refine nk_SSL (As := [.long z8, .long n0]) (rest := []) ⟨hx, hb, hml, hown, hts⟩ (mX3_remainderUnsigned l z8 n0 hn0) (va_cwS 2 hts gX3_drawSpan_X3_remainderUnsigned rfl rfl rfl (by decide +kernel) ⟨Nat.le_of_ble_eq_true rfl, Nat.le_of_ble_eq_true rfl⟩) rfl hl.1 rfl (Nat.le_of_ble_eq_true rfl) dX3_drawSpan_78 ⟨Nat.zero_le _, Nat.zero_le _⟩ (fun r13 hr13 => ?_)
            subst hr13
            exact nk_retL (g := _) z9 hx hb hr hlocks hP hD hS dX3_drawSpan_81 (by subst hi; subst ez8; subst ez9; rw [← ht, fDraw]; first | rw [if_pos c60] | rw [if_neg c60, if_neg c71])
  exact lp28 32 (0 : Int32) tr _ _ _ (Nat.le_refl 32) (by decide) (by subst ez2; subst ez4; subst ez6; rfl) hP hD hS (lv_sub hl [0, 1, 2, 3, 4, 5, 6, 7, 8] rfl)
