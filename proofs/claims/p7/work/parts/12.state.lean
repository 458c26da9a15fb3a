/-! words of the state, and what the leaves compute, as the machine does -/
def nsU (x : Int64) (y : Int32) : Int64 := (x.toUInt64 >>> (y.toInt64.toUInt64 &&& Int64.toUInt64 63)).toInt64
def nsL (x : Int64) (y : Int32) : Int64 := x <<< (y.toInt64 &&& 63)
def fMix1 (z : Int64) : Int64 := (z ^^^ nsU z 30) * (-4658895280553007687)
def fMix2 (z : Int64) : Int64 := (z ^^^ nsU z 27) * (-7723592293110705685)
def fMix (z : Int64) : Int64 := fMix2 (fMix1 z) ^^^ nsU (fMix2 (fMix1 z)) 31
def fFirst (c : Int32) : Int64 := 32 * c.toInt64
def fBelow (x y : Int64) : Int32 := if (y ^^^ (-9223372036854775808)) ≤ (x ^^^ (-9223372036854775808)) then 0 else 1
def fWord (b k : Int64) : Int64 := fMix (b + (-7046029254386353131) * (k + 1))
def fRest (x n : Int64) : Int64 := x - nsL (nsU x 1 / n) 1 * n
def fRem (x n : Int64) : Int64 := if fBelow (fRest x n) n = 0 then fRest x n - n else fRest x n
theorem ns_in {i k : Int32} {n : Nat} (h0 : 0 ≤ i) (h : i < k) (hk : k.toInt ≤ n) : vp_in i n := by
  rw [vp_in_iff]
  rw [Int32.le_iff_toInt_le] at h0
  rw [Int32.lt_iff_toInt_lt] at h
  exact ⟨h0, by omega⟩
/-- the cells of the class: the object, its rows, the paths and theirs; X: all else -/
abbrev wC (ad : Nat → Nat) (ca : Nat → ClassId) (sd : Int64) (tc : Int32) (sc : Int32) (tr : Int32) (st : Int32) (pz : Int32) (T : Nat → Int64) (Wt : Nat → Int64) (O : Nat → Int32) (SA : Nat → Option Nat) (KA : Nat → Option Nat) (R : Nat → Int64) (Ln : Nat → Int32) (Ky : Nat → Int64) (Ch : Nat → Int64) (X : va_W) : va_W := ((ad 0), .inr (3, [.long sd, .ref (ad 1), .int tc, .ref (ad 2), .ref (ad 3), .ref (ad 4), .ref (ad 5), .int sc, .ref (ad 6), .int tr, .int st])) :: ((ad 1), .inl (ca 1, 4, .inr (.inl T))) :: ((ad 2), .inr (1, [.ref (ad 7), .ref (ad 8), .ref (ad 9), .ref (ad 10), .int pz])) :: ((ad 3), .inl (ca 3, 10, .inr (.inl Wt))) :: ((ad 4), .inl (ca 4, 40, .inl O)) :: ((ad 5), .inl (ca 5, 8, .inr (.inr (.inr (.inr SA))))) :: ((ad 6), .inl (ca 6, 4, .inr (.inr (.inr (.inr KA))))) :: ((ad 7), .inl (ca 7, 96, .inr (.inl R))) :: ((ad 8), .inl (ca 8, 24, .inl Ln)) :: ((ad 9), .inl (ca 9, 24, .inr (.inl Ky))) :: ((ad 10), .inl (ca 10, 4, .inr (.inl Ch))) :: X
abbrev tC (ca : Nat → ClassId) : List (ClassId × FieldType) := [(ca 1, .long), (ca 3, .long), (ca 4, .int), (ca 5, .object "NamedStreams$Stream"), (ca 6, .object "NamedStreams$Kept"), (ca 7, .long), (ca 8, .int), (ca 9, .long), (ca 10, .long)]
/-- the cells of the reference -/
abbrev wM (bd : Nat → Nat) (cb : Nat → ClassId) (sd : Int64) (pz : Int32) (tc : Int32) (st : Int32) (tr : Int32) (sc : Int32) (gr : Int32) (P : Nat → Int64) (Mn : Nat → Int32) (T : Nat → Int64) (Wt : Nat → Int64) (Rn : Nat → Int64) (Po : Nat → Int32) (Pl : Nat → Int32) (Sp : Nat → Int32) (Ks : Nat → Int32) (Kp : Nat → Int32) (Kc : Nat → Int32) (Ik : Nat → Int32) (O : Nat → Int32) (As : Nat → Int64) (X : va_W) : va_W := ((bd 0), .inr (4, [.long sd, .int pz, .ref (bd 1), .ref (bd 2), .ref (bd 3), .int tc, .int st, .int tr, .ref (bd 4), .int sc, .ref (bd 5), .ref (bd 6), .ref (bd 7), .ref (bd 8), .ref (bd 9), .ref (bd 10), .ref (bd 11), .ref (bd 12), .int gr, .ref (bd 13), .ref (bd 14)])) :: ((bd 1), .inl (cb 1, 96, .inr (.inl P))) :: ((bd 2), .inl (cb 2, 24, .inl Mn)) :: ((bd 3), .inl (cb 3, 4, .inr (.inl T))) :: ((bd 4), .inl (cb 4, 10, .inr (.inl Wt))) :: ((bd 5), .inl (cb 5, 8, .inr (.inl Rn))) :: ((bd 6), .inl (cb 6, 8, .inl Po)) :: ((bd 7), .inl (cb 7, 8, .inl Pl)) :: ((bd 8), .inl (cb 8, 8, .inl Sp)) :: ((bd 9), .inl (cb 9, 4, .inl Ks)) :: ((bd 10), .inl (cb 10, 4, .inl Kp)) :: ((bd 11), .inl (cb 11, 4, .inl Kc)) :: ((bd 12), .inl (cb 12, 4, .inl Ik)) :: ((bd 13), .inl (cb 13, 40, .inl O)) :: ((bd 14), .inl (cb 14, 4, .inr (.inl As))) :: X
abbrev tM (cb : Nat → ClassId) : List (ClassId × FieldType) := [(cb 1, .long), (cb 2, .int), (cb 3, .long), (cb 4, .long), (cb 5, .long), (cb 6, .int), (cb 7, .int), (cb 8, .int), (cb 9, .int), (cb 10, .int), (cb 11, .int), (cb 12, .boolean), (cb 13, .int), (cb 14, .long)]
