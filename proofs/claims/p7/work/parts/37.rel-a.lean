/-! class and reference alike: fractions -/
theorem uN_l1 (w : Int64) : uN (nsL w 1) = (2 * uN w) % 18446744073709551616 := uN_shl w
theorem l64_2 (r : Int64) : 2 * r = r + r := by
  rw [show (2 : Int64) = 1 + 1 from rfl, Int64.add_mul, Int64.one_mul]
theorem bit_lo {w : Int64} {j : Nat} (hj : j < 64) : (nsU w (nI j) &&& 1 = 1) ↔ uN w / 2 ^ j % 2 = 1 := by
  have h1 : uN (nsU w (nI j)) = uN w / 2 ^ j := uN_sk w hj
  have hb := uN_bit (nsU w (nI j))
  rw [h1] at hb
  have hd : uN (nsU w (nI j) &&& 1) = uN w / 2 ^ j % 2 := by
    have h2 : uN (nsU w (nI j) &&& 1) = uN (nsU w (nI j)) &&& uN 1 := UInt64.toNat_and _ _
    rw [h2, h1, show uN 1 = 1 from rfl, Nat.and_one_is_mod]
  constructor
  · intro h
    rw [h] at hd
    exact hd.symm
  · intro h
    apply uN_inj
    rw [hd, h]
    rfl
theorem bit_hi {w v : Int64} {j : Nat} (hj : j < 64) (hv : uN v = (uN w * 2 ^ (63 - j)) % 18446744073709551616) : (0 ≤ v) ↔ uN w / 2 ^ j % 2 = 0 := by
  have e64 : (18446744073709551616 : Nat) = 2 ^ (j + 1) * 2 ^ (63 - j) := by
    rw [← Nat.pow_add, show j + 1 + (63 - j) = 64 by omega]
  have e63 : (9223372036854775808 : Nat) = 2 ^ j * 2 ^ (63 - j) := by
    rw [← Nat.pow_add, show j + (63 - j) = 63 by omega]
  have hp : 0 < 2 ^ (63 - j) := Nat.two_pow_pos _
  rw [e64, Nat.mul_mod_mul_right] at hv
  have hs : uN w % 2 ^ (j + 1) = uN w % 2 ^ j + 2 ^ j * (uN w / 2 ^ j % 2) := Nat.mod_pow_succ
  have hm : uN w % 2 ^ j < 2 ^ j := Nat.mod_lt _ (Nat.two_pow_pos _)
  have h0 : (0 : Int64).toInt = 0 := rfl
  rw [Int64.le_iff_toInt_le, h0, uN_int v]
  have hlt := uN_lt v
  rcases Nat.mod_two_eq_zero_or_one (uN w / 2 ^ j) with hb | hb
  · rw [hb, Nat.mul_zero, Nat.add_zero] at hs
    have : uN v < 9223372036854775808 := by
      rw [hv, hs, e63]
      exact Nat.mul_lt_mul_of_pos_right hm hp
    rw [if_pos (by omega)]
    exact ⟨fun _ => hb, fun _ => by omega⟩
  · rw [hb, Nat.mul_one] at hs
    have : 9223372036854775808 ≤ uN v := by
      rw [hv, hs, e63]
      exact Nat.mul_le_mul_right _ (by omega)
    rw [if_neg (by omega)]
    exact ⟨fun q => by omega, fun q => by omega⟩
theorem bit_nx {w v : Int64} {j : Nat} (hj : j + 1 < 64) (hv : uN v = (uN w * 2 ^ (63 - (j + 1))) % 18446744073709551616) : uN (nsL v 1) = (uN w * 2 ^ (63 - j)) % 18446744073709551616 := by
  rw [uN_l1, hv, show 63 - j = 63 - (j + 1) + 1 by omega, Nat.pow_succ]
  rw [← Nat.mul_assoc]
  omega
/-- one bit, on both sides -/
theorem fr_step {w v b r : Int64} {j : Nat} {tr : Int32} {K1 : Int64 → Int32 → Int32 × Int32} {K2 : Int64 → Int64 → Int32 × Int32} (hb : (nsU w (nI j) &&& 1 = 1) ↔ ¬ 0 ≤ v) (hK : ∀ r2, fFrW w b j r2 (tr + 1) K1 = K2 r2 (nsL v 1)) : fFrW w b (j + 1) r tr K1 = mFrB b r v tr K2 := by
  rw [fFrW]
  unfold mFrB
  rw [l64_2 r]
  by_cases c1 : 0 ≤ v
  · have c2 : ¬ (nsU w (nI j) &&& 1 = 1) := fun q => hb.mp q c1
    rw [if_pos c1, if_neg c2, if_neg c2]
    by_cases c3 : r < b - r
    · rw [if_pos c3, if_pos c3, hK]
    · rw [if_neg c3, if_neg c3]
  · have c2 : nsU w (nI j) &&& 1 = 1 := hb.mpr c1
    rw [if_neg c1, if_pos c2, if_pos c2]
    by_cases c3 : r < b - r
    · rw [if_pos c3, if_pos c3]
    · rw [if_neg c3, if_neg c3, hK]
theorem fr_rem {t : Nat} (h : t < 2048) : (nI t - nI t / 64 * 64 = 0) ↔ t % 64 = 0 := by
  have e : nI t - nI t / 64 * 64 = nI (t % 64) := pk_rem (a := t) (d := 64) (by omega) (by decide) (by decide)
  rw [e, show (0 : Int32) = nI 0 from rfl, nI_eq (by omega) (by decide)]
theorem fr_div {t : Nat} (h : t < 2048) : nI t / 64 = nI (t / 64) := pk_div (a := t) (d := 64) (by omega) (by decide) (by decide)
theorem fr_in {o f b w : Int64} {k : Nat} (hk : k + 1 ≤ 32) (ih : ∀ (r v : Int64), fFrac o f b k r (nI (2048 - 64 * k)) = mFrL o f b (64 * k) r v) : ∀ (j : Nat), j ≤ 63 → ∀ (r v : Int64), (0 < j → uN v = (uN w * 2 ^ (63 - (j - 1))) % 18446744073709551616) → fFrW w b j r (nI (2048 - (64 * k + j))) (fun r t => fFrac o f b k r t) = mFrL o f b (64 * k + j) r v := by
  intro j
  induction j with
  | zero => intro _ r v _; exact ih r v
  | succ j ihj =>
    intro hj r v hv
    have hv := hv (Nat.succ_pos j)
    rw [Nat.add_sub_cancel] at hv
    have et : 64 * k + (j + 1) = 64 * k + j + 1 := by omega
    have htr : nI (2048 - (64 * k + j + 1)) + 1 = nI (2048 - (64 * k + j)) := by rw [nI_1]; congr 1; omega
    rw [et, mFrL, if_neg (by rw [fr_rem (by omega)]; omega)]
    refine fr_step ?_ ?_
    · rw [bit_lo (by omega), bit_hi (by omega) hv]; omega
    · intro r2
      rw [htr]
      exact ihj (by omega) r2 (nsL v 1) (fun h0 => by
        obtain ⟨i, rfl⟩ : ∃ i, j = i + 1 := ⟨j - 1, by omega⟩
        rw [Nat.add_sub_cancel]
        exact bit_nx (by omega) hv)
theorem fFrac_eq {o f b : Int64} : ∀ (k : Nat), k ≤ 32 → ∀ (r v : Int64), fFrac o f b k r (nI (2048 - 64 * k)) = mFrL o f b (64 * k) r v := by
  intro k
  induction k with
  | zero => intro _ r v; rfl
  | succ k ih =>
    intro hk r v
    rw [fFrac, show 64 * (k + 1) = 64 * k + 63 + 1 by omega, mFrL]
    have ht : 2048 - (64 * k + 63 + 1) = 64 * (32 - (k + 1)) := by omega
    rw [if_pos (by rw [fr_rem (by omega)]; omega), fr_div (by omega), ht, Nat.mul_div_cancel_left _ (by decide)]
    refine fr_step ?_ ?_
    · have hv : uN (fWord o (f + (nI (32 - (k + 1))).toInt64)) = (uN (fWord o (f + (nI (32 - (k + 1))).toInt64)) * 2 ^ (63 - 63)) % 18446744073709551616 := by
        rw [Nat.sub_self, Nat.pow_zero, Nat.mul_one, Nat.mod_eq_of_lt (uN_lt _)]
      rw [bit_lo (by omega), bit_hi (j := 63) (by omega) hv]; omega
    · intro r2
      rw [show nI (64 * (32 - (k + 1))) + 1 = nI (2048 - (64 * k + 63)) by rw [nI_1]; congr 1; omega]
      refine fr_in hk (fun r v => ih (by omega) r v) 63 (by omega) r2 _ (fun _ => ?_)
      have hv : uN (fWord o (f + (nI (32 - (k + 1))).toInt64)) = (uN (fWord o (f + (nI (32 - (k + 1))).toInt64)) * 2 ^ (63 - (62 + 1))) % 18446744073709551616 := by
        rw [show 63 - (62 + 1) = 0 from rfl, Nat.pow_zero, Nat.mul_one, Nat.mod_eq_of_lt (uN_lt _)]
      exact bit_nx (j := 62) (by omega) hv
theorem fFrac_all {o f a b : Int64} : fFrac o f b 32 a 0 = mFrL o f b 2048 a 0 := fFrac_eq 32 (Nat.le_refl 32) a 0
/-! class and reference alike: paths and keys -/
theorem mIs_iff {z : Nat} {p : Int32} (hz : z ≤ 24) : (mIs (nI z) p = 0) ↔ (p.toInt < 0 ∨ (z : Int) ≤ p.toInt) := by
  have e0 : (0 : Int64).toInt = 0 := rfl
  have em : (nI z - 1).toInt64.toInt = (z : Int) - 1 := by
    rw [i2l_toInt]
    exact pk_sub_toInt (a := z) (b := 1) (by omega) (by decide)
  unfold mIs mIn
  by_cases h1 : p.toInt64 < 0
  · rw [if_pos h1]
    rw [Int64.lt_iff_toInt_lt, i2l_toInt, e0] at h1
    exact ⟨fun _ => Or.inl h1, fun _ => rfl⟩
  · rw [if_neg h1]
    rw [Int64.lt_iff_toInt_lt, i2l_toInt, e0] at h1
    by_cases h2 : (nI z - 1).toInt64 < p.toInt64
    · rw [if_pos h2]
      rw [Int64.lt_iff_toInt_lt, em, i2l_toInt] at h2
      exact ⟨fun _ => Or.inr (by omega), fun _ => rfl⟩
    · rw [if_neg h2]
      rw [Int64.lt_iff_toInt_lt, em, i2l_toInt] at h2
      exact ⟨fun q => absurd q (by decide), fun q => by omega⟩
theorem fHas_iff {z : Nat} {p : Int32} (hz : z ≤ 24) : (fHas (nI z) p = 0) ↔ (p.toInt < 0 ∨ (z : Int) ≤ p.toInt) := by
  have e0 : (0 : Int32).toInt = 0 := rfl
  unfold fHas
  by_cases h1 : p < 0
  · rw [if_pos h1]
    rw [Int32.lt_iff_toInt_lt, e0] at h1
    exact ⟨fun _ => Or.inl h1, fun _ => rfl⟩
  · rw [if_neg h1]
    rw [Int32.lt_iff_toInt_lt, e0] at h1
    by_cases h2 : nI z ≤ p
    · rw [if_pos h2]
      rw [Int32.le_iff_toInt_le, nI_toInt (by omega)] at h2
      exact ⟨fun _ => Or.inr h2, fun _ => rfl⟩
    · rw [if_neg h2]
      rw [Int32.le_iff_toInt_le, nI_toInt (by omega)] at h2
      exact ⟨fun q => absurd q (by decide), fun q => by omega⟩
theorem has_is {z : Nat} {p : Int32} (hz : z ≤ 24) : (fHas (nI z) p = 0) ↔ (mIs (nI z) p = 0) := (fHas_iff hz).trans (mIs_iff hz).symm
theorem part_eq {t : Nat} {T : Nat → Int64} {v : Int64} (ht : t ≤ 4) : fPart (nI t) T v = mPart t T v := by
  unfold fPart mPart
  by_cases c : nI t = 4
  · rw [if_pos c, if_neg (by rw [c]; decide)]
  · have h := ns_neLt (n := 4) c rfl ht (by decide)
    rw [if_neg c, if_pos (show nI t < 4 from nI_lt (b := 4) h (by decide))]
theorem mLkI_0 (P T : Nat → Int64) (p : Int32) (t : Nat) : ∀ k, mLkI P T p t k 0 = 0 := by
  intro k
  induction k with
  | zero => rfl
  | succ k ih => rw [mLkI, if_pos rfl]; exact ih
theorem like_1 (P T : Nat → Int64) (p : Int32) (t : Nat) : ∀ k, fLikeL P T p t k = mLkI P T p t k 1 := by
  intro k
  induction k with
  | zero => rfl
  | succ k ih =>
    rw [fLikeL, mLkI, if_neg (show ¬ (1 : Int32) = 0 by decide), Int32.mul_comm p 4]
    by_cases c : P (4 * p + nI (t - (k + 1))).toNatClampNeg = T (nI (t - (k + 1))).toNatClampNeg
    · rw [if_pos c, if_pos c]; exact ih
    · rw [if_neg c, if_neg c, mLkI_0]
theorem like_eq (P T : Nat → Int64) (Mn : Nat → Int32) (p : Int32) (t : Nat) : fLike P Mn T p t = mLkI P T p t t (if Mn p.toNatClampNeg = nI t then 1 else 0) := by
  unfold fLike
  by_cases c : Mn p.toNatClampNeg = nI t
  · rw [if_pos c, if_pos c]; exact like_1 P T p t t
  · rw [if_neg c, if_neg c, mLkI_0]
theorem add_copy (Rw : Nat → Int64) (z n : Nat) : ∀ (k : Nat) (R : Nat → Int64) (y : Int64), (fAddL Rw z n k R y).1 = mCopyT Rw z n k R := by
  intro k
  induction k with
  | zero => intro R y; rfl
  | succ k ih => intro R y; rw [fAddL_s, ih, mCopyT, Int32.mul_comm (nI z) 4]
theorem ent_search {Rw R Ky : Nat → Int64} {Ln : Nat → Int32} {z n : Nat} : ∀ k, k ≤ z → (mLkO R Rw Ln z n k = nI z ∧ fEntL Rw R Ln Ky z n k = fEntL Rw R Ln Ky z n 0) ∨ ∃ j, j < z ∧ mLkO R Rw Ln z n k = nI j ∧ fEntL Rw R Ln Ky z n k = (nI j, R, Ln, Ky, nI z) := by
  intro k
  induction k with
  | zero => intro _; exact Or.inl ⟨rfl, rfl⟩
  | succ k ih =>
    intro hk
    have e := like_eq R Rw Ln (nI (z - (k + 1))) n
    by_cases c : fLike R Ln Rw (nI (z - (k + 1))) n = 0
    · have h1 : mLkO R Rw Ln z n (k + 1) = mLkO R Rw Ln z n k := by rw [mLkO, ← e, if_pos c]
      have h2 : fEntL Rw R Ln Ky z n (k + 1) = fEntL Rw R Ln Ky z n k := by rw [fEntL, if_pos c]
      rw [h1, h2]; exact ih (by omega)
    · have h1 : mLkO R Rw Ln z n (k + 1) = nI (z - (k + 1)) := by rw [mLkO, ← e, if_neg c]
      have h2 : fEntL Rw R Ln Ky z n (k + 1) = (nI (z - (k + 1)), R, Ln, Ky, nI z) := by rw [fEntL, if_neg c]
      exact Or.inr ⟨z - (k + 1), by omega, h1, h2⟩
/-- what the class enters is what the reference takes; the keys behind it -/
theorem ent_take {Rw R Ky : Nat → Int64} {Ln : Nat → Int32} {z n : Nat} (hz : z ≤ 24) : (fEnt Rw R Ln Ky z n).1 = (mTake R Rw Ln z n).1 ∧ (fEnt Rw R Ln Ky z n).2.1 = (mTake R Rw Ln z n).2.1 ∧ (fEnt Rw R Ln Ky z n).2.2.1 = (mTake R Rw Ln z n).2.2.1 ∧ (fEnt Rw R Ln Ky z n).2.2.2.2 = (mTake R Rw Ln z n).2.2.2 ∧ (((mTake R Rw Ln z n).2 = (R, Ln, nI z) ∧ (fEnt Rw R Ln Ky z n).2.2.2.1 = Ky) ∨ (z < 24 ∧ (mTake R Rw Ln z n) = (nI z, mCopyT Rw z n n R, upd Ln (nI z).toNatClampNeg (nI n), nI z + 1) ∧ (fEnt Rw R Ln Ky z n).2.2.2.1 = vp_updL Ky (nI z).toNatClampNeg (fAddL Rw z n n R 0).2)) := by
  unfold fEnt mTake mLk
  rcases ent_search (Rw := Rw) (R := R) (Ky := Ky) (Ln := Ln) (z := z) (n := n) z (Nat.le_refl z) with ⟨h1, h2⟩ | ⟨j, hj, h1, h2⟩
  · rw [h1, h2, fEntL]
    by_cases c : nI z = 24
    · rw [if_pos c, if_neg (by rw [c]; decide)]
      exact ⟨rfl, rfl, rfl, rfl, Or.inl ⟨rfl, rfl⟩⟩
    · have hz2 := ns_neLt (n := 24) c rfl hz (by decide)
      rw [if_neg c, if_pos rfl, if_pos (show nI z < 24 from nI_lt (b := 24) hz2 (by decide))]
      exact ⟨rfl, add_copy Rw z n n R 0, rfl, rfl, Or.inr ⟨hz2, rfl, rfl⟩⟩
  · rw [h1, h2, if_neg (show ¬ nI j = 24 from fun q => by
      have := (nI_eq (by omega) (by decide)).mp (show nI j = nI 24 from q); omega), if_neg (fun q => by
      have := (nI_eq (by omega) (by omega)).mp q; omega)]
    exact ⟨rfl, rfl, rfl, rfl, Or.inl ⟨rfl, rfl⟩⟩
/-- the keys that the class has are those of the reference's rows -/
def vKy (zz : Nat) (Ky P : Nat → Int64) (Mn : Nat → Int32) : Prop := ∀ p, p < zz → Ky p = mKey P Mn (nI p)
theorem mKeyL_congr {P P2 : Nat → Int64} {p : Int32} {l : Nat} : ∀ (k : Nat) (y : Int64), (∀ i, i < k → P (4 * p + nI (l - (i + 1))).toNatClampNeg = P2 (4 * p + nI (l - (i + 1))).toNatClampNeg) → mKeyL P p l k y = mKeyL P2 p l k y := by
  intro k
  induction k with
  | zero => intro y _; rw [mKeyL_0, mKeyL_0]
  | succ k ih =>
    intro y h
    rw [mKeyL_s, mKeyL_s, h k (Nat.lt_succ_self k)]
    exact ih _ (fun i hi => h i (by omega))
theorem ix4 (p i : Nat) : 4 * nI p + nI i = nI (4 * p + i) := by
  rw [show (4 : Int32) = nI 4 from rfl, pk_mul, nI_add]
theorem copy_at (T : Nat → Int64) (z t : Nat) (hz : z < 24) (ht : t ≤ 4) : ∀ (k : Nat), k ≤ t → ∀ (P : Nat → Int64) (q : Nat), mCopyT T z t k P q = if 4 * z + (t - k) ≤ q ∧ q < 4 * z + t then T (q - 4 * z) else P q := by
  intro k
  induction k with
  | zero => intro _ P q; rw [mCopyT, if_neg (by omega)]
  | succ k ih =>
    intro hk P q
    rw [mCopyT, ih (by omega), ix4, nI_clamp (by omega), nI_clamp (by omega)]
    by_cases c : 4 * z + (t - k) ≤ q ∧ q < 4 * z + t
    · rw [if_pos c, if_pos (by omega)]
    · rw [if_neg c]
      by_cases e : q = 4 * z + (t - (k + 1))
      · subst e
        rw [pk_uLs, if_pos (by omega)]
        congr 1
        omega
      · rw [pk_uLn e, if_neg (by omega)]
theorem add_key (T : Nat → Int64) (z t : Nat) (hz : z < 24) (ht : t ≤ 4) {P2 : Nat → Int64} (hP : ∀ i, i < t → P2 (4 * z + i) = T i) : ∀ (k : Nat), k ≤ t → ∀ (R : Nat → Int64) (y : Int64), (fAddL T z t k R y).2 = mKeyL P2 (nI z) t k y := by
  intro k
  induction k with
  | zero => intro _ R y; rw [fAddL_0, mKeyL_0]
  | succ k ih =>
    intro hk R y
    rw [fAddL_s, mKeyL_s, ih (by omega), ix4, nI_clamp (by omega), nI_clamp (by omega), hP _ (by omega)]
theorem vKy_ent {T R Ky : Nat → Int64} {Ln : Nat → Int32} {z n : Nat} (hz : z ≤ 24) (hn : n ≤ 4) (hL : vLn z Ln) (h : vKy z Ky R Ln) : ∃ z', (mTake R T Ln z n).2.2.2 = nI z' ∧ z ≤ z' ∧ z' ≤ 24 ∧ vKy z' (fEnt T R Ln Ky z n).2.2.2.1 (mTake R T Ln z n).2.1 (mTake R T Ln z n).2.2.1 := by
  obtain ⟨-, -, -, -, h5⟩ := ent_take (Rw := T) (R := R) (Ky := Ky) (Ln := Ln) (z := z) (n := n) hz
  rcases h5 with ⟨e1, e2⟩ | ⟨hz2, e1, e2⟩
  · rw [e1, e2]; exact ⟨z, rfl, Nat.le_refl z, hz, h⟩
  · rw [e1, e2]
    refine ⟨z + 1, nI_1 z, by omega, by omega, ?_⟩
    intro p hp
    show vp_updL Ky (nI z).toNatClampNeg (fAddL T z n n R 0).2 p = mKey (mCopyT T z n n R) (upd Ln (nI z).toNatClampNeg (nI n)) (nI p)
    rw [nI_clamp (show z < 2 ^ 31 by omega)]
    unfold mKey
    rw [nI_clamp (show p < 2 ^ 31 by omega)]
    by_cases e : p = z
    · subst e
      rw [pk_uLs, pk_us, nI_clamp (by omega)]
      exact add_key T p n hz2 hn (fun i hi => by rw [copy_at T p n hz2 hn n (Nat.le_refl n), if_pos (by omega)]; congr 1; omega) n (Nat.le_refl n) R 0
    · rw [pk_uLn e, pk_un e, h p (by omega)]
      unfold mKey
      rw [nI_clamp (show p < 2 ^ 31 by omega)]
      obtain ⟨ll, h1, h2⟩ := hL p (by omega)
      rw [h2, nI_clamp (by omega)]
      refine mKeyL_congr ll 0 (fun i hi => ?_)
      rw [ix4, nI_clamp (by omega), copy_at T z n hz2 hn n (Nat.le_refl n), if_neg (by omega)]
/-! class and reference alike: weights, picks, permutations, spans -/
theorem mIn_iff (x : Int32) (lo hi : Int64) : (mIn x.toInt64 lo hi = 0) ↔ (x.toInt < lo.toInt ∨ hi.toInt < x.toInt) := by
  unfold mIn
  by_cases h1 : x.toInt64 < lo
  · rw [if_pos h1]
    rw [Int64.lt_iff_toInt_lt, i2l_toInt] at h1
    exact ⟨fun _ => Or.inl h1, fun _ => rfl⟩
  · rw [if_neg h1]
    by_cases h2 : hi < x.toInt64
    · rw [if_pos h2]
      rw [Int64.lt_iff_toInt_lt, i2l_toInt] at h2
      exact ⟨fun _ => Or.inr h2, fun _ => rfl⟩
    · rw [if_neg h2]
      rw [Int64.lt_iff_toInt_lt, i2l_toInt] at h1 h2
      exact ⟨fun q => absurd q (by decide), fun q => by omega⟩
theorem i_lt0 {x : Int32} : (x < 0) ↔ x.toInt < 0 := by rw [Int32.lt_iff_toInt_lt]; exact Iff.rfl
theorem weight_eq (Wt : Nat → Int64) (k : Int32) (w : Int64) : fWeight Wt k w = mWeight Wt k w := by
  have h := mIn_iff k 0 9
  have e0 : (0 : Int64).toInt = 0 := rfl
  have e9 : (9 : Int64).toInt = 9 := rfl
  rw [e0, e9] at h
  unfold fWeight mWeight
  by_cases c1 : k < 0
  · rw [if_pos c1, if_pos (h.mpr (Or.inl (i_lt0.mp c1)))]
  · rw [if_neg c1]
    rw [i_lt0] at c1
    have e10 : (10 : Int32).toInt = 10 := rfl
    by_cases c2 : 10 ≤ k
    · rw [if_pos c2]
      rw [Int32.le_iff_toInt_le, e10] at c2
      rw [if_pos (h.mpr (Or.inr (by omega)))]
    · rw [if_neg c2]
      rw [Int32.le_iff_toInt_le, e10] at c2
      rw [if_neg (c := mIn k.toInt64 0 9 = 0) (by rw [h]; omega)]
theorem key_eq {z : Nat} {p : Int32} {Ky P : Nat → Int64} {Mn : Nat → Int32} (hz : z ≤ 24) (hK : vKy z Ky P Mn) (h : ¬ mIs (nI z) p = 0) : Ky p.toNatClampNeg = mKey P Mn p := by
  obtain ⟨j, hj, rfl⟩ := vp_in_of (mIs_in h hz) (by omega)
  rw [nI_clamp (by omega)]
  exact hK j hj
theorem keyC_eq {z : Nat} {p : Int32} {Ky P : Nat → Int64} {Mn : Nat → Int32} (hz : z ≤ 24) (hK : vKy z Ky P Mn) : fKey (nI z) Ky p = mKeyM P Mn (nI z) p := by
  unfold fKey mKeyM
  by_cases c : mIs (nI z) p = 0
  · rw [if_pos c, if_pos ((has_is hz).mpr c)]
  · rw [if_neg c, if_neg (fun q => c ((has_is hz).mp q)), key_eq hz hK c]
theorem wordC_eq {z : Nat} {sd run k : Int64} {p : Int32} {Ky P : Nat → Int64} {Mn : Nat → Int32} (hz : z ≤ 24) (hK : vKy z Ky P Mn) : fWd sd (nI z) Ky run p k = mWd sd P Mn (nI z) run p k := by
  unfold fWd mWd
  by_cases c : mIs (nI z) p = 0
  · rw [if_pos c, if_pos ((has_is hz).mpr c)]
  · rw [if_neg c, if_neg (fun q => c ((has_is hz).mp q)), key_eq hz hK c]
theorem spanC_eq {z : Nat} {sd run n : Int64} {p c tr : Int32} {Ky P : Nat → Int64} {Mn : Nat → Int32} (hz : z ≤ 24) (hK : vKy z Ky P Mn) : (fSpanC sd (nI z) Ky run p c n tr).2 = (mSpanM sd P Mn (nI z) run p c n tr).2 ∧ (¬ n = 0 → (fSpanC sd (nI z) Ky run p c n tr).1 = (mSpanM sd P Mn (nI z) run p c n tr).1) := by
  unfold fSpanC mSpanM
  by_cases c0 : n = 0
  · rw [if_pos c0]
    refine ⟨?_, fun h => absurd c0 h⟩
    by_cases c1 : mIs (nI z) p = 0
    · rw [if_pos c1]
    · rw [if_neg c1]
      by_cases c2 : c < 0
      · rw [if_pos c2]
      · rw [if_neg c2, if_pos (by rw [c0]; decide), if_pos c0]
  · rw [if_neg c0]
    by_cases c1 : mIs (nI z) p = 0
    · rw [if_pos c1, if_pos ((has_is hz).mpr c1)]; exact ⟨rfl, fun _ => rfl⟩
    · rw [if_neg c1, if_neg (fun q => c1 ((has_is hz).mp q))]
      by_cases c2 : c < 0
      · rw [if_pos c2, if_pos c2]; exact ⟨rfl, fun _ => rfl⟩
      · rw [if_neg c2, if_neg c2]
        by_cases c3 : 0 ≤ n
        · rw [if_pos c3, if_pos c3, if_neg c0, key_eq hz hK c1, mSpan_eq (ns_pos c0 c3)]
          exact ⟨rfl, fun _ => rfl⟩
        · rw [if_neg c3, if_neg c3]; exact ⟨rfl, fun _ => rfl⟩
theorem fracC_eq {z : Nat} {sd run a b : Int64} {p c tr : Int32} {Ky P : Nat → Int64} {Mn : Nat → Int32} (hz : z ≤ 24) (hK : vKy z Ky P Mn) : fFracC sd (nI z) Ky run p c a b tr = mFracM sd P Mn (nI z) run p c a b tr := by
  unfold fFracC mFracM
  by_cases c1 : mIs (nI z) p = 0
  · rw [if_pos c1, if_pos ((has_is hz).mpr c1)]
  · rw [if_neg c1, if_neg (fun q => c1 ((has_is hz).mp q))]
    by_cases c2 : c < 0
    · rw [if_pos c2, if_pos c2]
    · rw [if_neg c2, if_neg c2]
      by_cases c3 : b < 0
      · rw [if_pos c3, if_pos c3]
      · rw [if_neg c3, if_neg c3]
        by_cases c4 : a < 0
        · have hm : mIn a 0 b = 0 := if_pos c4
          rw [if_pos c4, if_pos hm]
        · rw [if_neg c4]
          by_cases c5 : a ≤ b
          · have hm : ¬ mIn a 0 b = 0 := by
              have e : mIn a 0 b = 1 := (if_neg c4).trans (if_neg (Int64.not_lt.mpr c5))
              rw [e]; decide
            rw [if_pos c5, if_neg hm]
            by_cases c6 : b = 0
            · rw [if_pos c6, if_pos c6]
            · rw [if_neg c6, if_neg c6, key_eq hz hK c1]
              unfold fFracD
              by_cases c7 : a = 0
              · have c8 : ¬ a = b := fun q => c6 (q.symm.trans c7)
                rw [if_neg c8, if_pos c7, if_pos c7]
              · by_cases c8 : a = b
                · rw [if_pos c8, if_neg c7, if_pos c8]
                · rw [if_neg c8, if_neg c7, if_neg c7, if_neg c8]; exact fFrac_all
          · have hm : mIn a 0 b = 0 := (if_neg c4).trans (if_pos (Int64.not_le.mp c5))
            rw [if_neg c5, if_pos hm]
theorem sum_eq (Wt : Nat → Int64) : ∀ (k : Nat) (s : Int64), ((mSumL Wt k 0 s).2 = 0 ∧ fSum Wt k s = (mSumL Wt k 0 s).1) ∨ ((mSumL Wt k 0 s).2 = 1 ∧ fSum Wt k s = -5) := by
  intro k
  induction k with
  | zero => intro s; exact Or.inl ⟨rfl, rfl⟩
  | succ k ih =>
    intro s
    rw [mSumL, if_pos rfl, fSum]
    by_cases c : 0 ≤ s + Wt (nI (10 - (k + 1))).toNatClampNeg
    · rw [if_pos c, if_pos c]; exact ih _
    · rw [if_neg c, if_neg c]; exact Or.inr ⟨mSumL_1 Wt k 0, rfl⟩
def vWt (Wt : Nat → Int64) : Prop := ∀ k, k < 10 → 0 ≤ Wt k
def iPref (Wt : Nat → Int64) : Nat → Int
  | 0 => 0
  | j + 1 => iPref Wt j + (Wt j).toInt
theorem l_nn {x : Int64} : (0 ≤ x) ↔ 0 ≤ x.toInt := by rw [Int64.le_iff_toInt_le]; exact Iff.rfl
theorem l_addnn {x y : Int64} (hx : 0 ≤ x) (hy : 0 ≤ y) (h : 0 ≤ x + y) : (x + y).toInt = x.toInt + y.toInt := by
  have a1 := uN_nn hx
  have a2 := uN_nn hy
  have a3 := uN_nn h
  have e := uN_add x y
  rw [uN_toInt a1, uN_toInt a2, uN_toInt a3, e, Nat.mod_eq_of_lt (by omega)]
  rw [Nat.mod_eq_of_lt (by omega)] at e
  omega
theorem sumL_pref (Wt : Nat → Int64) (hW : vWt Wt) : ∀ (k : Nat) (s : Int64), k ≤ 10 → 0 ≤ s → s.toInt = iPref Wt (10 - k) → (∀ j, j < 10 - k → (mPref Wt j).toInt = iPref Wt (j + 1) ∧ 0 ≤ mPref Wt j) → (k < 10 → s = mPref Wt (10 - k - 1)) → (mSumL Wt k 0 s).2 = 0 → ∀ j, j < 10 → (mPref Wt j).toInt = iPref Wt (j + 1) ∧ 0 ≤ mPref Wt j := by
  intro k
  induction k with
  | zero => intro s _ _ _ h _ _; exact h
  | succ k ih =>
    intro s hk hs hi hp hm hg
    rw [mSumL, if_pos rfl] at hg
    have ec : (nI (10 - (k + 1))).toNatClampNeg = 10 - (k + 1) := nI_clamp (by omega)
    rw [ec] at hg
    by_cases c : 0 ≤ s + Wt (10 - (k + 1))
    · rw [if_pos c] at hg
      have hw := hW (10 - (k + 1)) (by omega)
      have hadd := l_addnn hs hw c
      have e1 : 10 - k = 10 - (k + 1) + 1 := by omega
      have hmp : s + Wt (10 - (k + 1)) = mPref Wt (10 - (k + 1)) := by
        rcases Nat.lt_or_ge (k + 1) 10 with q | q
        · have := hm q
          obtain ⟨i, ei⟩ : ∃ i, 10 - (k + 1) = i + 1 := ⟨10 - (k + 1) - 1, by omega⟩
          rw [ei] at this ⊢
          rw [Nat.add_sub_cancel] at this
          rw [mPref, ← this]
        · have e0 : 10 - (k + 1) = 0 := by omega
          rw [e0] at hi ⊢
          have h0 : s = 0 := Int64.toInt_inj.mp (hi.trans rfl)
          rw [h0, Int64.zero_add]
          rfl
      refine ih _ (by omega) c (by rw [e1, iPref, hadd, hi]) ?_ (fun _ => by rw [e1, Nat.add_sub_cancel]; exact hmp) hg
      intro j hj
      rw [e1] at hj
      by_cases e : j = 10 - (k + 1)
      · subst e
        rw [← hmp, hadd, hi, iPref]
        exact ⟨rfl, c⟩
      · exact hp j (by omega)
    · rw [if_neg c, mSumL_1] at hg
      exact absurd hg (by decide)
theorem pref_ok {Wt : Nat → Int64} (hW : vWt Wt) (hg : (mSum Wt).2 = 0) : ∀ j, j < 10 → (mPref Wt j).toInt = iPref Wt (j + 1) ∧ 0 ≤ mPref Wt j :=
  sumL_pref Wt hW 10 0 (by omega) (by decide) rfl (fun j h => absurd h (by omega)) (fun h => absurd h (by omega)) hg
theorem reach_eq {Wt : Nat → Int64} {d : Int64} (hW : vWt Wt) (hp : ∀ j, j < 10 → (mPref Wt j).toInt = iPref Wt (j + 1) ∧ 0 ≤ mPref Wt j) : ∀ (k : Nat) (x : Int64), k ≤ 9 → 0 ≤ x → x.toInt = d.toInt - iPref Wt (9 - k) → fReach Wt k x = mReach Wt d k := by
  intro k
  induction k with
  | zero => intro x _ _ _; rfl
  | succ k ih =>
    intro x hk hx hi
    rw [fReach, mReach, nI_clamp (by omega)]
    have hpj := (hp (9 - (k + 1)) (by omega)).1
    rw [iPref] at hpj
    by_cases c : x < Wt (9 - (k + 1))
    · rw [if_pos c, if_pos (by rw [Int64.lt_iff_toInt_lt] at c ⊢; omega)]
    · rw [if_neg c, if_neg (by rw [Int64.lt_iff_toInt_lt] at c ⊢; omega)]
      have hw := hW (9 - (k + 1)) (by omega)
      have hle : Wt (9 - (k + 1)) ≤ x := Int64.not_lt.mp c
      have h1 := uN_nn hx
      have h2 := uN_nn hw
      have h3 : uN (Wt (9 - (k + 1))) ≤ uN x := by
        rw [Int64.le_iff_toInt_le, uN_toInt h1, uN_toInt h2] at hle
        omega
      have h4 := uN_sub h3
      have h5 : (x - Wt (9 - (k + 1))).toInt = x.toInt - (Wt (9 - (k + 1))).toInt := by
        rw [uN_toInt (n := x - Wt (9 - (k + 1))) (by omega), uN_toInt h1, uN_toInt h2, h4]
        omega
      have e1 : 9 - k = 9 - (k + 1) + 1 := by omega
      refine ih _ (by omega) (by rw [l_nn, h5]; rw [Int64.le_iff_toInt_le] at hle; omega) ?_
      rw [h5, e1, iPref]
      omega
theorem pick_eq {o f : Int64} {Wt : Nat → Int64} {tr gr : Int32} (hW : vWt Wt) : fPick o f Wt tr = if (mSum Wt).2 = 0 then (if (mSum Wt).1 = 0 then (-4, tr) else mPicked o f (mSum Wt).1 Wt tr) else (-5, tr) := by
  have _ := gr
  unfold fPick
  rcases sum_eq Wt 10 0 with ⟨h1, h2⟩ | ⟨h1, h2⟩
  · have h1 : (mSum Wt).2 = 0 := h1
    have h2 : fSum Wt 10 0 = (mSum Wt).1 := h2
    rw [h2, if_pos h1]
    by_cases c : (mSum Wt).1 = 0
    · rw [if_pos c, if_pos c]
    · obtain ⟨e9, hnn⟩ := mSum_ok h1
      have hpos := ns_pos c hnn
      rw [if_neg c, if_neg c, if_pos hnn]
      unfold mPicked
      rw [mSpan_eq hpos]
      by_cases c2 : 0 ≤ (fSpan o f (mSum Wt).1 tr).1
      · rw [if_pos c2, if_pos c2, reach_eq hW (pref_ok hW h1) 9 _ (by omega) c2 (by rw [Nat.sub_self, iPref, Int.sub_zero])]
      · rw [if_neg c2, if_neg c2]
  · have h1 : (mSum Wt).2 = 1 := h1
    rw [h2, if_neg (by decide), if_neg (by decide), if_neg (by rw [h1]; decide)]
/-! class and reference alike: permutations, places -/
theorem perm_eq {o : Int64} {c : Int32} : ∀ (i : Nat), i ≤ 39 → ∀ (O : Nat → Int32) (tr : Int32), fPerm o c i O tr = mPermL o c i O tr := by
  intro i
  induction i with
  | zero => intro _ O tr; rfl
  | succ i ih =>
    intro hi O tr
    have e : (nI (i + 1) + 1).toInt64 = (nI (i + 1)).toInt64 + 1 := by
      rw [ns_permI (by omega), mP_i (by omega)]
    have hp : 0 < (nI (i + 1)).toInt64 + 1 := mP_pos (q := i) (nn := 40) (by omega) (by omega) rfl
    have ef : fFirst (c + nI (i + 1)) = 32 * (c + nI (i + 1)).toInt64 := rfl
    rw [fPerm, mPermL, e, ef, mSpan_eq hp]
    by_cases h : 0 ≤ (fSpan o (32 * (c + nI (i + 1)).toInt64) ((nI (i + 1)).toInt64 + 1) tr).1
    · rw [if_pos h, if_pos h]; exact ih (by omega) _ _
    · rw [if_neg h, if_neg h]
theorem i_lt {x y : Int32} : (x < y) ↔ x.toInt < y.toInt := Int32.lt_iff_toInt_lt
theorem i_le {x y : Int32} : (x ≤ y) ↔ x.toInt ≤ y.toInt := Int32.le_iff_toInt_le
theorem l_lt {x y : Int64} : (x < y) ↔ x.toInt < y.toInt := Int64.lt_iff_toInt_lt
theorem l_le {x y : Int64} : (x ≤ y) ↔ x.toInt ≤ y.toInt := Int64.le_iff_toInt_le
theorem l_add32 (x y : Int32) : (x.toInt64 + y.toInt64).toInt = x.toInt + y.toInt := by
  rw [Int64.toInt_add, i2l_toInt, i2l_toInt]
  have h1 := Int32.toInt_lt x
  have h2 := Int32.le_toInt x
  have h3 := Int32.toInt_lt y
  have h4 := Int32.le_toInt y
  rw [Int.bmod_def]
  omega
theorem i_subM {n : Nat} (h : n < 2 ^ 31) : ((2147483647 : Int32) - nI n).toInt = 2147483647 - (n : Int) := by
  have e : (2147483647 : Int32) = nI 2147483647 := rfl
  rw [e, pk_sub (by omega), nI_toInt (by omega)]
  omega
theorem permC_eq {z : Nat} {sd run : Int64} {p c n k tr : Int32} {Ky P : Nat → Int64} {Mn O : Nat → Int32} (hz : z ≤ 24) (hK : vKy z Ky P Mn) : fPermC sd (nI z) Ky O run p c n k tr = mPermM sd P Mn (nI z) O run p c n k tr := by
  have i0 : (0 : Int32).toInt = 0 := rfl
  have i40 : (40 : Int32).toInt = 40 := rfl
  have e0 : (0 : Int64).toInt = 0 := rfl
  have e40 : (40 : Int64).toInt = 40 := rfl
  have eM : (2147483647 : Int64).toInt = 2147483647 := rfl
  have hn := mIn_iff n 0 40
  rw [e0, e40] at hn
  unfold fPermC mPermM
  by_cases c1 : mIs (nI z) p = 0
  · rw [if_pos c1, if_pos ((has_is hz).mpr c1)]
  · rw [if_neg c1, if_neg (fun q => c1 ((has_is hz).mp q))]
    by_cases c2 : c < 0
    · rw [if_pos c2, if_pos c2]
    · rw [if_neg c2, if_neg c2]
      by_cases c3 : n < 0
      · rw [if_pos c3, if_pos (hn.mpr (Or.inl (by rw [i_lt, i0] at c3; exact c3)))]
      · rw [if_neg c3]
        by_cases c4 : 40 < n
        · rw [if_pos c4, if_pos (hn.mpr (Or.inr (by rw [i_lt, i40] at c4; exact c4)))]
        · rw [if_neg c4]
          rw [i_lt, i0] at c3
          rw [i_lt, i40] at c4
          rw [if_neg (c := mIn n.toInt64 0 40 = 0) (by rw [hn]; omega)]
          obtain ⟨j, hj, rfl⟩ := nI_of (x := n) (by rw [i_lt, i0]; omega)
          rw [nI_toInt hj] at c3 c4
          have hk := mIn_iff k 0 (nI j - 1).toInt64
          have em : (nI j - 1).toInt64.toInt = (j : Int) - 1 := by
            rw [i2l_toInt]
            exact pk_sub_toInt (a := j) (b := 1) (by omega) (by decide)
          rw [e0, em] at hk
          have hs : ((2147483647 : Int64) < c.toInt64 + (nI j).toInt64) ↔ ¬ c ≤ 2147483647 - nI j := by
            rw [l_lt, l_add32, eM, nI_toInt hj, i_le, i_subM hj]
            omega
          by_cases c5 : k < 0
          · rw [if_pos c5]
            rw [i_lt, i0] at c5
            by_cases c6 : (2147483647 : Int64) < c.toInt64 + (nI j).toInt64
            · rw [if_pos c6]
            · rw [if_neg c6, if_pos (hk.mpr (Or.inl c5))]
          · rw [if_neg c5]
            rw [i_lt, i0] at c5
            by_cases c6 : k < nI j
            · rw [if_pos c6]
              rw [i_lt, nI_toInt hj] at c6
              by_cases c7 : c ≤ 2147483647 - nI j
              · rw [if_pos c7, if_neg (fun q => hs.mp q c7), if_neg (c := mIn k.toInt64 0 (nI j - 1).toInt64 = 0) (by rw [hk]; omega)]
                unfold fPermD mPermA
                rw [nI_clamp hj, key_eq hz hK c1, perm_eq (j - 1) (by omega)]
              · rw [if_neg c7, if_pos (hs.mpr c7)]
            · rw [if_neg c6]
              rw [i_lt, nI_toInt hj] at c6
              by_cases c7 : (2147483647 : Int64) < c.toInt64 + (nI j).toInt64
              · rw [if_pos c7]
              · rw [if_neg c7, if_pos (hk.mpr (Or.inr (by omega)))]
theorem skip_c {n : Int32} {pl : Int32} (h0 : ¬ n < 0) : (pl ≤ 2147483647 - n) ↔ (pl.toInt64 + n.toInt64 ≤ 2147483647) := by
  obtain ⟨j, hj, rfl⟩ := nI_of h0
  have eM : (2147483647 : Int64).toInt = 2147483647 := rfl
  rw [i_le, i_subM hj, l_le, l_add32, eM, nI_toInt hj]
  omega
/-! streams and what is kept, against the reference's rows -/
def okS (nc : Nat) (SA : Nat → Option Nat) (L : List Nat) (f : Nat → va_E) (Rn : Nat → Int64) (Po Pl Sp : Nat → Int32) : Prop := (∀ i, i < nc → ∃ a, SA i = some a ∧ a ∈ L ∧ f a = eSt (Rn i) (Po i) (Pl i) (Sp i)) ∧ ∀ i j, i < nc → j < nc → SA i = SA j → i = j
def okK (KA : Nat → Option Nat) (L : List Nat) (f : Nat → va_E) (Ik Ks Kp Kc : Nat → Int32) : Prop := (∀ k, k < 4 → (Ik k = 0 ∧ KA k = none) ∨ (¬ Ik k = 0 ∧ ∃ b, KA k = some b ∧ b ∈ L ∧ f b = eKp (Ks k) (Kp k) (Kc k))) ∧ ∀ j k, j < 4 → k < 4 → KA j = KA k → KA j = none ∨ j = k
theorem okS_set {nc i a : Nat} {SA : Nat → Option Nat} {L : List Nat} {f : Nat → va_E} {Rn : Nat → Int64} {Po Pl Sp Pl2 Sp2 : Nat → Int32} (h : okS nc SA L f Rn Po Pl Sp) (hi : i < nc) (ha : SA i = some a) (hp : ∀ j, j ≠ i → Pl2 j = Pl j) (hs : ∀ j, j ≠ i → Sp2 j = Sp j) : okS nc SA L (va_up f a (eSt (Rn i) (Po i) (Pl2 i) (Sp2 i))) Rn Po Pl2 Sp2 := by
  refine ⟨fun j hj => ?_, h.2⟩
  obtain ⟨a', h1, h2, h3⟩ := h.1 j hj
  by_cases e : j = i
  · subst e
    have : a' = a := Option.some.inj (h1.symm.trans ha)
    subst this
    exact ⟨a', h1, h2, va_up_self _ _ _⟩
  · have hne : a' ≠ a := fun q => e (h.2 j i hj hi (by rw [h1, ha, q]))
    exact ⟨a', h1, h2, by rw [va_up_ne _ _ hne, h3, hp j e, hs j e]⟩
theorem okS_pl {nc i a : Nat} {SA : Nat → Option Nat} {L : List Nat} {f : Nat → va_E} {Rn : Nat → Int64} {Po Pl Sp : Nat → Int32} {v : Int32} (h : okS nc SA L f Rn Po Pl Sp) (hi : i < nc) (ha : SA i = some a) : okS nc SA L (va_up f a (eSt (Rn i) (Po i) v (Sp i))) Rn Po (upd Pl i v) Sp := by
  have := okS_set (Pl2 := upd Pl i v) (Sp2 := Sp) h hi ha (fun j e => pk_un e) (fun _ _ => rfl)
  rw [pk_us] at this
  exact this
theorem okS_sp {nc i a : Nat} {SA : Nat → Option Nat} {L : List Nat} {f : Nat → va_E} {Rn : Nat → Int64} {Po Pl Sp : Nat → Int32} {v : Int32} (h : okS nc SA L f Rn Po Pl Sp) (hi : i < nc) (ha : SA i = some a) : okS nc SA L (va_up f a (eSt (Rn i) (Po i) (Pl i) v)) Rn Po Pl (upd Sp i v) := by
  have := okS_set (Pl2 := Pl) (Sp2 := upd Sp i v) h hi ha (fun _ _ => rfl) (fun j e => pk_un e)
  rw [pk_us] at this
  exact this
theorem okS_bk {nc i a : Nat} {SA : Nat → Option Nat} {L : List Nat} {f : Nat → va_E} {Rn : Nat → Int64} {Po Pl Sp : Nat → Int32} {v w : Int32} (h : okS nc SA L f Rn Po Pl Sp) (hi : i < nc) (ha : SA i = some a) : okS nc SA L (va_up f a (eSt (Rn i) (Po i) v w)) Rn Po (upd Pl i v) (upd Sp i w) := by
  have := okS_set (Pl2 := upd Pl i v) (Sp2 := upd Sp i w) h hi ha (fun j e => pk_un e) (fun j e => pk_un e)
  rw [pk_us, pk_us] at this
  exact this
theorem okK_st {KA : Nat → Option Nat} {L : List Nat} {f : Nat → va_E} {Ik Ks Kp Kc : Nat → Int32} {a : Nat} {xs : List Value} {e : va_E} (ha : f a = .inr (2, xs)) (h : okK KA L f Ik Ks Kp Kc) : okK KA L (va_up f a e) Ik Ks Kp Kc := by
  refine ⟨fun k hk => ?_, h.2⟩
  rcases h.1 k hk with h0 | ⟨h0, b, h1, h2, h3⟩
  · exact Or.inl h0
  · exact Or.inr ⟨h0, b, h1, h2, by rw [va_up_ne _ _ (ns_ne02 ha h3)]; exact h3⟩
theorem okS_kp {nc b : Nat} {SA : Nat → Option Nat} {L : List Nat} {f : Nat → va_E} {Rn : Nat → Int64} {Po Pl Sp : Nat → Int32} {ys : List Value} {e : va_E} (hb : f b = .inr (0, ys)) (h : okS nc SA L f Rn Po Pl Sp) : okS nc SA L (va_up f b e) Rn Po Pl Sp := by
  refine ⟨fun j hj => ?_, h.2⟩
  obtain ⟨a', h1, h2, h3⟩ := h.1 j hj
  exact ⟨a', h1, h2, by rw [va_up_ne _ _ (ns_ne02 h3 hb).symm]; exact h3⟩
theorem okK_set {KA : Nat → Option Nat} {L : List Nat} {f : Nat → va_E} {Ik Ks Kp Kc : Nat → Int32} {k0 b : Nat} {x y z w : Int32} (h : okK KA L f Ik Ks Kp Kc) (hk : k0 < 4) (hb : KA k0 = some b) (hbL : b ∈ L) (hw : ¬ w = 0) : okK KA L (va_up f b (eKp x y z)) (upd Ik k0 w) (upd Ks k0 x) (upd Kp k0 y) (upd Kc k0 z) := by
  refine ⟨fun k hk2 => ?_, h.2⟩
  by_cases e : k = k0
  · subst e
    rw [pk_us, pk_us, pk_us, pk_us]
    exact Or.inr ⟨hw, b, hb, hbL, va_up_self _ _ _⟩
  · rw [pk_un e, pk_un e, pk_un e, pk_un e]
    rcases h.1 k hk2 with h0 | ⟨h0, b', h1, h2, h3⟩
    · exact Or.inl h0
    · have hne : b' ≠ b := fun q => by
        rcases h.2 k k0 hk2 hk (by rw [h1, hb, q]) with q1 | q1
        · rw [h1] at q1; cases q1
        · exact e q1
      exact Or.inr ⟨h0, b', h1, h2, by rw [va_up_ne _ _ hne]; exact h3⟩
theorem okS_old {nc q : Nat} {SA : Nat → Option Nat} {L : List Nat} {f : Nat → va_E} {Rn : Nat → Int64} {Po Pl Sp : Nat → Int32} {e : va_E} (h : okS nc SA L f Rn Po Pl Sp) (hq : q ∉ L) : okS nc SA (L ++ [q]) (va_up f q e) Rn Po Pl Sp := by
  refine ⟨fun j hj => ?_, h.2⟩
  obtain ⟨a', h1, h2, h3⟩ := h.1 j hj
  exact ⟨a', h1, List.mem_append_left _ h2, by rw [va_up_ne _ _ (va_ne_mem h2 hq)]; exact h3⟩
theorem okK_old {KA : Nat → Option Nat} {L : List Nat} {f : Nat → va_E} {Ik Ks Kp Kc : Nat → Int32} {q : Nat} {e : va_E} (h : okK KA L f Ik Ks Kp Kc) (hq : q ∉ L) : okK KA (L ++ [q]) (va_up f q e) Ik Ks Kp Kc := by
  refine ⟨fun k hk => ?_, h.2⟩
  rcases h.1 k hk with h0 | ⟨h0, b, h1, h2, h3⟩
  · exact Or.inl h0
  · exact Or.inr ⟨h0, b, h1, List.mem_append_left _ h2, by rw [va_up_ne _ _ (va_ne_mem h2 hq)]; exact h3⟩
theorem okS_push {nc q : Nat} {SA : Nat → Option Nat} {L : List Nat} {f : Nat → va_E} {Rn : Nat → Int64} {Po Pl Sp : Nat → Int32} {rn : Int64} {po pl sp : Int32} (h : okS nc SA L f Rn Po Pl Sp) (hq : q ∉ L) : okS (nc + 1) (va_up SA nc (some q)) (L ++ [q]) (va_up f q (eSt rn po pl sp)) (vp_updL Rn nc rn) (upd Po nc po) (upd Pl nc pl) (upd Sp nc sp) := by
  have ho := okS_old (e := eSt rn po pl sp) h hq
  refine ⟨fun j hj => ?_, fun i j hi hj hij => ?_⟩
  · by_cases e : j = nc
    · subst e
      rw [pk_uLs, pk_us, pk_us, pk_us]
      exact ⟨q, va_up_self _ _ _, List.mem_append_right _ (List.mem_singleton.mpr rfl), va_up_self _ _ _⟩
    · rw [pk_uLn e, pk_un e, pk_un e, pk_un e]
      obtain ⟨a', h1, h2, h3⟩ := ho.1 j (by omega)
      exact ⟨a', by rw [va_up_ne _ _ e]; exact h1, h2, h3⟩
  · by_cases e1 : i = nc
    · by_cases e2 : j = nc
      · omega
      · exfalso
        subst e1
        rw [va_up_self, va_up_ne _ _ e2] at hij
        obtain ⟨a', h1, h2, -⟩ := h.1 j (by omega)
        rw [h1] at hij
        exact hq (Option.some.inj hij ▸ h2)
    · by_cases e2 : j = nc
      · exfalso
        subst e2
        rw [va_up_self, va_up_ne _ _ e1] at hij
        obtain ⟨a', h1, h2, -⟩ := h.1 i (by omega)
        rw [h1] at hij
        exact hq (Option.some.inj hij ▸ h2)
      · rw [va_up_ne _ _ e1, va_up_ne _ _ e2] at hij
        exact h.2 i j (by omega) (by omega) hij
theorem okK_new {KA : Nat → Option Nat} {L : List Nat} {f : Nat → va_E} {Ik Ks Kp Kc : Nat → Int32} {k0 q : Nat} {x y z w : Int32} (h : okK KA L f Ik Ks Kp Kc) (hk : k0 < 4) (hq : q ∉ L) (hw : ¬ w = 0) : okK (va_up KA k0 (some q)) (L ++ [q]) (va_up f q (eKp x y z)) (upd Ik k0 w) (upd Ks k0 x) (upd Kp k0 y) (upd Kc k0 z) := by
  have ho := okK_old (e := eKp x y z) h hq
  have hf : ∀ k, k < 4 → KA k = some q → False := fun k hk2 e => by
    rcases h.1 k hk2 with h0 | ⟨-, b, h1, h2, -⟩
    · rw [h0.2] at e; cases e
    · rw [h1] at e; exact hq (Option.some.inj e ▸ h2)
  refine ⟨fun k hk2 => ?_, fun i j hi hj hij => ?_⟩
  · by_cases e : k = k0
    · subst e
      rw [pk_us, pk_us, pk_us, pk_us]
      exact Or.inr ⟨hw, q, va_up_self _ _ _, List.mem_append_right _ (List.mem_singleton.mpr rfl), va_up_self _ _ _⟩
    · rw [pk_un e, pk_un e, pk_un e, pk_un e, va_up_ne _ _ e]
      exact ho.1 k hk2
  · by_cases e1 : i = k0
    · by_cases e2 : j = k0
      · exact Or.inr (e1.trans e2.symm)
      · exfalso
        rw [e1, va_up_self, va_up_ne _ _ e2] at hij
        exact hf j hj hij.symm
    · by_cases e2 : j = k0
      · exfalso
        rw [e2, va_up_self, va_up_ne _ _ e1] at hij
        exact hf i hi hij
      · rw [va_up_ne _ _ e1, va_up_ne _ _ e2] at hij
        rw [va_up_ne _ _ e1]
        exact h.2 i j hi hj hij
theorem okS_at {nc : Nat} {SA : Nat → Option Nat} {L : List Nat} {f : Nat → va_E} {Rn : Nat → Int64} {Po Pl Sp : Nat → Int32} (i : Int32) (hn : nc ≤ 8) (h : okS nc SA L f Rn Po Pl Sp) : (mIs (nI nc) i = 0 ∧ fAt (nI nc) SA i = none) ∨ (¬ mIs (nI nc) i = 0 ∧ ∃ (j a : Nat), j < nc ∧ i = nI j ∧ SA j = some a ∧ fAt (nI nc) SA i = some a ∧ a ∈ L ∧ f a = eSt (Rn j) (Po j) (Pl j) (Sp j)) := by
  have hm := mIs_iff (z := nc) (p := i) (by omega)
  have e0 : (0 : Int32).toInt = 0 := rfl
  unfold fAt
  by_cases c1 : i < 0
  · rw [if_pos c1]
    rw [i_lt, e0] at c1
    exact Or.inl ⟨hm.mpr (Or.inl c1), rfl⟩
  · rw [if_neg c1]
    by_cases c2 : i < nI nc
    · rw [if_pos c2]
      obtain ⟨j, hj, rfl⟩ := nI_of c1
      have hjn : j < nc := (nI_ltI hj (by omega)).mp c2
      obtain ⟨a, h1, h2, h3⟩ := h.1 j hjn
      refine Or.inr ⟨?_, j, a, hjn, rfl, h1, by rw [nI_clamp hj]; exact h1, h2, h3⟩
      rw [hm, nI_toInt hj]
      omega
    · rw [if_neg c2]
      rw [i_lt, e0] at c1
      rw [i_lt, nI_toInt (by omega)] at c2
      exact Or.inl ⟨hm.mpr (Or.inr (by omega)), rfl⟩
