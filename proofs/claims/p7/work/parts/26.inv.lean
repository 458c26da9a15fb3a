/-! what stays true of the states: counts, lengths of rows, streams and what is kept -/
def vLn (zz : Nat) (Ln : Nat → Int32) : Prop := ∀ p, p < zz → ∃ ll, ll ≤ 4 ∧ Ln p = nI ll
def vSt (nc zz : Nat) (SA : Nat → Option Nat) (L : List Nat) (f : Nat → va_E) : Prop := ∀ i, i < nc → ∃ (a : Nat) (rn : Int64) (pp : Nat) (pl sp : Int32), SA i = some a ∧ a ∈ L ∧ pp < zz ∧ f a = eSt rn (nI pp) pl sp
def vKp (nc : Nat) (KA : Nat → Option Nat) (L : List Nat) (f : Nat → va_E) : Prop := ∀ k, k < 4 → KA k = none ∨ ∃ (b j : Nat) (pl sp : Int32), KA k = some b ∧ b ∈ L ∧ j < nc ∧ f b = eKp (nI j) pl sp
def vPo (nm zm : Nat) (Po : Nat → Int32) : Prop := ∀ i, i < nm → ∃ pp, pp < zm ∧ Po i = nI pp
def vKs (nm : Nat) (Ik Ks : Nat → Int32) : Prop := ∀ k, k < 4 → Ik k = 0 ∨ ∃ j, j < nm ∧ Ks k = nI j
theorem fPart_inv {tt : Nat} {T : Nat → Int64} {v : Int64} {r : Int32} {u : Int32 × (Nat → Int64)} (h : tt ≤ 4) (e : fPart (nI tt) T v = (r, u)) : ∃ t', t' ≤ 4 ∧ u.1 = nI t' := by
  unfold fPart at e
  by_cases c : nI tt < 4
  · rw [if_pos c] at e
    have := ns_lt_of (n := 4) c rfl (by omega) (by decide)
    cases e
    exact ⟨tt + 1, by omega, nI_1 tt⟩
  · rw [if_neg c] at e
    cases e
    exact ⟨tt, h, rfl⟩
theorem mPart_inv {tt : Nat} {T : Nat → Int64} {v : Int64} {r : Int32} {u : Int32 × (Nat → Int64)} (h : tt ≤ 4) (e : mPart tt T v = (r, u)) : ∃ t', t' ≤ 4 ∧ u.1 = nI t' := by
  unfold mPart at e
  by_cases c : nI tt = 4
  · rw [if_pos c] at e
    cases e
    exact ⟨tt, h, rfl⟩
  · rw [if_neg c] at e
    have := ns_neLt (n := 4) c rfl h (by decide)
    cases e
    exact ⟨tt + 1, by omega, nI_1 tt⟩
theorem vLn_up {z n : Nat} {Ln : Nat → Int32} (h : vLn z Ln) (hz : z < 24) (hn : n ≤ 4) : vLn (z + 1) (upd Ln (nI z).toNatClampNeg (nI n)) := by
  rw [nI_clamp (by omega)]
  intro p hp
  by_cases e : p = z
  · subst e; exact ⟨n, hn, pk_us⟩
  · obtain ⟨ll, h1, h2⟩ := h p (by omega)
    exact ⟨ll, h1, by rw [pk_un e]; exact h2⟩
/-- a path is entered: the number is FULL or one of the paths, which only grow -/
theorem fEntL_inv {Rw R : Nat → Int64} {Ln : Nat → Int32} {Ky : Nat → Int64} {z n : Nat} (hz : z ≤ 24) (hn : n ≤ 4) (hL : vLn z Ln) : ∀ k, k ≤ z → ∃ z', z ≤ z' ∧ z' ≤ 24 ∧ (fEntL Rw R Ln Ky z n k).2.2.2.2 = nI z' ∧ vLn z' (fEntL Rw R Ln Ky z n k).2.2.1 ∧ ((fEntL Rw R Ln Ky z n k).1 = -2 ∨ ∃ j, j < z' ∧ (fEntL Rw R Ln Ky z n k).1 = nI j) := by
  intro k
  induction k with
  | zero =>
    intro _
    rw [fEntL]
    by_cases c : nI z < 24
    · rw [if_pos c]
      have hz2 := ns_lt_of (n := 24) c rfl (by omega) (by decide)
      exact ⟨z + 1, by omega, by omega, nI_1 z, vLn_up hL hz2 hn, Or.inr ⟨z, by omega, rfl⟩⟩
    · rw [if_neg c]
      exact ⟨z, Nat.le_refl z, hz, rfl, hL, Or.inl rfl⟩
  | succ k ih =>
    intro hk
    rw [fEntL]
    by_cases c : fLike R Ln Rw (nI (z - (k + 1))) n = 0
    · rw [if_pos c]; exact ih (by omega)
    · rw [if_neg c]
      exact ⟨z, Nat.le_refl z, hz, rfl, hL, Or.inr ⟨z - (k + 1), by omega, rfl⟩⟩
theorem fPath_inv {T R : Nat → Int64} {Ln : Nat → Int32} {Ky : Nat → Int64} {z t : Nat} {r : Int32} {u : Int32 × sPth} (hz : z ≤ 24) (ht : t ≤ 4) (hL : vLn z Ln) (e : fPath T R Ln Ky z t = (r, u)) : ∃ t' z', t' ≤ 4 ∧ z ≤ z' ∧ z' ≤ 24 ∧ u.1 = nI t' ∧ u.2.2.2.2 = nI z' ∧ vLn z' u.2.2.1 := by
  obtain ⟨z', h1, h2, h3, h4, -⟩ := fEntL_inv (Rw := T) (R := R) (Ky := Ky) hz ht hL z (Nat.le_refl z)
  unfold fPath at e
  by_cases c1 : nI t = 0
  · rw [if_pos c1] at e; cases e
    exact ⟨t, z, ht, Nat.le_refl z, hz, rfl, rfl, hL⟩
  · rw [if_neg c1] at e
    by_cases c2 : (fEnt T R Ln Ky z t).1 = -2
    · rw [if_pos c2] at e; cases e
      exact ⟨t, z', ht, h1, h2, rfl, h3, h4⟩
    · rw [if_neg c2] at e; cases e
      exact ⟨0, z', by decide, h1, h2, rfl, h3, h4⟩
theorem fEntC_inv {R Ch : Nat → Int64} {Ln : Nat → Int32} {Ky : Nat → Int64} {z : Nat} {p : Int32} {n : Nat} {v : Int64} (hz : z ≤ 24) (hL : vLn z Ln) (hn : n ≤ 4) : ∃ z', z ≤ z' ∧ z' ≤ 24 ∧ (fEntC R Ch Ln Ky z p n v).2.2.2.2.2 = nI z' ∧ vLn z' (fEntC R Ch Ln Ky z p n v).2.2.2.1 ∧ ((fEntC R Ch Ln Ky z p n v).1 = -2 ∨ ∃ j, j < z' ∧ (fEntC R Ch Ln Ky z p n v).1 = nI j) := by
  unfold fEntC
  by_cases c : nI n < 4
  · rw [if_pos c]
    have := ns_lt_of (n := 4) c rfl (by omega) (by decide)
    exact fEntL_inv hz (by omega) hL z (Nat.le_refl z)
  · rw [if_neg c]
    exact ⟨z, Nat.le_refl z, hz, rfl, hL, Or.inl rfl⟩
theorem mLkO_in {P T : Nat → Int64} {Mn : Nat → Int32} {z t : Nat} : ∀ k, k ≤ z → ∃ j, j ≤ z ∧ mLkO P T Mn z t k = nI j := by
  intro k
  induction k with
  | zero => intro _; exact ⟨z, Nat.le_refl z, rfl⟩
  | succ k ih =>
    intro hk
    rw [mLkO]
    by_cases c : mLkI P T (nI (z - (k + 1))) t t (if Mn (nI (z - (k + 1))).toNatClampNeg = nI t then 1 else 0) = 0
    · rw [if_pos c]; exact ih (by omega)
    · rw [if_neg c]; exact ⟨z - (k + 1), by omega, rfl⟩
theorem mTake_inv {P T : Nat → Int64} {Mn : Nat → Int32} {z t : Nat} (hz : z ≤ 24) (ht : t ≤ 4) (hL : vLn z Mn) : ∃ z', z ≤ z' ∧ z' ≤ 24 ∧ (mTake P T Mn z t).2.2.2 = nI z' ∧ vLn z' (mTake P T Mn z t).2.2.1 ∧ ((mTake P T Mn z t).1 = -2 ∨ ∃ j, j < z' ∧ (mTake P T Mn z t).1 = nI j) := by
  obtain ⟨j, hj, ej⟩ := mLkO_in (P := P) (T := T) (Mn := Mn) (z := z) (t := t) z (Nat.le_refl z)
  have ej : mLk P T Mn z t = nI j := ej
  unfold mTake
  by_cases c1 : mLk P T Mn z t = 24
  · rw [if_pos c1]
    exact ⟨z, Nat.le_refl z, hz, rfl, hL, Or.inl rfl⟩
  · rw [if_neg c1]
    by_cases c2 : mLk P T Mn z t = nI z
    · rw [if_pos c2]
      have hz2 : z < 24 := ns_neLt (n := 24) (by rw [← c2]; exact c1) rfl hz (by decide)
      exact ⟨z + 1, by omega, by omega, nI_1 z, vLn_up hL hz2 ht, Or.inr ⟨z, by omega, rfl⟩⟩
    · rw [if_neg c2]
      have : j ≠ z := fun q => c2 (by rw [ej, q])
      exact ⟨z, Nat.le_refl z, hz, rfl, hL, Or.inr ⟨j, by omega, ej⟩⟩
theorem mPath_inv {P T : Nat → Int64} {Mn : Nat → Int32} {z t : Nat} {r : Int32} {u : Int32 × sMp} (hz : z ≤ 24) (ht : t ≤ 4) (hL : vLn z Mn) (e : mPath P T Mn z t = (r, u)) : ∃ t' z', t' ≤ 4 ∧ z ≤ z' ∧ z' ≤ 24 ∧ u.1 = nI t' ∧ u.2.2.2 = nI z' ∧ vLn z' u.2.2.1 := by
  obtain ⟨z', h1, h2, h3, h4, -⟩ := mTake_inv (P := P) (T := T) hz ht hL
  unfold mPath at e
  by_cases c1 : nI t = 0
  · rw [if_pos c1] at e; cases e
    exact ⟨t, z, ht, Nat.le_refl z, hz, rfl, rfl, hL⟩
  · rw [if_neg c1] at e
    by_cases c2 : 0 ≤ (mTake P T Mn z t).1
    · rw [if_pos c2] at e; cases e
      exact ⟨0, z', by decide, h1, h2, rfl, h3, h4⟩
    · rw [if_neg c2] at e; cases e
      exact ⟨t, z', ht, h1, h2, rfl, h3, h4⟩
theorem vSt.mono {nc zz z' : Nat} {SA : Nat → Option Nat} {L : List Nat} {f : Nat → va_E} (h : vSt nc zz SA L f) (hz : zz ≤ z') : vSt nc z' SA L f := fun i hi => by
  obtain ⟨a, rn, pp, pl, sp, h1, h2, h3, h4⟩ := h i hi
  exact ⟨a, rn, pp, pl, sp, h1, h2, by omega, h4⟩
theorem vPo.mono {nc zz z' : Nat} {Po : Nat → Int32} (h : vPo nc zz Po) (hz : zz ≤ z') : vPo nc z' Po := fun i hi => by
  obtain ⟨pp, h1, h2⟩ := h i hi
  exact ⟨pp, by omega, h2⟩
theorem vSt_upS {nc zz : Nat} {SA : Nat → Option Nat} {L : List Nat} {f : Nat → va_E} {a pp : Nat} {rn : Int64} {pl sp : Int32} (h : vSt nc zz SA L f) (hp : pp < zz) : vSt nc zz SA L (va_up f a (eSt rn (nI pp) pl sp)) := fun i hi => by
  obtain ⟨a', rn', pp', pl', sp', h1, h2, h3, h4⟩ := h i hi
  by_cases e : a' = a
  · subst e; exact ⟨a', rn, pp, pl, sp, h1, h2, hp, va_up_self _ _ _⟩
  · exact ⟨a', rn', pp', pl', sp', h1, h2, h3, by rw [va_up_ne _ _ e]; exact h4⟩
theorem vKp_upS {nc : Nat} {KA : Nat → Option Nat} {L : List Nat} {f : Nat → va_E} {a : Nat} {xs : List Value} {e : va_E} (ha : f a = .inr (2, xs)) (h : vKp nc KA L f) : vKp nc KA L (va_up f a e) := fun k hk => by
  rcases h k hk with h0 | ⟨b, j, pl, sp, h1, h2, h3, h4⟩
  · exact Or.inl h0
  · exact Or.inr ⟨b, j, pl, sp, h1, h2, h3, by rw [va_up_ne _ _ (ns_ne02 ha h4)]; exact h4⟩
theorem vSt_upK {nc zz : Nat} {SA : Nat → Option Nat} {L : List Nat} {f : Nat → va_E} {b : Nat} {ys : List Value} {e : va_E} (hb : f b = .inr (0, ys)) (h : vSt nc zz SA L f) : vSt nc zz SA L (va_up f b e) := fun i hi => by
  obtain ⟨a', rn', pp', pl', sp', h1, h2, h3, h4⟩ := h i hi
  exact ⟨a', rn', pp', pl', sp', h1, h2, h3, by rw [va_up_ne _ _ (ns_ne02 h4 hb).symm]; exact h4⟩
theorem vKp_upK {nc j : Nat} {KA : Nat → Option Nat} {L : List Nat} {f : Nat → va_E} {b : Nat} {pl sp : Int32} (hj : j < nc) (h : vKp nc KA L f) : vKp nc KA L (va_up f b (eKp (nI j) pl sp)) := fun k hk => by
  rcases h k hk with h0 | ⟨b', j', pl', sp', h1, h2, h3, h4⟩
  · exact Or.inl h0
  · by_cases e : b' = b
    · subst e; exact Or.inr ⟨b', j, pl, sp, h1, h2, hj, va_up_self _ _ _⟩
    · exact Or.inr ⟨b', j', pl', sp', h1, h2, h3, by rw [va_up_ne _ _ e]; exact h4⟩
theorem va_ne_mem {L : List Nat} {a q : Nat} (h : a ∈ L) (hq : q ∉ L) : a ≠ q := fun e => hq (e ▸ h)
theorem vSt_old {nc zz : Nat} {SA : Nat → Option Nat} {L : List Nat} {f : Nat → va_E} {q : Nat} {e : va_E} (h : vSt nc zz SA L f) (hq : q ∉ L) : vSt nc zz SA (L ++ [q]) (va_up f q e) := fun i hi => by
  obtain ⟨a', rn', pp', pl', sp', h1, h2, h3, h4⟩ := h i hi
  exact ⟨a', rn', pp', pl', sp', h1, List.mem_append_left _ h2, h3, by rw [va_up_ne _ _ (va_ne_mem h2 hq)]; exact h4⟩
theorem vSt_push {nc zz pp : Nat} {SA : Nat → Option Nat} {L : List Nat} {f : Nat → va_E} {q : Nat} {rn : Int64} {pl sp : Int32} (hn : nc ≤ 8) (h : vSt nc zz SA L f) (hq : q ∉ L) (hp : pp < zz) : vSt (nc + 1) zz (va_up SA (nI nc).toNatClampNeg (some q)) (L ++ [q]) (va_up f q (eSt rn (nI pp) pl sp)) := fun i hi => by
  rw [nI_clamp (by omega)]
  by_cases e : i = nc
  · subst e; exact ⟨q, rn, pp, pl, sp, va_up_self _ _ _, List.mem_append_right _ (List.mem_singleton.mpr rfl), hp, va_up_self _ _ _⟩
  · obtain ⟨a', rn', pp', pl', sp', h1, h2, h3, h4⟩ := vSt_old (e := eSt rn (nI pp) pl sp) h hq i (by omega)
    exact ⟨a', rn', pp', pl', sp', by rw [va_up_ne _ _ e]; exact h1, h2, h3, h4⟩
theorem vKp_push {nc n' : Nat} {KA : Nat → Option Nat} {L : List Nat} {f : Nat → va_E} {q : Nat} {e : va_E} (h : vKp nc KA L f) (hq : q ∉ L) (hn : nc ≤ n') : vKp n' KA (L ++ [q]) (va_up f q e) := fun k hk => by
  rcases h k hk with h0 | ⟨b', j', pl', sp', h1, h2, h3, h4⟩
  · exact Or.inl h0
  · exact Or.inr ⟨b', j', pl', sp', h1, List.mem_append_left _ h2, by omega, by rw [va_up_ne _ _ (va_ne_mem h2 hq)]; exact h4⟩
theorem vKp_new {nc j : Nat} {KA : Nat → Option Nat} {L : List Nat} {f : Nat → va_E} {q k0 : Nat} {pl sp : Int32} (h : vKp nc KA L f) (hq : q ∉ L) (hj : j < nc) : vKp nc (va_up KA k0 (some q)) (L ++ [q]) (va_up f q (eKp (nI j) pl sp)) := fun k hk => by
  by_cases e : k = k0
  · subst e; exact Or.inr ⟨q, j, pl, sp, va_up_self _ _ _, List.mem_append_right _ (List.mem_singleton.mpr rfl), hj, va_up_self _ _ _⟩
  · rcases vKp_push (e := eKp (nI j) pl sp) h hq (Nat.le_refl nc) k hk with h0 | ⟨b', j', pl', sp', h1, h2, h3, h4⟩
    · exact Or.inl (by rw [va_up_ne _ _ e]; exact h0)
    · exact Or.inr ⟨b', j', pl', sp', by rw [va_up_ne _ _ e]; exact h1, h2, h3, h4⟩
theorem fAt_or {nc zz : Nat} {SA : Nat → Option Nat} {L : List Nat} {f : Nat → va_E} (i : Int32) (hn : nc ≤ 8) (h : vSt nc zz SA L f) : fAt (nI nc) SA i = none ∨ ∃ (j a : Nat) (rn : Int64) (pp : Nat) (pl sp : Int32), j < nc ∧ i = nI j ∧ fAt (nI nc) SA i = some a ∧ a ∈ L ∧ pp < zz ∧ f a = eSt rn (nI pp) pl sp := by
  unfold fAt
  by_cases c1 : i < 0
  · exact Or.inl (if_pos c1)
  · by_cases c2 : i < nI nc
    · obtain ⟨j, hj, rfl⟩ := nI_of c1
      have hjn : j < nc := (nI_ltI hj (by omega)).mp c2
      obtain ⟨a, rn, pp, pl, sp, h1, h2, h3, h4⟩ := h j hjn
      exact Or.inr ⟨j, a, rn, pp, pl, sp, hjn, rfl, by rw [if_neg c1, if_pos c2, nI_clamp hj]; exact h1, h2, h3, h4⟩
    · exact Or.inl ((if_neg c1).trans (if_neg c2))
theorem k4 {k : Int32} (h1 : ¬ k < 0) (h2 : ¬ 4 ≤ k) : k.toNatClampNeg < 4 := by
  obtain ⟨j, hj, rfl⟩ := nI_of h1
  rw [nI_clamp hj]
  exact (nI_ltI hj (by decide)).mp (Int32.not_le.mp h2)
theorem mWp {zm : Nat} {Mn : Nat → Int32} {p : Int32} (hz : zm ≤ 24) (hL : vLn zm Mn) (h : ¬ mIs (nI zm) p = 0) : vp_in p 24 ∧ vp_in (Mn p.toNatClampNeg) 5 := by
  have h1 := mIs_in h hz
  obtain ⟨j, hj, rfl⟩ := vp_in_of h1 (by omega)
  obtain ⟨ll, h2, h3⟩ := hL j hj
  rw [nI_clamp (by omega), h3]
  exact ⟨vp_in_nI (by omega) (by decide), vp_in_nI (by omega) (by decide)⟩
theorem mWs {nm zm : Nat} {Mn Po : Nat → Int32} {i : Int32} (hn : nm ≤ 8) (hz : zm ≤ 24) (hL : vLn zm Mn) (hP : vPo nm zm Po) (h : ¬ mIs (nI nm) i = 0) : ∃ (j pp ll : Nat), j < nm ∧ i = nI j ∧ pp < zm ∧ Po i.toNatClampNeg = nI pp ∧ ll ≤ 4 ∧ Mn (nI pp).toNatClampNeg = nI ll := by
  have h1 := mIs_in h (by omega)
  obtain ⟨j, hj, rfl⟩ := vp_in_of h1 (by omega)
  obtain ⟨pp, h2, h3⟩ := hP j hj
  obtain ⟨ll, h4, h5⟩ := hL pp h2
  exact ⟨j, pp, ll, hj, rfl, h2, by rw [nI_clamp (by omega)]; exact h3, h4, by rw [nI_clamp (by omega)]; exact h5⟩
theorem mWs2 {nm zm : Nat} {Mn Po : Nat → Int32} {i : Int32} (hn : nm ≤ 8) (hz : zm ≤ 24) (hL : vLn zm Mn) (hP : vPo nm zm Po) (h : ¬ mIs (nI nm) i = 0) : vp_in (Po i.toNatClampNeg) 24 ∧ vp_in (Mn (Po i.toNatClampNeg).toNatClampNeg) 5 := by
  obtain ⟨j, pp, ll, -, -, h3, h4, h5, h6⟩ := mWs hn hz hL hP h
  rw [h4, h6]
  exact ⟨vp_in_nI (by omega) (by decide), vp_in_nI (by omega) (by decide)⟩
theorem vPo_up {nm zm pp : Nat} {Po : Nat → Int32} (hn : nm ≤ 8) (h : vPo nm zm Po) (hp : pp < zm) : vPo (nm + 1) zm (upd Po (nI nm).toNatClampNeg (nI pp)) := fun i hi => by
  rw [nI_clamp (by omega)]
  by_cases e : i = nm
  · subst e; exact ⟨pp, hp, pk_us⟩
  · obtain ⟨q, h1, h2⟩ := h i (by omega)
    exact ⟨q, h1, by rw [pk_un e]; exact h2⟩
theorem vKs.mono {nm n' : Nat} {Ik Ks : Nat → Int32} (h : vKs nm Ik Ks) (hn : nm ≤ n') : vKs n' Ik Ks := fun k hk => by
  rcases h k hk with h0 | ⟨j, h1, h2⟩
  · exact Or.inl h0
  · exact Or.inr ⟨j, by omega, h2⟩
theorem mOpen_inv {zm nm : Nat} {Rn : Nat → Int64} {Po Pl Sp : Nat → Int32} {r0 : Int64} {p0 r : Int32} {u : sBg} (hz : zm ≤ 24) (hn : nm ≤ 8) (hP : vPo nm zm Po) (e : mOpen (nI zm) (nI nm) Rn Po Pl Sp r0 p0 = (r, u)) : ∃ n', nm ≤ n' ∧ n' ≤ 8 ∧ u.1 = nI n' ∧ vPo n' zm u.2.2.1 := by
  unfold mOpen at e
  by_cases c1 : mIs (nI zm) p0 = 0
  · rw [if_pos c1] at e; cases e; exact ⟨nm, Nat.le_refl _, hn, rfl, hP⟩
  · rw [if_neg c1] at e
    by_cases c2 : nI nm = 8
    · rw [if_pos c2] at e; cases e; exact ⟨nm, Nat.le_refl _, hn, rfl, hP⟩
    · rw [if_neg c2] at e
      have h8 := ns_neLt (n := 8) c2 rfl hn (by decide)
      obtain ⟨pp, h3, rfl⟩ := vp_in_of (mIs_in c1 hz) (by omega)
      cases e
      exact ⟨nm + 1, by omega, by omega, nI_1 nm, vPo_up hn hP h3⟩
theorem mKeep_inv {nm : Nat} {Pl Sp Ik Ks Kp Kc : Nat → Int32} {k0 i0 r : Int32} {u : sKp} (hn : nm ≤ 8) (h : vKs nm Ik Ks) (e : mKeep (nI nm) Pl Sp Ik Ks Kp Kc k0 i0 = (r, u)) : vKs nm u.1 u.2.1 := by
  unfold mKeep at e
  by_cases c1 : mIn k0.toInt64 0 3 = 0
  · rw [if_pos c1] at e; cases e; exact h
  · rw [if_neg c1] at e
    by_cases c2 : mIs (nI nm) i0 = 0
    · rw [if_pos c2] at e; cases e; exact h
    · rw [if_neg c2] at e; cases e
      obtain ⟨j, h3, rfl⟩ := vp_in_of (mIs_in c2 (by omega)) (by omega)
      intro k hk
      by_cases q : k = k0.toNatClampNeg
      · subst q; exact Or.inr ⟨j, h3, pk_us⟩
      · rcases h k hk with h0 | ⟨j', h1, h2⟩
        · exact Or.inl (by show upd _ _ _ _ = _; rw [pk_un q]; exact h0)
        · exact Or.inr ⟨j', h1, by show upd _ _ _ _ = _; rw [pk_un q]; exact h2⟩
theorem mKs_in {nm : Nat} {Ik Ks : Nat → Int32} {k0 : Int32} (hn : nm ≤ 8) (h : vKs nm Ik Ks) (c1 : ¬ mIn k0.toInt64 0 3 = 0) (c2 : ¬ Ik k0.toNatClampNeg = 0) : vp_in (Ks k0.toNatClampNeg) 8 := by
  obtain ⟨k, hk, rfl⟩ := vp_in_of (mIn_in c1 (n := 4) (by decide)) (by decide)
  rw [nI_clamp (by omega)] at c2 ⊢
  rcases h k hk with h0 | ⟨j, h1, h2⟩
  · exact absurd h0 c2
  · rw [h2]; exact vp_in_nI (by omega) (by decide)
theorem counted_eq (b n i : Int32) : fCounted b n i = mCounted b n i := by
  have key : ∀ (x : Int32) (lo hi : Int64), (mIn x.toInt64 lo hi = 0) ↔ (x.toInt < lo.toInt ∨ hi.toInt < x.toInt) := by
    intro x lo hi
    unfold mIn
    by_cases h1 : x.toInt64 < lo
    · rw [if_pos h1]
      rw [Int64.lt_iff_toInt_lt, i2l_toInt] at h1
      exact ⟨fun _ => Or.inl h1, fun _ => rfl⟩
    · rw [if_neg h1]
      by_cases h2 : hi < x.toInt64
      · rw [if_pos h2]
        rw [Int64.lt_iff_toInt_lt, i2l_toInt] at h2
        exact ⟨fun _ => Or.inr h2, fun _ => rfl⟩
      · rw [if_neg h2]
        rw [Int64.lt_iff_toInt_lt, i2l_toInt] at h1 h2
        exact ⟨fun q => absurd q (by decide), fun q => by omega⟩
  unfold fCounted mCounted
  have e1 : (1 : Int64).toInt = 1 := rfl
  have e16 : (16 : Int64).toInt = 16 := rfl
  have e6 : (65536 : Int64).toInt = 65536 := rfl
  have e0 : (0 : Int64).toInt = 0 := rfl
  have i1 : (1 : Int32).toInt = 1 := rfl
  have i16 : (16 : Int32).toInt = 16 := rfl
  have i6 : (65536 : Int32).toInt = 65536 := rfl
  have i0 : (0 : Int32).toInt = 0 := rfl
  have kb := key b 1 16
  have kn := key n 1 65536
  rw [e1, e16] at kb
  rw [e1, e6] at kn
  by_cases a1 : b < 1
  · rw [if_pos a1, if_pos (kb.mpr (Or.inl (by rw [Int32.lt_iff_toInt_lt, i1] at a1; exact a1)))]
  · rw [if_neg a1]
    by_cases a2 : 16 < b
    · rw [if_pos a2, if_pos (kb.mpr (Or.inr (by rw [Int32.lt_iff_toInt_lt, i16] at a2; exact a2)))]
    · rw [if_neg a2, if_neg (c := mIn b.toInt64 1 16 = 0) (by rw [kb]; rw [Int32.lt_iff_toInt_lt, i1] at a1; rw [Int32.lt_iff_toInt_lt, i16] at a2; omega)]
      by_cases a3 : n < 1
      · rw [if_pos a3, if_pos (kn.mpr (Or.inl (by rw [Int32.lt_iff_toInt_lt, i1] at a3; exact a3)))]
      · rw [if_neg a3]
        by_cases a4 : 65536 < n
        · rw [if_pos a4, if_pos (kn.mpr (Or.inr (by rw [Int32.lt_iff_toInt_lt, i6] at a4; exact a4)))]
        · rw [if_neg a4, if_neg (c := mIn n.toInt64 1 65536 = 0) (by rw [kn]; rw [Int32.lt_iff_toInt_lt, i1] at a3; rw [Int32.lt_iff_toInt_lt, i6] at a4; omega)]
          rw [Int32.lt_iff_toInt_lt, i1] at a3
          rw [Int32.lt_iff_toInt_lt, i6] at a4
          obtain ⟨j, hj, rfl⟩ := nI_of (x := n) (by rw [Int32.lt_iff_toInt_lt, i0]; omega)
          rw [nI_toInt hj] at a3 a4
          have hp : nI j - 1 = nI (j - 1) := by rw [← nI_pred (j - 1), Nat.sub_add_cancel (by omega)]
          have ki := key i 0 (nI j - 1).toInt64
          rw [e0, i2l_toInt, hp, nI_toInt (by omega)] at ki
          rw [hp]
          by_cases a5 : i < 0
          · rw [if_pos a5, if_pos (ki.mpr (Or.inl (by rw [Int32.lt_iff_toInt_lt, i0] at a5; exact a5)))]
          · rw [if_neg a5]
            rw [Int32.lt_iff_toInt_lt, i0] at a5
            by_cases a6 : i < nI j
            · rw [if_pos a6, if_neg (by rw [ki]; rw [Int32.lt_iff_toInt_lt, nI_toInt hj] at a6; omega)]
            · rw [if_neg a6, if_pos (ki.mpr (by rw [Int32.lt_iff_toInt_lt, nI_toInt hj] at a6; omega))]
