theorem fNext_f {sd : Int64} {Ky : Nat → Int64} {n : Int64} {tr : Int32} {f : Nat → va_E} {a : Nat} {rn : Int64} {po pl sp : Int32} {r : Int64} {u1 : Int32} {u2 : Nat → va_E} (h : fNext sd Ky n tr f a rn po pl sp = (r, u1, u2)) : u2 = f ∨ u2 = va_up f a (eSt rn po (pl + 1) sp) := by
  unfold fNext at h
  by_cases c1 : n < 0
  · rw [if_pos c1] at h; cases h; exact Or.inl rfl
  · rw [if_neg c1] at h
    by_cases c2 : pl = 2147483647
    · rw [if_pos c2] at h; cases h; exact Or.inl rfl
    · rw [if_neg c2] at h
      by_cases c3 : n = 0
      · rw [if_pos c3] at h; cases h; exact Or.inl rfl
      · rw [if_neg c3] at h; exact Or.inr (congrArg (fun x => x.2.2) h).symm
theorem fNPick_f {sd : Int64} {Ky Wt : Nat → Int64} {tr : Int32} {f : Nat → va_E} {a : Nat} {rn : Int64} {po pl sp : Int32} {r u1 : Int32} {u2 : Nat → va_E} (h : fNPick sd Ky Wt tr f a rn po pl sp = (r, u1, u2)) : u2 = f ∨ u2 = va_up f a (eSt rn po (pl + 1) sp) := by
  unfold fNPick at h
  by_cases c1 : pl = 2147483647
  · rw [if_pos c1] at h; cases h; exact Or.inl rfl
  · rw [if_neg c1] at h
    by_cases c2 : (fPick (fBase sd rn (Ky po.toNatClampNeg)) (fFirst pl) Wt tr).1 = -4
    · rw [if_pos c2] at h; exact Or.inl (congrArg (fun x => x.2.2) h).symm
    · rw [if_neg c2] at h
      by_cases c3 : (fPick (fBase sd rn (Ky po.toNatClampNeg)) (fFirst pl) Wt tr).1 = -5
      · rw [if_pos c3] at h; exact Or.inl (congrArg (fun x => x.2.2) h).symm
      · rw [if_neg c3] at h; exact Or.inr (congrArg (fun x => x.2.2) h).symm
theorem fSkip_f {n : Int32} {f : Nat → va_E} {a : Nat} {rn : Int64} {po pl sp r : Int32} {u : Nat → va_E} (h : fSkip n f a rn po pl sp = (r, u)) : u = f ∨ u = va_up f a (eSt rn po (pl + n) sp) := by
  unfold fSkip at h
  by_cases c1 : n < 0
  · rw [if_pos c1] at h; cases h; exact Or.inl rfl
  · rw [if_neg c1] at h
    by_cases c2 : 1000000000 < n
    · rw [if_pos c2] at h; cases h; exact Or.inl rfl
    · rw [if_neg c2] at h
      by_cases c3 : pl ≤ 2147483647 - n
      · rw [if_pos c3] at h; exact Or.inr (congrArg (fun x => x.2) h).symm
      · rw [if_neg c3] at h; cases h; exact Or.inl rfl
theorem fHas_p {zz : Nat} {p : Int32} (h : ¬ fHas (nI zz) p = 0) (hz : zz ≤ 24) : ∃ pp, pp < zz ∧ p = nI pp := by
  obtain ⟨h1, h2⟩ := ns_has h
  obtain ⟨j, hj, rfl⟩ := nI_of (Int32.not_lt.mpr h1)
  exact ⟨j, (nI_ltI hj (by omega)).mp h2, rfl⟩
theorem fAt_nI {nc zz j : Nat} {SA : Nat → Option Nat} {L : List Nat} {f : Nat → va_E} (hn : nc ≤ 8) (h : vSt nc zz SA L f) (hj : j < nc) : ∃ (a : Nat) (rn : Int64) (pp : Nat) (pl sp : Int32), fAt (nI nc) SA (nI j) = some a ∧ a ∈ L ∧ pp < zz ∧ f a = eSt rn (nI pp) pl sp := by
  obtain ⟨a, rn, pp, pl, sp, h1, h2, h3, h4⟩ := h j hj
  refine ⟨a, rn, pp, pl, sp, ?_, h2, h3, h4⟩
  unfold fAt
  rw [if_neg (nI_pos (by omega)), if_pos (nI_lt hj (by omega)), nI_clamp (by omega)]
  exact h1
theorem spl_P {D : va_G} {ad : Nat → Nat} {ca : Nat → ClassId} {sd : Int64} {tc sc tr st pz : Int32} {T Wt : Nat → Int64} {O : Nat → Int32} {SA KA : Nat → Option Nat} {R : Nat → Int64} {Ln : Nat → Int32} {Ky Ch : Nat → Int64} {X : va_W} {L : List Nat} {g : Nat → va_E} {q : Nat} {rn : Int64} {x : Int32} {H : Heap} {j z : Nat} (hx : x = nI j) (hz : pz = nI z) (h : va_P D vwCl (wC ad ca sd tc sc tr st pz T Wt O SA KA R Ln Ky Ch (X ++ va_pl L (va_up g q (eSt rn x 0 0)))) H) : va_P D vwCl (wC ad ca sd tc sc tr st (nI z) T Wt O SA KA R Ln Ky Ch (X ++ va_pl L (va_up g q (eSt rn (nI j) 0 0)))) H := by
  subst hx
  subst hz
  exact h
theorem spl_D {A : Nat → Prop} {ad : Nat → Nat} {ca : Nat → ClassId} {sd : Int64} {tc sc tr st pz : Int32} {T Wt : Nat → Int64} {O : Nat → Int32} {SA KA : Nat → Option Nat} {R : Nat → Int64} {Ln : Nat → Int32} {Ky Ch : Nat → Int64} {X : va_W} {L : List Nat} {g : Nat → va_E} {q : Nat} {rn : Int64} {x : Int32} {j z : Nat} (hx : x = nI j) (hz : pz = nI z) (h : va_D A (wC ad ca sd tc sc tr st pz T Wt O SA KA R Ln Ky Ch (X ++ va_pl L (va_up g q (eSt rn x 0 0))))) : va_D A (wC ad ca sd tc sc tr st (nI z) T Wt O SA KA R Ln Ky Ch (X ++ va_pl L (va_up g q (eSt rn (nI j) 0 0)))) := by
  subst hx
  subst hz
  exact h
theorem mSplit_inv {P : Nat → Int64} {Mn : Nat → Int32} {T As Rn : Nat → Int64} {Po Pl Sp : Nat → Int32} {nc zz pp ll z' : Nat} {i r u5 u6 : Int32} {u1 u2 u3 u7 : Nat → Int64} {u4 u8 u9 u10 : Nat → Int32} (hw : mSplit P Mn T As Rn Po Pl Sp nc zz pp ll i = (r, u1, u2, (u3, u4, u5), (u6, u7, u8, u9, u10))) (hn : nc < 8)
    (h3 : (mTake P (mT1 P T Sp pp ll i) Mn zz (ll + 1)).2.2.2 = nI z') (h4 : vLn z' (mTake P (mT1 P T Sp pp ll i) Mn zz (ll + 1)).2.2.1) (h5 : (mTake P (mT1 P T Sp pp ll i) Mn zz (ll + 1)).1 = -2 ∨ ∃ j, j < z' ∧ (mTake P (mT1 P T Sp pp ll i) Mn zz (ll + 1)).1 = nI j) (hP : vPo nc z' Po) :
    u5 = nI z' ∧ vLn z' u4 ∧ ∃ n', nc ≤ n' ∧ n' ≤ 8 ∧ u6 = nI n' ∧ vPo n' z' u8 := by
  unfold mSplit at hw
  generalize mTake P (mT1 P T Sp pp ll i) Mn zz (ll + 1) = E at hw h3 h4 h5
  obtain ⟨e1, e3, e4, e5⟩ := E
  have h3 : e5 = nI z' := h3
  have h4 : vLn z' e4 := h4
  by_cases c : 0 ≤ e1
  · rw [if_pos c] at hw
    rcases h5 with h5 | ⟨j, hj, h5⟩
    · have h5 : e1 = -2 := h5
      rw [h5] at c
      exact absurd c (by decide)
    · have h5 : e1 = nI j := h5
      subst h5
      cases hw
      exact ⟨h3, h4, nc + 1, by omega, by omega, nI_1 nc, vPo_up (by omega) hP hj⟩
  · rw [if_neg c] at hw
    cases hw
    exact ⟨h3, h4, nc, Nat.le_refl _, by omega, rfl, hP⟩
