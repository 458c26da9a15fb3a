/-! THE CLAIM OUT OF ONE WALK OF THE LAW'S BODY. Your part is whole_start (and what it stands on); all else here is the same for every law, but numbers. -/
def R_law : String := "NamedStreamsLaw"
def lw_P (b : Addr) (xs : List Int32) (args : Array Value) (s : State) : Prop := args = #[.ref b] ∧ s.IntsAt b xs ∧ xs.length ≤ 4609 ∧ (Jvm.Cond.and given_1 narrow_1).before args s = true
def lw_Q (_ : Array Value) (s : State) (o : Outcome) (t : State) : Prop := o = .returned (some (.int 1)) ∧ Framed s o t [] 726897 6921558
def lw_Z (below : List Frame) (a : Array Value) (s : State) : State → Prop := fun t => ∃ o, t.status = .running ∧ Ended t below o ∧ lw_Q a s o t
/-- the law's own end, with 1 on the stack, nothing written that was there before, its room as the claim has it -/
theorem lw_ret {p : Program} {l : Launch} {e : Env} {s : State} {m : MethodId} {below : List Frame} {meth : Method} {c : Code} {b : Nat} (hx : p.tables.exec = Jvm.exec) (hb : c.code = code) (hr : meth.sig.returnType = ret) (hlocks : meth.locks = false) {pc : Nat} {H : Heap} {ls : Array Slot} (hdg : decode code pc = .ok (.ireturn, 1)) : W p l e room_1 s m #[Value.ref b] below meth c H [] 726897 6921558 (lw_Z below #[Value.ref b] s) (F0 m pc ls [.int 1]) := by
  intro T hT X
  obtain ⟨fs, hret, hrun, hended, hW, hframe⟩ := X.leave (v := some (.int 1)) (hlocks := hlocks) (fun h => by rw [hr] at h; cases h)
  have hmeth' : T.vm.method? m = some meth := X.method'
  refine ⟨T.setFrames fs, ?_, .returned (some (.int 1)), hrun, hended, rfl, ⟨_, rfl⟩, hW, hframe⟩
  jvm_step X.here [X.here.top, hx, hb, hdg, hmeth', hr, ret, narrow_b1]
  (try refine ⟨rfl, ?_⟩); (try refine ⟨rfl, ?_⟩)
  first | (intro acts; rw [hret _ acts rfl rfl rfl]) | rw [hret _ _ rfl rfl rfl]
  exact Steps.refl _
/-- what holds at the law's entry: the machine, the code, the tables' words (any of lw_tbl by 'hts w (by decide +kernel)'), the script of L ints xs at the cell b, what the Statement gives of the start (any of its parts by flat_of_before) -/
def lw_At (p : Program) (s : State) (m : MethodId) (meth : Method) (c : Code) (b L : Nat) (xs : Nat → Int32) : Prop :=
  p.tables.exec = Jvm.exec ∧ c.code = code ∧ meth.sig.returnType = ret ∧ c.maxLocals = 4 ∧ s.vm.findClass R_law = some m.cls ∧ (∀ w ∈ lw_tbl, w.before #[Value.ref b] s = true) ∧ va_X b L xs s s.heap ∧ b < s.heap.size ∧ meth.locks = false ∧ (Jvm.Cond.and given_1 narrow_1).before #[Value.ref b] s = true
set_option maxHeartbeats 1000000 in
set_option maxRecDepth 100000 in
theorem mL_cell (l : Launch) (b L : Nat) (xs : Nat → Int32) (k0 : Int32) (h0 : ¬ k0 < 0) (hL : L ≤ 4609) : Met l yL_cell wsL_cell ({ frames := 0, cells := 0, slots := 0, locals := 0 }) (va_Pc [.ref b, .int k0] (fun U => va_X b L xs U U.heap ∧ b < U.heap.size)) (vp_Si (fun r => r = if nI L ≤ k0 then 0 else xs k0.toNatClampNeg)) 0 0 (fun _ => False) := by
  refine Met.ofW (cc := cL_cell) (maxL := 2) (ret := (some .int)) (by decide) rfl ?_
  intro p e s m args below meth c s₁ B hml hv
  obtain ⟨rfl, hX, hbl⟩ := hv
  have hx := B.exec
  have hb := B.bytes
  have hr := B.returns
  have hlocks := B.notSynchronized
  have hS : va_S (fun _ => False) s.heap s.heap [] := va_S.rf
  have hl := lv_entry [.ref b, .int k0] (n := 2) (Nat.le_of_ble_eq_true rfl)
  rw [lg_entry_eq]
  generalize (lg_sl [.ref b, .int k0] ++ List.replicate (2 - (lg_sl [.ref b, .int k0]).length) Slot.unset).toArray = ls at hl ⊢
  have hl : lv_has ls 2 [(0, .ref b), (1, .int k0)] := hl
  refine lv_iload_n hx hb dL_cell_0 rfl (lv_at hl 1 rfl) ?_
  refine lv_aload_n hx hb dL_cell_1 rfl (lv_at hl 0 rfl) ?_
  refine va_slen hx hb hX hbl (fun h => h) hS dL_cell_2 ?_
  refine lv_icmp_ge (tgt := 12) hx hb dL_cell_3 (by decide) (fun c3 => ?_) (fun c3 => ?_)
  · refine lv_iconst (v := 0) hx hb dL_cell_12 (by decide) ?_
    exact nk_endI hx hb hr hlocks dL_cell_13 (if_pos c3).symm
  · refine lv_aload_n hx hb dL_cell_6 rfl (lv_at hl 0 rfl) ?_
    refine lv_iload_n hx hb dL_cell_7 rfl (lv_at hl 1 rfl) ?_
    refine va_sld hx hb hX hbl (fun h => h) hS (by
      obtain ⟨j, hj, rfl⟩ := nI_of h0
      exact vp_in_nI ((nI_ltI hj (by omega)).mp (Int32.not_le.mp c3)) (by omega)) dL_cell_8 ?_
    refine lv_goto (tgt := 13) hx hb dL_cell_9 (by decide) ?_
    exact nk_endI hx hb hr hlocks dL_cell_13 (if_neg c3).symm
set_option maxHeartbeats 2000000 in
set_option maxRecDepth 100000 in
/-- the law's loop -/
theorem law_loop {p : Program} {l : Launch} {e : Env} {s : State} {m : MethodId} {below : List Frame} {meth : Method} {c : Code} {b L : Nat} {xs : Nat → Int32} {D : va_G} {ad bd : Nat → Nat} {ca cb : Nat → ClassId} (hL : L ≤ 4609) (C0 : lw_At p s m meth c b L xs) (hKc : nkK D (tC ca) s) (hKm : nkK D (tM cb) s) :
    ∀ (n i : Nat), 513 ≤ i + n → i ≤ 512 → ∀ (H : Heap) (locs : List Loc), LR (fun q : Nat => s.heap.size ≤ q) D ad ca bd cb H → va_S (fun q : Nat => s.heap.size ≤ q) s.heap H locs → ∀ ls : Array Slot, lv_has ls 4 [(0, .ref b), (1, .ref (ad 0)), (2, .ref (bd 0)), (3, .int (nI (1 + 9 * i)))] → W p l e room_1 s m #[Value.ref b] below meth c H locs (100 + i) (1000 + 4 * i) (lw_Z below #[Value.ref b] s) (F0 m 30 ls []) := by
  obtain ⟨hx, hb, hr, hml, hown, hts0, hX, hbl, hlocks, hgv⟩ := C0
  have hA : ∀ q : Nat, s.heap.size ≤ q → (fun q : Nat => s.heap.size ≤ q) q := fun _ h => h
  have hbA : ¬ (fun q : Nat => s.heap.size ≤ q) b := Nat.not_le.mpr hbl
  have hts : ∀ w ∈ wsL_law, w.before #[Value.ref b] s = true := fun w h => hts0 w (wsL_law_in w h)
  have hown : s.vm.findClass RL = some m.cls := hown
  have hb : c.code = cL_law := hb
  have k21 := hts (.constantLong RL 21 (4294967295)) (by decide +kernel)
  have F : CallFix p m c cL_law 4 s #[Value.ref b] wsL_law RL := ⟨hx, hb, hml, hown, hts⟩
  intro n
  induction n with
  | zero =>
    intro i h1 h2
    exact absurd h1 (by omega)
  | succ n ih =>
    intro i hin hi5 H locs hLR hS ls hl
    refine lv_iload_n hx hb dL_law_30 rfl (lv_at hl 3 rfl) ?_
    refine lv_aload_n hx hb dL_law_31 rfl (lv_at hl 0 rfl) ?_
    refine va_slen hx hb hX hbl hbA hS dL_law_32 ?_
    refine lv_bipush (v := 9) hx hb dL_law_33 (by decide) ?_
    refine lv_isub hx hb dL_law_35 ?_
    refine lv_icmp_gt (tgt := 1233) hx hb dL_law_36 (by decide) (fun c36 => ?_) (fun c36 => ?_)
    · skip
      refine lv_iconst (v := 1) hx hb dL_law_1233 (by decide) ?_
      refine va_forget (fun q hq => hS.2.2 q hq) ?_
      refine W.widen (k := 726897) (n := 6921558) (by omega) (by omega) ?_
      exact lw_ret hx hb hr hlocks dL_law_1234
    · skip
      have hi : 10 + 9 * i ≤ L := lw_more hi5 hL c36
      have kk : ∀ (H1 : Heap) (locs1 : List Loc), LR (fun q : Nat => s.heap.size ≤ q) D ad ca bd cb H1 → va_S (fun q : Nat => s.heap.size ≤ q) s.heap H1 locs1 → W p l e room_1 s m #[Value.ref b] below meth c H1 locs1 (100 + i + 1) (1000 + 4 * i + 4) (lw_Z below #[Value.ref b] s) (F0 m 1227 ls []) := by
        intro H locs hLR hS
        obtain ⟨x9, ex9⟩ : ∃ y : Int32, y = nI (1 + 9 * i) + 9 := ⟨_, rfl⟩
        refine lv_iinc (v := x9) (lv' := [(3, .int x9), (0, .ref b), (1, .ref (ad 0)), (2, .ref (bd 0))]) hx hb dL_law_1227 hl (k := 3) rfl (by rw [ex9]; rfl) (by decide) rfl (fun ls hl => ?_)
        refine lv_goto (tgt := 30) hx hb dL_law_1230 (by decide) ?_
        have e9 : x9 = nI (1 + 9 * (i + 1)) := by rw [ex9]; exact nI_add (1 + 9 * i) 9
        subst e9
        refine W.cs (cells' := 100 + (i + 1)) (slots' := 1000 + 4 * (i + 1)) (by omega) (by omega) ?_
        exact ih (i + 1) (by omega) (by omega) H locs hLR hS ls (lv_sub hl [1, 2, 3, 0] rfl)
      refine lv_aload_n hx hb dL_law_39 rfl (lv_at hl 0 rfl) ?_
      refine lv_iload_n hx hb dL_law_40 rfl (lv_at hl 3 rfl) ?_
      refine va_sld hx hb hX hbl hbA hS (vp_in_nI (by omega) (by omega)) dL_law_41 ?_
      refine lv_bipush (v := 31) hx hb dL_law_42 (by decide) ?_
      refine lv_iand hx hb dL_law_44 ?_
      refine lv_topi (fun z ez => ?_)
      by_cases z0 : z = 0
      · skip
        refine lv_tableIn (tgt := 144) hx hb dL_law_45 (by rw [z0]; decide) (by rw [z0]; decide) (by rw [z0]; rfl) (by decide) ?_
        exact lc_0 F k21 hKc hKm hX hbl hbA hi hL hLR hS hA hl (by omega) (by omega) (by omega) (by omega) kk
      by_cases z1 : z = 1
      · skip
        refine lv_tableIn (tgt := 197) hx hb dL_law_45 (by rw [z1]; decide) (by rw [z1]; decide) (by rw [z1]; rfl) (by decide) ?_
        exact lc_1 F k21 hKc hKm hX hbl hbA hi hL hLR hS hA hl (by omega) (by omega) (by omega) (by omega) kk
      by_cases z2 : z = 2
      · skip
        refine lv_tableIn (tgt := 210) hx hb dL_law_45 (by rw [z2]; decide) (by rw [z2]; decide) (by rw [z2]; rfl) (by decide) ?_
        exact lc_2 F k21 hKc hKm hX hbl hbA hi hL hLR hS hA hl (by omega) (by omega) (by omega) (by omega) kk
      by_cases z3 : z = 3
      · skip
        refine lv_tableIn (tgt := 233) hx hb dL_law_45 (by rw [z3]; decide) (by rw [z3]; decide) (by rw [z3]; rfl) (by decide) ?_
        exact lc_3 F k21 hKc hKm hX hbl hbA hi hL hLR hS hA hl (by omega) (by omega) (by omega) (by omega) kk
      by_cases z4 : z = 4
      · skip
        refine lv_tableIn (tgt := 336) hx hb dL_law_45 (by rw [z4]; decide) (by rw [z4]; decide) (by rw [z4]; rfl) (by decide) ?_
        exact lc_4 F k21 hKc hKm hX hbl hbA hi hL hLR hS hA hl (by omega) (by omega) (by omega) (by omega) kk
      by_cases z5 : z = 5
      · skip
        refine lv_tableIn (tgt := 451) hx hb dL_law_45 (by rw [z5]; decide) (by rw [z5]; decide) (by rw [z5]; rfl) (by decide) ?_
        exact lc_5 F k21 hKc hKm hX hbl hbA hi hL hLR hS hA hl (by omega) (by omega) (by omega) (by omega) kk
      by_cases z6 : z = 6
      · skip
        refine lv_tableIn (tgt := 610) hx hb dL_law_45 (by rw [z6]; decide) (by rw [z6]; decide) (by rw [z6]; rfl) (by decide) ?_
        exact lc_6 F k21 hKc hKm hX hbl hbA hi hL hLR hS hA hl (by omega) (by omega) (by omega) (by omega) kk
      by_cases z7 : z = 7
      · skip
        refine lv_tableIn (tgt := 673) hx hb dL_law_45 (by rw [z7]; decide) (by rw [z7]; decide) (by rw [z7]; rfl) (by decide) ?_
        exact lc_7 F k21 hKc hKm hX hbl hbA hi hL hLR hS hA hl (by omega) (by omega) (by omega) (by omega) kk
      by_cases z8 : z = 8
      · skip
        refine lv_tableIn (tgt := 746) hx hb dL_law_45 (by rw [z8]; decide) (by rw [z8]; decide) (by rw [z8]; rfl) (by decide) ?_
        exact lc_8 F k21 hKc hKm hX hbl hbA hi hL hLR hS hA hl (by omega) (by omega) (by omega) (by omega) kk
      by_cases z9 : z = 9
      · skip
        refine lv_tableIn (tgt := 841) hx hb dL_law_45 (by rw [z9]; decide) (by rw [z9]; decide) (by rw [z9]; rfl) (by decide) ?_
        exact lc_9 F k21 hKc hKm hX hbl hbA hi hL hLR hS hA hl (by omega) (by omega) (by omega) (by omega) kk
      by_cases z10 : z = 10
      · skip
        refine lv_tableIn (tgt := 854) hx hb dL_law_45 (by rw [z10]; decide) (by rw [z10]; decide) (by rw [z10]; rfl) (by decide) ?_
        exact lc_10 F k21 hKc hKm hX hbl hbA hi hL hLR hS hA hl (by omega) (by omega) (by omega) (by omega) kk
      by_cases z11 : z = 11
      · skip
        refine lv_tableIn (tgt := 867) hx hb dL_law_45 (by rw [z11]; decide) (by rw [z11]; decide) (by rw [z11]; rfl) (by decide) ?_
        exact lc_11 F k21 hKc hKm hX hbl hbA hi hL hLR hS hA hl (by omega) (by omega) (by omega) (by omega) kk
      by_cases z12 : z = 12
      · skip
        refine lv_tableIn (tgt := 930) hx hb dL_law_45 (by rw [z12]; decide) (by rw [z12]; decide) (by rw [z12]; rfl) (by decide) ?_
        exact lc_12 F k21 hKc hKm hX hbl hbA hi hL hLR hS hA hl (by omega) (by omega) (by omega) (by omega) kk
      by_cases z13 : z = 13
      · skip
        refine lv_tableIn (tgt := 993) hx hb dL_law_45 (by rw [z13]; decide) (by rw [z13]; decide) (by rw [z13]; rfl) (by decide) ?_
        exact lc_13 F k21 hKc hKm hX hbl hbA hi hL hLR hS hA hl (by omega) (by omega) (by omega) (by omega) kk
      by_cases z14 : z = 14
      · skip
        refine lv_tableIn (tgt := 1016) hx hb dL_law_45 (by rw [z14]; decide) (by rw [z14]; decide) (by rw [z14]; rfl) (by decide) ?_
        exact lc_14 F k21 hKc hKm hX hbl hbA hi hL hLR hS hA hl (by omega) (by omega) (by omega) (by omega) kk
      by_cases z15 : z = 15
      · skip
        refine lv_tableIn (tgt := 1039) hx hb dL_law_45 (by rw [z15]; decide) (by rw [z15]; decide) (by rw [z15]; rfl) (by decide) ?_
        exact lc_15 F k21 hKc hKm hX hbl hbA hi hL hLR hS hA hl (by omega) (by omega) (by omega) (by omega) kk
      by_cases z16 : z = 16
      · skip
        refine lv_tableIn (tgt := 1072) hx hb dL_law_45 (by rw [z16]; decide) (by rw [z16]; decide) (by rw [z16]; rfl) (by decide) ?_
        exact lc_16 F k21 hKc hKm hX hbl hbA hi hL hLR hS hA hl (by omega) (by omega) (by omega) (by omega) kk
      by_cases z17 : z = 17
      · skip
        refine lv_tableIn (tgt := 1105) hx hb dL_law_45 (by rw [z17]; decide) (by rw [z17]; decide) (by rw [z17]; rfl) (by decide) ?_
        exact lc_17 F k21 hKc hKm hX hbl hbA hi hL hLR hS hA hl (by omega) (by omega) (by omega) (by omega) kk
      by_cases z18 : z = 18
      · skip
        refine lv_tableIn (tgt := 1128) hx hb dL_law_45 (by rw [z18]; decide) (by rw [z18]; decide) (by rw [z18]; rfl) (by decide) ?_
        exact lc_18 F k21 hKc hKm hX hbl hbA hi hL hLR hS hA hl (by omega) (by omega) (by omega) (by omega) kk
      by_cases z19 : z = 19
      · skip
        refine lv_tableIn (tgt := 1161) hx hb dL_law_45 (by rw [z19]; decide) (by rw [z19]; decide) (by rw [z19]; rfl) (by decide) ?_
        exact lc_19 F k21 hKc hKm hX hbl hbA hi hL hLR hS hA hl (by omega) (by omega) (by omega) (by omega) kk
      by_cases z20 : z = 20
      · skip
        refine lv_tableIn (tgt := 1204) hx hb dL_law_45 (by rw [z20]; decide) (by rw [z20]; decide) (by rw [z20]; rfl) (by decide) ?_
        exact lc_20 F k21 hKc hKm hX hbl hbA hi hL hLR hS hA hl (by omega) (by omega) (by omega) (by omega) kk
      refine lv_tableOut (tgt := 1227) hx hb dL_law_45 (ns_out21 z0 z1 z2 z3 z4 z5 z6 z7 z8 z9 z10 z11 z12 z13 z14 z15 z16 z17 z18 z19 z20) (by decide) ?_
      exact W.widen (k := 100 + i + 1) (n := 1000 + 4 * i + 4) (by omega) (by omega) (kk H locs hLR hS)
