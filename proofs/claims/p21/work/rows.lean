section
-- ===== PART A: goes FIRST, ahead of the names: the tables' words, and 'selects' of the private methods out of them =====
/-- a private method of a class that the tables say can be made, by its rows of tables_1 -/
def lw_okq (q : MethodName × Nat) : Prop := (q.1.cls ≠ "java/lang/invoke/MethodHandle" ∧ q.1.cls ≠ "java/lang/invoke/VarHandle") ∧ Cond.instantiable q.1.cls q.2 ∈ tables_1 ∧ Cond.privateMethod q.1 ∈ tables_1 ∧ Cond.instanceMethod q.1 ∈ tables_1
theorem lw_p0 : lw_okq (⟨"NamedStreams$Paths", "isLike", "(I[JI)Z"⟩, 5) := ⟨⟨by decide +kernel, by decide +kernel⟩, List.mem_of_getElem? (i := 15) (by decide +kernel), List.mem_of_getElem? (i := 91) (by decide +kernel), List.mem_of_getElem? (i := 92) (by decide +kernel)⟩
theorem lw_p1 : lw_okq (⟨"NamedStreams$Paths", "add", "([JI)I"⟩, 5) := ⟨⟨by decide +kernel, by decide +kernel⟩, List.mem_of_getElem? (i := 15) (by decide +kernel), List.mem_of_getElem? (i := 95) (by decide +kernel), List.mem_of_getElem? (i := 96) (by decide +kernel)⟩
theorem lw_p2 : lw_okq (⟨"NamedStreams", "baseOf", "(JI)J"⟩, 11) := ⟨⟨by decide +kernel, by decide +kernel⟩, List.mem_of_getElem? (i := 7) (by decide +kernel), List.mem_of_getElem? (i := 117) (by decide +kernel), List.mem_of_getElem? (i := 118) (by decide +kernel)⟩
theorem lw_p3 : lw_okq (⟨"NamedStreams", "drawSpan", "(JIIJ)J"⟩, 11) := ⟨⟨by decide +kernel, by decide +kernel⟩, List.mem_of_getElem? (i := 7) (by decide +kernel), List.mem_of_getElem? (i := 132) (by decide +kernel), List.mem_of_getElem? (i := 133) (by decide +kernel)⟩
theorem lw_p4 : lw_okq (⟨"NamedStreams", "drawFraction", "(JIIJJ)I"⟩, 11) := ⟨⟨by decide +kernel, by decide +kernel⟩, List.mem_of_getElem? (i := 7) (by decide +kernel), List.mem_of_getElem? (i := 152) (by decide +kernel), List.mem_of_getElem? (i := 153) (by decide +kernel)⟩
theorem lw_p5 : lw_okq (⟨"NamedStreams", "drawPick", "(JII)I"⟩, 11) := ⟨⟨by decide +kernel, by decide +kernel⟩, List.mem_of_getElem? (i := 7) (by decide +kernel), List.mem_of_getElem? (i := 164) (by decide +kernel), List.mem_of_getElem? (i := 165) (by decide +kernel)⟩
theorem lw_p6 : lw_okq (⟨"NamedStreams", "sumOfWeights", "()J"⟩, 11) := ⟨⟨by decide +kernel, by decide +kernel⟩, List.mem_of_getElem? (i := 7) (by decide +kernel), List.mem_of_getElem? (i := 168) (by decide +kernel), List.mem_of_getElem? (i := 169) (by decide +kernel)⟩
theorem lw_p7 : lw_okq (⟨"NamedStreams", "weightReaching", "(J)I"⟩, 11) := ⟨⟨by decide +kernel, by decide +kernel⟩, List.mem_of_getElem? (i := 7) (by decide +kernel), List.mem_of_getElem? (i := 173) (by decide +kernel), List.mem_of_getElem? (i := 174) (by decide +kernel)⟩
theorem lw_p8 : lw_okq (⟨"NamedStreams", "drawPermutation", "(JIII)Z"⟩, 11) := ⟨⟨by decide +kernel, by decide +kernel⟩, List.mem_of_getElem? (i := 7) (by decide +kernel), List.mem_of_getElem? (i := 182) (by decide +kernel), List.mem_of_getElem? (i := 183) (by decide +kernel)⟩
theorem lw_p9 : lw_okq (⟨"NamedStreams", "addStream", "(JI)I"⟩, 11) := ⟨⟨by decide +kernel, by decide +kernel⟩, List.mem_of_getElem? (i := 7) (by decide +kernel), List.mem_of_getElem? (i := 198) (by decide +kernel), List.mem_of_getElem? (i := 199) (by decide +kernel)⟩
theorem lw_p10 : lw_okq (⟨"NamedStreams", "streamAt", "(I)LNamedStreams$Stream;"⟩, 11) := ⟨⟨by decide +kernel, by decide +kernel⟩, List.mem_of_getElem? (i := 7) (by decide +kernel), List.mem_of_getElem? (i := 228) (by decide +kernel), List.mem_of_getElem? (i := 229) (by decide +kernel)⟩
theorem lw_p11 : lw_okq (⟨"NamedStreamsModel", "takePath", "()I"⟩, 21) := ⟨⟨by decide +kernel, by decide +kernel⟩, List.mem_of_getElem? (i := 292) (by decide +kernel), List.mem_of_getElem? (i := 371) (by decide +kernel), List.mem_of_getElem? (i := 372) (by decide +kernel)⟩
theorem lw_p12 : lw_okq (⟨"NamedStreamsModel", "likePath", "()I"⟩, 21) := ⟨⟨by decide +kernel, by decide +kernel⟩, List.mem_of_getElem? (i := 292) (by decide +kernel), List.mem_of_getElem? (i := 375) (by decide +kernel), List.mem_of_getElem? (i := 376) (by decide +kernel)⟩
theorem lw_p13 : lw_okq (⟨"NamedStreamsModel", "isPath", "(I)Z"⟩, 21) := ⟨⟨by decide +kernel, by decide +kernel⟩, List.mem_of_getElem? (i := 292) (by decide +kernel), List.mem_of_getElem? (i := 383) (by decide +kernel), List.mem_of_getElem? (i := 384) (by decide +kernel)⟩
theorem lw_p14 : lw_okq (⟨"NamedStreamsModel", "keyOf", "(I)J"⟩, 21) := ⟨⟨by decide +kernel, by decide +kernel⟩, List.mem_of_getElem? (i := 292) (by decide +kernel), List.mem_of_getElem? (i := 390) (by decide +kernel), List.mem_of_getElem? (i := 391) (by decide +kernel)⟩
theorem lw_p15 : lw_okq (⟨"NamedStreamsModel", "wordOf", "(JIJ)J"⟩, 21) := ⟨⟨by decide +kernel, by decide +kernel⟩, List.mem_of_getElem? (i := 292) (by decide +kernel), List.mem_of_getElem? (i := 404) (by decide +kernel), List.mem_of_getElem? (i := 405) (by decide +kernel)⟩
def lw_privs_1 : List (MethodName × Nat) := [(⟨"NamedStreams$Paths", "isLike", "(I[JI)Z"⟩, 5), (⟨"NamedStreams$Paths", "add", "([JI)I"⟩, 5), (⟨"NamedStreams", "baseOf", "(JI)J"⟩, 11), (⟨"NamedStreams", "drawSpan", "(JIIJ)J"⟩, 11), (⟨"NamedStreams", "drawFraction", "(JIIJJ)I"⟩, 11), (⟨"NamedStreams", "drawPick", "(JII)I"⟩, 11), (⟨"NamedStreams", "sumOfWeights", "()J"⟩, 11), (⟨"NamedStreams", "weightReaching", "(J)I"⟩, 11), (⟨"NamedStreams", "drawPermutation", "(JIII)Z"⟩, 11), (⟨"NamedStreams", "addStream", "(JI)I"⟩, 11), (⟨"NamedStreams", "streamAt", "(I)LNamedStreams$Stream;"⟩, 11), (⟨"NamedStreamsModel", "takePath", "()I"⟩, 21), (⟨"NamedStreamsModel", "likePath", "()I"⟩, 21), (⟨"NamedStreamsModel", "isPath", "(I)Z"⟩, 21), (⟨"NamedStreamsModel", "keyOf", "(I)J"⟩, 21), (⟨"NamedStreamsModel", "wordOf", "(JIJ)J"⟩, 21)]
theorem lw_r1 : ∀ q ∈ lw_privs_1, lw_okq q := List.forall_mem_cons.mpr ⟨lw_p0, List.forall_mem_cons.mpr ⟨lw_p1, List.forall_mem_cons.mpr ⟨lw_p2, List.forall_mem_cons.mpr ⟨lw_p3, List.forall_mem_cons.mpr ⟨lw_p4, List.forall_mem_cons.mpr ⟨lw_p5, List.forall_mem_cons.mpr ⟨lw_p6, List.forall_mem_cons.mpr ⟨lw_p7, List.forall_mem_cons.mpr ⟨lw_p8, List.forall_mem_cons.mpr ⟨lw_p9, List.forall_mem_cons.mpr ⟨lw_p10, List.forall_mem_cons.mpr ⟨lw_p11, List.forall_mem_cons.mpr ⟨lw_p12, List.forall_mem_cons.mpr ⟨lw_p13, List.forall_mem_cons.mpr ⟨lw_p14, List.forall_mem_cons.mpr ⟨lw_p15, fun _ h => absurd h List.not_mem_nil⟩⟩⟩⟩⟩⟩⟩⟩⟩⟩⟩⟩⟩⟩⟩⟩
theorem lw_p16 : lw_okq (⟨"NamedStreamsModel", "draw", "(JIIJ)J"⟩, 21) := ⟨⟨by decide +kernel, by decide +kernel⟩, List.mem_of_getElem? (i := 292) (by decide +kernel), List.mem_of_getElem? (i := 414) (by decide +kernel), List.mem_of_getElem? (i := 415) (by decide +kernel)⟩
theorem lw_p17 : lw_okq (⟨"NamedStreamsModel", "sum", "()J"⟩, 21) := ⟨⟨by decide +kernel, by decide +kernel⟩, List.mem_of_getElem? (i := 292) (by decide +kernel), List.mem_of_getElem? (i := 441) (by decide +kernel), List.mem_of_getElem? (i := 442) (by decide +kernel)⟩
theorem lw_p18 : lw_okq (⟨"NamedStreamsModel", "picked", "(JIIJ)I"⟩, 21) := ⟨⟨by decide +kernel, by decide +kernel⟩, List.mem_of_getElem? (i := 292) (by decide +kernel), List.mem_of_getElem? (i := 445) (by decide +kernel), List.mem_of_getElem? (i := 446) (by decide +kernel)⟩
theorem lw_p19 : lw_okq (⟨"NamedStreamsModel", "begin", "(JI)I"⟩, 21) := ⟨⟨by decide +kernel, by decide +kernel⟩, List.mem_of_getElem? (i := 292) (by decide +kernel), List.mem_of_getElem? (i := 467) (by decide +kernel), List.mem_of_getElem? (i := 468) (by decide +kernel)⟩
theorem lw_p20 : lw_okq (⟨"NamedStreamsModel", "isStream", "(I)Z"⟩, 21) := ⟨⟨by decide +kernel, by decide +kernel⟩, List.mem_of_getElem? (i := 292) (by decide +kernel), List.mem_of_getElem? (i := 475) (by decide +kernel), List.mem_of_getElem? (i := 476) (by decide +kernel)⟩
def lw_privs_2 : List (MethodName × Nat) := [(⟨"NamedStreamsModel", "draw", "(JIIJ)J"⟩, 21), (⟨"NamedStreamsModel", "sum", "()J"⟩, 21), (⟨"NamedStreamsModel", "picked", "(JIIJ)I"⟩, 21), (⟨"NamedStreamsModel", "begin", "(JI)I"⟩, 21), (⟨"NamedStreamsModel", "isStream", "(I)Z"⟩, 21)]
theorem lw_r2 : ∀ q ∈ lw_privs_2, lw_okq q := List.forall_mem_cons.mpr ⟨lw_p16, List.forall_mem_cons.mpr ⟨lw_p17, List.forall_mem_cons.mpr ⟨lw_p18, List.forall_mem_cons.mpr ⟨lw_p19, List.forall_mem_cons.mpr ⟨lw_p20, fun _ h => absurd h List.not_mem_nil⟩⟩⟩⟩⟩
def lw_privs : List (MethodName × Nat) := lw_privs_1 ++ (lw_privs_2)
def lw_tbl : List Cond := k2_sels lw_privs ++ tables_1
theorem lw_privs_ok : ∀ q ∈ lw_privs, lw_okq q := by
  show ∀ q ∈ lw_privs_1 ++ (lw_privs_2), lw_okq q
  exact List.forall_mem_append.mpr ⟨lw_r1, lw_r2⟩
theorem goodIn_r {big : List Cond} (ws : List Cond) (ps : List Nat) (hp : ws = ps.filterMap (fun i => big[i]?)) (h : ws.all goodWord = true) : GoodIn big ws := by
  intro w hw
  have h1 := List.all_eq_true.mp h w hw
  rw [hp] at hw
  obtain ⟨i, -, hi⟩ := List.mem_filterMap.mp hw
  have hm : w ∈ big := by first | exact List.mem_of_getElem? hi | exact List.getElem?_mem hi
  exact ⟨hm, good_of_word h1⟩
theorem goodIn_app {big a b : List Cond} (ha : GoodIn big a) (hb : GoodIn big b) : GoodIn big (a ++ b) := fun w h => (List.mem_append.mp h).elim (ha w) (hb w)
theorem goodIn_ca {big a b : List Cond} {c : Cond} (ha : GoodIn big (c :: a)) (hb : GoodIn big b) : GoodIn big (c :: (a ++ b)) := fun w h => (List.mem_cons.mp h).elim (fun e => ha w (List.mem_cons.mpr (Or.inl e))) (fun h => (List.mem_append.mp h).elim (fun h => ha w (List.mem_cons.mpr (Or.inr h))) (hb w))
theorem goodIn_sub {big ws : List Cond} (hm : ∀ w ∈ ws, w ∈ big) (h : ws.all goodWord = true) : GoodIn big ws := fun w hw => ⟨hm w hw, good_of_word (List.all_eq_true.mp h w hw)⟩

def RX0 : String := "NamedStreams$Kept"
def TX0 : u_T := fun k => match k with
  | 0 => ("NamedStreams$Kept", "stream", "I", false)
  | 1 => ("NamedStreams$Kept", "place", "I", false)
  | _ => ("NamedStreams$Kept", "splits", "I", false)
def tyX0 : Nat → FieldType := fun k => match k with
  | 0 => .int
  | 1 => .int
  | _ => .int
abbrev wsX00 : List Cond := u_ws RX0 TX0 3
theorem nmX0 : ∀ a, a < 3 → ∀ b, b < 3 → a ≠ b → (TX0 a).2.1 ≠ (TX0 b).2.1 := by decide +kernel
theorem tyX0_ok : ∀ k, k < 3 → parseFieldDescriptor (TX0 k).2.2.1 = some (tyX0 k) := by decide +kernel
abbrev cX0_init : ByteArray := prog_2_method_1_code
def yX0_init : MethodName := ⟨RX0, "<init>", "()V"⟩
def RX1 : String := "NamedStreams$Paths"
def TX1 : u_T := fun k => match k with
  | 0 => ("NamedStreams$Paths", "rows", "[J", true)
  | 1 => ("NamedStreams$Paths", "lengths", "[I", true)
  | 2 => ("NamedStreams$Paths", "keys", "[J", true)
  | 3 => ("NamedStreams$Paths", "child", "[J", true)
  | _ => ("NamedStreams$Paths", "size", "I", false)
def tyX1 : Nat → FieldType := fun k => match k with
  | 0 => .array .long
  | 1 => .array .int
  | 2 => .array .long
  | 3 => .array .long
  | _ => .int
abbrev wsX10 : List Cond := u_ws RX1 TX1 5
theorem nmX1 : ∀ a, a < 5 → ∀ b, b < 5 → a ≠ b → (TX1 a).2.1 ≠ (TX1 b).2.1 := by decide +kernel
theorem tyX1_ok : ∀ k, k < 5 → parseFieldDescriptor (TX1 k).2.2.1 = some (tyX1 k) := by decide +kernel
abbrev cX1_init : ByteArray := prog_3_method_1_code
def yX1_init : MethodName := ⟨RX1, "<init>", "()V"⟩
abbrev cX1_has : ByteArray := prog_3_method_2_code
def yX1_has : MethodName := ⟨RX1, "has", "(I)Z"⟩
abbrev cX1_enter : ByteArray := prog_3_method_3_code
def yX1_enter : MethodName := ⟨RX1, "enter", "([JI)I"⟩
abbrev cX1_enterChild : ByteArray := prog_3_method_4_code
def yX1_enterChild : MethodName := ⟨RX1, "enterChild", "(IJ)I"⟩
abbrev cX1_isLike : ByteArray := prog_3_method_5_code
def yX1_isLike : MethodName := ⟨RX1, "isLike", "(I[JI)Z"⟩
abbrev cX1_add : ByteArray := prog_3_method_6_code
def yX1_add : MethodName := ⟨RX1, "add", "([JI)I"⟩
def RX2 : String := "NamedStreams$Stream"
def TX2 : u_T := fun k => match k with
  | 0 => ("NamedStreams$Stream", "run", "J", true)
  | 1 => ("NamedStreams$Stream", "path", "I", true)
  | 2 => ("NamedStreams$Stream", "place", "I", false)
  | _ => ("NamedStreams$Stream", "splits", "I", false)
def tyX2 : Nat → FieldType := fun k => match k with
  | 0 => .long
  | 1 => .int
  | 2 => .int
  | _ => .int
abbrev wsX20 : List Cond := u_ws RX2 TX2 4
theorem nmX2 : ∀ a, a < 4 → ∀ b, b < 4 → a ≠ b → (TX2 a).2.1 ≠ (TX2 b).2.1 := by decide +kernel
theorem tyX2_ok : ∀ k, k < 4 → parseFieldDescriptor (TX2 k).2.2.1 = some (tyX2 k) := by decide +kernel
abbrev cX2_init : ByteArray := prog_4_method_1_code
def yX2_init : MethodName := ⟨RX2, "<init>", "(JI)V"⟩
def RX3 : String := "NamedStreams"
def TX3 : u_T := fun k => match k with
  | 0 => ("NamedStreams", "seed", "J", true)
  | 1 => ("NamedStreams", "toldParts", "[J", true)
  | 2 => ("NamedStreams", "toldCount", "I", false)
  | 3 => ("NamedStreams", "paths", "LNamedStreams$Paths;", true)
  | 4 => ("NamedStreams", "weights", "[J", true)
  | 5 => ("NamedStreams", "order", "[I", true)
  | 6 => ("NamedStreams", "streams", "[LNamedStreams$Stream;", true)
  | 7 => ("NamedStreams", "streamCount", "I", false)
  | 8 => ("NamedStreams", "kept", "[LNamedStreams$Kept;", true)
  | 9 => ("NamedStreams", "latestTries", "I", false)
  | _ => ("NamedStreams", "latestStatus", "I", false)
def tyX3 : Nat → FieldType := fun k => match k with
  | 0 => .long
  | 1 => .array .long
  | 2 => .int
  | 3 => .object "NamedStreams$Paths"
  | 4 => .array .long
  | 5 => .array .int
  | 6 => .array (.object "NamedStreams$Stream")
  | 7 => .int
  | 8 => .array (.object "NamedStreams$Kept")
  | 9 => .int
  | _ => .int
abbrev wsX30 : List Cond := u_ws RX3 TX3 11
theorem nmX3 : ∀ a, a < 11 → ∀ b, b < 11 → a ≠ b → (TX3 a).2.1 ≠ (TX3 b).2.1 := by decide +kernel
theorem tyX3_ok : ∀ k, k < 11 → parseFieldDescriptor (TX3 k).2.2.1 = some (tyX3 k) := by decide +kernel
abbrev cX3_init : ByteArray := prog_1_method_1_code
def yX3_init : MethodName := ⟨RX3, "<init>", "(J)V"⟩
abbrev cX3_part : ByteArray := prog_1_method_2_code
def yX3_part : MethodName := ⟨RX3, "part", "(J)I"⟩
abbrev cX3_path : ByteArray := prog_1_method_3_code
def yX3_path : MethodName := ⟨RX3, "path", "()I"⟩
abbrev cX3_key : ByteArray := prog_1_method_4_code
def yX3_key : MethodName := ⟨RX3, "key", "(I)J"⟩
abbrev cX3_word : ByteArray := prog_1_method_5_code
def yX3_word : MethodName := ⟨RX3, "word", "(JIJ)J"⟩
abbrev cX3_span : ByteArray := prog_1_method_6_code
def yX3_span : MethodName := ⟨RX3, "span", "(JIIJ)J"⟩
abbrev cX3_fraction : ByteArray := prog_1_method_7_code
def yX3_fraction : MethodName := ⟨RX3, "fraction", "(JIIJJ)I"⟩
abbrev cX3_weight : ByteArray := prog_1_method_8_code
def yX3_weight : MethodName := ⟨RX3, "weight", "(IJ)I"⟩
abbrev cX3_pick : ByteArray := prog_1_method_9_code
def yX3_pick : MethodName := ⟨RX3, "pick", "(JII)I"⟩
abbrev cX3_permuted : ByteArray := prog_1_method_10_code
def yX3_permuted : MethodName := ⟨RX3, "permuted", "(JIIII)I"⟩
abbrev cX3_tries : ByteArray := prog_1_method_11_code
def yX3_tries : MethodName := ⟨RX3, "tries", "()I"⟩
abbrev cX3_status : ByteArray := prog_1_method_12_code
def yX3_status : MethodName := ⟨RX3, "status", "()I"⟩
abbrev cX3_open : ByteArray := prog_1_method_13_code
def yX3_open : MethodName := ⟨RX3, "open", "(JI)I"⟩
abbrev cX3_next : ByteArray := prog_1_method_14_code
def yX3_next : MethodName := ⟨RX3, "next", "(IJ)J"⟩
abbrev cX3_nextPick : ByteArray := prog_1_method_15_code
def yX3_nextPick : MethodName := ⟨RX3, "nextPick", "(I)I"⟩
abbrev cX3_split : ByteArray := prog_1_method_16_code
def yX3_split : MethodName := ⟨RX3, "split", "(I)I"⟩
abbrev cX3_skip : ByteArray := prog_1_method_17_code
def yX3_skip : MethodName := ⟨RX3, "skip", "(II)I"⟩
abbrev cX3_keep : ByteArray := prog_1_method_18_code
def yX3_keep : MethodName := ⟨RX3, "keep", "(II)I"⟩
abbrev cX3_back : ByteArray := prog_1_method_19_code
def yX3_back : MethodName := ⟨RX3, "back", "(I)I"⟩
abbrev cX3_told : ByteArray := prog_1_method_20_code
def yX3_told : MethodName := ⟨RX3, "told", "(II)I"⟩
abbrev cX3_counted : ByteArray := prog_1_method_21_code
def yX3_counted : MethodName := ⟨RX3, "counted", "(III)I"⟩
abbrev cX3_count : ByteArray := prog_1_method_22_code
def yX3_count : MethodName := ⟨RX3, "count", "(I)I"⟩
abbrev cX3_mix : ByteArray := prog_1_method_23_code
def yX3_mix : MethodName := ⟨RX3, "mix", "(J)J"⟩
abbrev cX3_baseOf : ByteArray := prog_1_method_24_code
def yX3_baseOf : MethodName := ⟨RX3, "baseOf", "(JI)J"⟩
abbrev cX3_wordAt : ByteArray := prog_1_method_25_code
def yX3_wordAt : MethodName := ⟨RX3, "wordAt", "(JJ)J"⟩
abbrev cX3_firstCounter : ByteArray := prog_1_method_26_code
def yX3_firstCounter : MethodName := ⟨RX3, "firstCounter", "(I)J"⟩
abbrev cX3_belowUnsigned : ByteArray := prog_1_method_27_code
def yX3_belowUnsigned : MethodName := ⟨RX3, "belowUnsigned", "(JJ)Z"⟩
abbrev cX3_remainderUnsigned : ByteArray := prog_1_method_28_code
def yX3_remainderUnsigned : MethodName := ⟨RX3, "remainderUnsigned", "(JJ)J"⟩
abbrev cX3_drawSpan : ByteArray := prog_1_method_29_code
def yX3_drawSpan : MethodName := ⟨RX3, "drawSpan", "(JIIJ)J"⟩
abbrev cX3_drawFraction : ByteArray := prog_1_method_30_code
def yX3_drawFraction : MethodName := ⟨RX3, "drawFraction", "(JIIJJ)I"⟩
abbrev cX3_sumOfWeights : ByteArray := prog_1_method_31_code
def yX3_sumOfWeights : MethodName := ⟨RX3, "sumOfWeights", "()J"⟩
abbrev cX3_drawPick : ByteArray := prog_1_method_32_code
def yX3_drawPick : MethodName := ⟨RX3, "drawPick", "(JII)I"⟩
abbrev cX3_weightReaching : ByteArray := prog_1_method_33_code
def yX3_weightReaching : MethodName := ⟨RX3, "weightReaching", "(J)I"⟩
abbrev cX3_drawPermutation : ByteArray := prog_1_method_34_code
def yX3_drawPermutation : MethodName := ⟨RX3, "drawPermutation", "(JIII)Z"⟩
abbrev cX3_streamAt : ByteArray := prog_1_method_35_code
def yX3_streamAt : MethodName := ⟨RX3, "streamAt", "(I)LNamedStreams$Stream;"⟩
abbrev cX3_addStream : ByteArray := prog_1_method_36_code
def yX3_addStream : MethodName := ⟨RX3, "addStream", "(JI)I"⟩
def RX4 : String := "NamedStreamsModel"
def TX4 : u_T := fun k => match k with
  | 0 => ("NamedStreamsModel", "seed", "J", true)
  | 1 => ("NamedStreamsModel", "paths", "I", false)
  | 2 => ("NamedStreamsModel", "part", "[J", true)
  | 3 => ("NamedStreamsModel", "many", "[I", true)
  | 4 => ("NamedStreamsModel", "told", "[J", true)
  | 5 => ("NamedStreamsModel", "toldMany", "I", false)
  | 6 => ("NamedStreamsModel", "status", "I", false)
  | 7 => ("NamedStreamsModel", "tries", "I", false)
  | 8 => ("NamedStreamsModel", "weights", "[J", true)
  | 9 => ("NamedStreamsModel", "streams", "I", false)
  | 10 => ("NamedStreamsModel", "run", "[J", true)
  | 11 => ("NamedStreamsModel", "pathOf", "[I", true)
  | 12 => ("NamedStreamsModel", "place", "[I", true)
  | 13 => ("NamedStreamsModel", "splits", "[I", true)
  | 14 => ("NamedStreamsModel", "keptStream", "[I", true)
  | 15 => ("NamedStreamsModel", "keptPlace", "[I", true)
  | 16 => ("NamedStreamsModel", "keptSplits", "[I", true)
  | 17 => ("NamedStreamsModel", "isKept", "[Z", true)
  | 18 => ("NamedStreamsModel", "isGreat", "Z", false)
  | 19 => ("NamedStreamsModel", "order", "[I", true)
  | _ => ("NamedStreamsModel", "aside", "[J", true)
def tyX4 : Nat → FieldType := fun k => match k with
  | 0 => .long
  | 1 => .int
  | 2 => .array .long
  | 3 => .array .int
  | 4 => .array .long
  | 5 => .int
  | 6 => .int
  | 7 => .int
  | 8 => .array .long
  | 9 => .int
  | 10 => .array .long
  | 11 => .array .int
  | 12 => .array .int
  | 13 => .array .int
  | 14 => .array .int
  | 15 => .array .int
  | 16 => .array .int
  | 17 => .array .boolean
  | 18 => .boolean
  | 19 => .array .int
  | _ => .array .long
abbrev wsX40 : List Cond := u_ws RX4 TX4 21
theorem nmX4 : ∀ a, a < 21 → ∀ b, b < 21 → a ≠ b → (TX4 a).2.1 ≠ (TX4 b).2.1 := by decide +kernel
theorem tyX4_ok : ∀ k, k < 21 → parseFieldDescriptor (TX4 k).2.2.1 = some (tyX4 k) := by decide +kernel
abbrev cX4_init : ByteArray := prog_6_method_1_code
def yX4_init : MethodName := ⟨RX4, "<init>", "(J)V"⟩
abbrev cX4_in : ByteArray := prog_6_method_3_code
def yX4_in : MethodName := ⟨RX4, "in", "(JJJ)Z"⟩
abbrev cX4_mix : ByteArray := prog_6_method_4_code
def yX4_mix : MethodName := ⟨RX4, "mix", "(J)J"⟩
abbrev cX4_isBelow : ByteArray := prog_6_method_5_code
def yX4_isBelow : MethodName := ⟨RX4, "isBelow", "(JJ)Z"⟩
abbrev cX4_rest : ByteArray := prog_6_method_6_code
def yX4_rest : MethodName := ⟨RX4, "rest", "(JJ)J"⟩
abbrev cX4_part : ByteArray := prog_6_method_7_code
def yX4_part : MethodName := ⟨RX4, "part", "(J)I"⟩
abbrev cX4_likePath : ByteArray := prog_6_method_8_code
def yX4_likePath : MethodName := ⟨RX4, "likePath", "()I"⟩
abbrev cX4_takePath : ByteArray := prog_6_method_9_code
def yX4_takePath : MethodName := ⟨RX4, "takePath", "()I"⟩
abbrev cX4_path : ByteArray := prog_6_method_10_code
def yX4_path : MethodName := ⟨RX4, "path", "()I"⟩
abbrev cX4_isPath : ByteArray := prog_6_method_11_code
def yX4_isPath : MethodName := ⟨RX4, "isPath", "(I)Z"⟩
abbrev cX4_keyOf : ByteArray := prog_6_method_12_code
def yX4_keyOf : MethodName := ⟨RX4, "keyOf", "(I)J"⟩
abbrev cX4_key : ByteArray := prog_6_method_13_code
def yX4_key : MethodName := ⟨RX4, "key", "(I)J"⟩
abbrev cX4_wordOf : ByteArray := prog_6_method_14_code
def yX4_wordOf : MethodName := ⟨RX4, "wordOf", "(JIJ)J"⟩
abbrev cX4_word : ByteArray := prog_6_method_15_code
def yX4_word : MethodName := ⟨RX4, "word", "(JIJ)J"⟩
abbrev cX4_draw : ByteArray := prog_6_method_16_code
def yX4_draw : MethodName := ⟨RX4, "draw", "(JIIJ)J"⟩
abbrev cX4_span : ByteArray := prog_6_method_17_code
def yX4_span : MethodName := ⟨RX4, "span", "(JIIJ)J"⟩
abbrev cX4_fraction : ByteArray := prog_6_method_18_code
def yX4_fraction : MethodName := ⟨RX4, "fraction", "(JIIJJ)I"⟩
abbrev cX4_weight : ByteArray := prog_6_method_19_code
def yX4_weight : MethodName := ⟨RX4, "weight", "(IJ)I"⟩
abbrev cX4_sum : ByteArray := prog_6_method_20_code
def yX4_sum : MethodName := ⟨RX4, "sum", "()J"⟩
abbrev cX4_picked : ByteArray := prog_6_method_21_code
def yX4_picked : MethodName := ⟨RX4, "picked", "(JIIJ)I"⟩
abbrev cX4_pick : ByteArray := prog_6_method_22_code
def yX4_pick : MethodName := ⟨RX4, "pick", "(JII)I"⟩
abbrev cX4_permuted : ByteArray := prog_6_method_23_code
def yX4_permuted : MethodName := ⟨RX4, "permuted", "(JIIII)I"⟩
abbrev cX4_tries : ByteArray := prog_6_method_24_code
def yX4_tries : MethodName := ⟨RX4, "tries", "()I"⟩
abbrev cX4_status : ByteArray := prog_6_method_25_code
def yX4_status : MethodName := ⟨RX4, "status", "()I"⟩
abbrev cX4_isStream : ByteArray := prog_6_method_26_code
def yX4_isStream : MethodName := ⟨RX4, "isStream", "(I)Z"⟩
abbrev cX4_begin : ByteArray := prog_6_method_27_code
def yX4_begin : MethodName := ⟨RX4, "begin", "(JI)I"⟩
abbrev cX4_open : ByteArray := prog_6_method_28_code
def yX4_open : MethodName := ⟨RX4, "open", "(JI)I"⟩
abbrev cX4_next : ByteArray := prog_6_method_29_code
def yX4_next : MethodName := ⟨RX4, "next", "(IJ)J"⟩
abbrev cX4_nextPick : ByteArray := prog_6_method_30_code
def yX4_nextPick : MethodName := ⟨RX4, "nextPick", "(I)I"⟩
abbrev cX4_split : ByteArray := prog_6_method_31_code
def yX4_split : MethodName := ⟨RX4, "split", "(I)I"⟩
abbrev cX4_skip : ByteArray := prog_6_method_32_code
def yX4_skip : MethodName := ⟨RX4, "skip", "(II)I"⟩
abbrev cX4_keep : ByteArray := prog_6_method_33_code
def yX4_keep : MethodName := ⟨RX4, "keep", "(II)I"⟩
abbrev cX4_back : ByteArray := prog_6_method_34_code
def yX4_back : MethodName := ⟨RX4, "back", "(I)I"⟩
abbrev cX4_told : ByteArray := prog_6_method_35_code
def yX4_told : MethodName := ⟨RX4, "told", "(II)I"⟩
abbrev cX4_counted : ByteArray := prog_6_method_36_code
def yX4_counted : MethodName := ⟨RX4, "counted", "(III)I"⟩
abbrev cX4_count : ByteArray := prog_6_method_37_code
def yX4_count : MethodName := ⟨RX4, "count", "(I)I"⟩
def RL : String := "NamedStreamsLaw"
abbrev cL_cell : ByteArray := method_2_code
def yL_cell : MethodName := ⟨RL, "cell", "([II)I"⟩
abbrev cL_law : ByteArray := code
def yL_law : MethodName := ⟨RL, "law", "([I)Z"⟩
def wsX0_init : List Cond := .code yX0_init cX0_init 1 none :: ([.methodLink RX0 1 objectInit, .instanceMethod objectInit, .code objectInit ⟨#[0xb1]⟩ 1 none, .fieldLink RX0 7 "NamedStreams$Kept" "stream" "I", .fieldLink RX0 13 "NamedStreams$Kept" "place" "I", .fieldLink RX0 16 "NamedStreams$Kept" "splits" "I"] ++ wsX00)
def wsX1_init : List Cond := .code yX1_init cX1_init 1 none :: ([.methodLink RX1 3 objectInit, .instanceMethod objectInit, .code objectInit ⟨#[0xb1]⟩ 1 none, .arrayClass .long, .fieldLink RX1 9 "NamedStreams$Paths" "rows" "[J", .arrayClass .int, .fieldLink RX1 15 "NamedStreams$Paths" "lengths" "[I", .fieldLink RX1 19 "NamedStreams$Paths" "keys" "[J", .fieldLink RX1 22 "NamedStreams$Paths" "child" "[J", .fieldLink RX1 25 "NamedStreams$Paths" "size" "I"] ++ wsX10)
def wsX1_has : List Cond := .code yX1_has cX1_has 2 (some .boolean) :: ([.fieldLink RX1 25 "NamedStreams$Paths" "size" "I"] ++ wsX10)
def wsX1_isLike : List Cond := .code yX1_isLike cX1_isLike 5 (some .boolean) :: ([.fieldLink RX1 15 "NamedStreams$Paths" "lengths" "[I", .fieldLink RX1 9 "NamedStreams$Paths" "rows" "[J"] ++ wsX10)
def wsX3_mix : List Cond := .code yX3_mix cX3_mix 4 (some .long) :: ([.constantLong RX3 131 (-4658895280553007687), .constantLong RX3 133 (-7723592293110705685)])
def wsX1_add : List Cond := .code yX1_add cX1_add 7 (some .int) :: ([.fieldLink RX1 25 "NamedStreams$Paths" "size" "I", .fieldLink RX1 9 "NamedStreams$Paths" "rows" "[J", .constantLong RX1 40 (-7046029254386353131), .fieldLink RX1 15 "NamedStreams$Paths" "lengths" "[I", .fieldLink RX1 19 "NamedStreams$Paths" "keys" "[J", .static yX3_mix, .initialized RX3, .code yX3_mix cX3_mix 4 (some .long), .constantLong RX3 131 (-4658895280553007687), .constantLong RX3 133 (-7723592293110705685)] ++ wsX10)
def wsX1_enter : List Cond := .code yX1_enter cX1_enter 4 (some .int) :: ([.fieldLink RX1 25 "NamedStreams$Paths" "size" "I", .methodLink RX1 29 yX1_isLike, .instanceMethod yX1_isLike, .selects RX1 yX1_isLike yX1_isLike, .initialized RX1, .code yX1_isLike cX1_isLike 5 (some .boolean), .fieldLink RX1 15 "NamedStreams$Paths" "lengths" "[I", .fieldLink RX1 9 "NamedStreams$Paths" "rows" "[J", .methodLink RX1 33 yX1_add, .instanceMethod yX1_add, .selects RX1 yX1_add yX1_add, .code yX1_add cX1_add 7 (some .int), .constantLong RX1 40 (-7046029254386353131), .fieldLink RX1 19 "NamedStreams$Paths" "keys" "[J", .static yX3_mix, .initialized RX3, .code yX3_mix cX3_mix 4 (some .long), .constantLong RX3 131 (-4658895280553007687), .constantLong RX3 133 (-7723592293110705685)] ++ wsX10)
def wsX1_enterChild : List Cond := .code yX1_enterChild cX1_enterChild 6 (some .int) :: ([.fieldLink RX1 15 "NamedStreams$Paths" "lengths" "[I", .fieldLink RX1 22 "NamedStreams$Paths" "child" "[J", .fieldLink RX1 9 "NamedStreams$Paths" "rows" "[J", .methodLink RX1 37 yX1_enter, .instanceMethod yX1_enter, .selects RX1 yX1_enter yX1_enter, .initialized RX1, .code yX1_enter cX1_enter 4 (some .int), .fieldLink RX1 25 "NamedStreams$Paths" "size" "I", .methodLink RX1 29 yX1_isLike, .instanceMethod yX1_isLike, .selects RX1 yX1_isLike yX1_isLike, .code yX1_isLike cX1_isLike 5 (some .boolean), .methodLink RX1 33 yX1_add, .instanceMethod yX1_add, .selects RX1 yX1_add yX1_add, .code yX1_add cX1_add 7 (some .int), .constantLong RX1 40 (-7046029254386353131), .fieldLink RX1 19 "NamedStreams$Paths" "keys" "[J", .static yX3_mix, .initialized RX3, .code yX3_mix cX3_mix 4 (some .long), .constantLong RX3 131 (-4658895280553007687), .constantLong RX3 133 (-7723592293110705685)] ++ wsX10)
def wsX2_init : List Cond := .code yX2_init cX2_init 4 none :: ([.methodLink RX2 1 objectInit, .instanceMethod objectInit, .code objectInit ⟨#[0xb1]⟩ 1 none, .fieldLink RX2 7 "NamedStreams$Stream" "place" "I", .fieldLink RX2 13 "NamedStreams$Stream" "splits" "I", .fieldLink RX2 16 "NamedStreams$Stream" "run" "J", .fieldLink RX2 20 "NamedStreams$Stream" "path" "I"] ++ wsX20)
def wsX3_init_r1 : List Cond := [Cond.methodLink RX3 1 objectInit, Cond.instanceMethod objectInit, Cond.code objectInit ⟨#[0xb1]⟩ 1 none, Cond.arrayClass .long, Cond.fieldLink RX3 9 "NamedStreams" "toldParts" "[J", Cond.fieldLink RX3 13 "NamedStreams" "toldCount" "I", Cond.classLink RX3 17 RX1, Cond.instantiable RX1 5, Cond.initialized RX1, Cond.fieldLink RX3 20 "NamedStreams" "paths" "LNamedStreams$Paths;", Cond.fieldLink RX3 24 "NamedStreams" "weights" "[J", Cond.arrayClass .int, Cond.fieldLink RX3 27 "NamedStreams" "order" "[I", Cond.classLink RX3 31 RX2, Cond.fieldLink RX3 33 "NamedStreams" "streams" "[LNamedStreams$Stream;", Cond.fieldLink RX3 37 "NamedStreams" "streamCount" "I", Cond.classLink RX3 40 RX0, Cond.fieldLink RX3 42 "NamedStreams" "kept" "[LNamedStreams$Kept;", Cond.fieldLink RX3 46 "NamedStreams" "latestTries" "I", Cond.fieldLink RX3 49 "NamedStreams" "latestStatus" "I", Cond.fieldLink RX3 52 "NamedStreams" "seed" "J", Cond.instanceMethod yX1_init, Cond.code yX1_init cX1_init 1 none, Cond.methodLink RX1 3 objectInit]
def wsX3_init_r2 : List Cond := [Cond.fieldLink RX1 9 "NamedStreams$Paths" "rows" "[J", Cond.fieldLink RX1 15 "NamedStreams$Paths" "lengths" "[I", Cond.fieldLink RX1 19 "NamedStreams$Paths" "keys" "[J", Cond.fieldLink RX1 22 "NamedStreams$Paths" "child" "[J", Cond.fieldLink RX1 25 "NamedStreams$Paths" "size" "I"]
def wsX3_init : List Cond := .code yX3_init cX3_init 3 none :: ((wsX3_init_r1 ++ wsX3_init_r2) ++ wsX30 ++ wsX10)
def wsX3_part : List Cond := .code yX3_part cX3_part 3 (some .int) :: ([.fieldLink RX3 13 "NamedStreams" "toldCount" "I", .fieldLink RX3 9 "NamedStreams" "toldParts" "[J"] ++ wsX30)
def wsX3_path_r1 : List Cond := [Cond.fieldLink RX3 13 "NamedStreams" "toldCount" "I", Cond.fieldLink RX3 20 "NamedStreams" "paths" "LNamedStreams$Paths;", Cond.fieldLink RX3 9 "NamedStreams" "toldParts" "[J", Cond.methodLink RX3 56 yX1_enter, Cond.instanceMethod yX1_enter, Cond.selects RX1 yX1_enter yX1_enter, Cond.initialized RX1, Cond.code yX1_enter cX1_enter 4 (some .int), Cond.fieldLink RX1 25 "NamedStreams$Paths" "size" "I", Cond.methodLink RX1 29 yX1_isLike, Cond.instanceMethod yX1_isLike, Cond.selects RX1 yX1_isLike yX1_isLike, Cond.code yX1_isLike cX1_isLike 5 (some .boolean), Cond.fieldLink RX1 15 "NamedStreams$Paths" "lengths" "[I", Cond.fieldLink RX1 9 "NamedStreams$Paths" "rows" "[J", Cond.methodLink RX1 33 yX1_add, Cond.instanceMethod yX1_add, Cond.selects RX1 yX1_add yX1_add, Cond.code yX1_add cX1_add 7 (some .int), Cond.constantLong RX1 40 (-7046029254386353131), Cond.fieldLink RX1 19 "NamedStreams$Paths" "keys" "[J", Cond.static yX3_mix, Cond.initialized RX3, Cond.code yX3_mix cX3_mix 4 (some .long)]
def wsX3_path_r2 : List Cond := [Cond.constantLong RX3 131 (-4658895280553007687), Cond.constantLong RX3 133 (-7723592293110705685)]
def wsX3_path : List Cond := .code yX3_path cX3_path 2 (some .int) :: ((wsX3_path_r1 ++ wsX3_path_r2) ++ wsX30 ++ wsX10)
def wsX3_key : List Cond := .code yX3_key cX3_key 2 (some .long) :: ([.fieldLink RX3 20 "NamedStreams" "paths" "LNamedStreams$Paths;", .fieldLink RX3 49 "NamedStreams" "latestStatus" "I", .fieldLink RX3 64 "NamedStreams$Paths" "keys" "[J", .methodLink RX3 60 yX1_has, .instanceMethod yX1_has, .selects RX1 yX1_has yX1_has, .initialized RX1, .code yX1_has cX1_has 2 (some .boolean), .fieldLink RX1 25 "NamedStreams$Paths" "size" "I"] ++ wsX30 ++ wsX10)
def wsX3_baseOf : List Cond := .code yX3_baseOf cX3_baseOf 4 (some .long) :: ([.fieldLink RX3 52 "NamedStreams" "seed" "J", .constantLong RX3 135 (-7046029254386353131), .fieldLink RX3 20 "NamedStreams" "paths" "LNamedStreams$Paths;", .fieldLink RX3 64 "NamedStreams$Paths" "keys" "[J", .methodLink RX3 137 yX3_mix, .static yX3_mix, .initialized RX3, .code yX3_mix cX3_mix 4 (some .long), .constantLong RX3 131 (-4658895280553007687), .constantLong RX3 133 (-7723592293110705685)] ++ wsX30 ++ wsX10)
def wsX3_wordAt : List Cond := .code yX3_wordAt cX3_wordAt 4 (some .long) :: ([.constantLong RX3 135 (-7046029254386353131), .methodLink RX3 137 yX3_mix, .static yX3_mix, .initialized RX3, .code yX3_mix cX3_mix 4 (some .long), .constantLong RX3 131 (-4658895280553007687), .constantLong RX3 133 (-7723592293110705685)])
def wsX3_word : List Cond := .code yX3_word cX3_word 6 (some .long) :: ([.fieldLink RX3 20 "NamedStreams" "paths" "LNamedStreams$Paths;", .fieldLink RX3 49 "NamedStreams" "latestStatus" "I", .methodLink RX3 60 yX1_has, .instanceMethod yX1_has, .selects RX1 yX1_has yX1_has, .initialized RX1, .code yX1_has cX1_has 2 (some .boolean), .fieldLink RX1 25 "NamedStreams$Paths" "size" "I", .methodLink RX3 67 yX3_baseOf, .instanceMethod yX3_baseOf, .selects RX3 yX3_baseOf yX3_baseOf, .initialized RX3, .code yX3_baseOf cX3_baseOf 4 (some .long), .fieldLink RX3 52 "NamedStreams" "seed" "J", .constantLong RX3 135 (-7046029254386353131), .fieldLink RX3 64 "NamedStreams$Paths" "keys" "[J", .methodLink RX3 137 yX3_mix, .static yX3_mix, .code yX3_mix cX3_mix 4 (some .long), .constantLong RX3 131 (-4658895280553007687), .constantLong RX3 133 (-7723592293110705685), .methodLink RX3 71 yX3_wordAt, .static yX3_wordAt, .code yX3_wordAt cX3_wordAt 4 (some .long)] ++ wsX30 ++ wsX10)
def wsX3_firstCounter : List Cond := .code yX3_firstCounter cX3_firstCounter 1 (some .long) :: ([.constantLong RX3 141 (32)])
def wsX3_belowUnsigned : List Cond := .code yX3_belowUnsigned cX3_belowUnsigned 4 (some .boolean) :: ([.constantLong RX3 143 (-9223372036854775808)])
def wsX3_remainderUnsigned : List Cond := .code yX3_remainderUnsigned cX3_remainderUnsigned 8 (some .long) :: ([.methodLink RX3 145 yX3_belowUnsigned, .static yX3_belowUnsigned, .initialized RX3, .code yX3_belowUnsigned cX3_belowUnsigned 4 (some .boolean), .constantLong RX3 143 (-9223372036854775808)])
def wsX3_drawSpan_r1 : List Cond := [Cond.fieldLink RX3 46 "NamedStreams" "latestTries" "I", Cond.constantLong RX3 156 (-3), Cond.methodLink RX3 67 yX3_baseOf, Cond.instanceMethod yX3_baseOf, Cond.selects RX3 yX3_baseOf yX3_baseOf, Cond.initialized RX3, Cond.code yX3_baseOf cX3_baseOf 4 (some .long), Cond.fieldLink RX3 52 "NamedStreams" "seed" "J", Cond.constantLong RX3 135 (-7046029254386353131), Cond.fieldLink RX3 20 "NamedStreams" "paths" "LNamedStreams$Paths;", Cond.fieldLink RX3 64 "NamedStreams$Paths" "keys" "[J", Cond.methodLink RX3 137 yX3_mix, Cond.static yX3_mix, Cond.code yX3_mix cX3_mix 4 (some .long), Cond.constantLong RX3 131 (-4658895280553007687), Cond.constantLong RX3 133 (-7723592293110705685), Cond.methodLink RX3 149 yX3_firstCounter, Cond.static yX3_firstCounter, Cond.code yX3_firstCounter cX3_firstCounter 1 (some .long), Cond.constantLong RX3 141 (32), Cond.methodLink RX3 153 yX3_remainderUnsigned, Cond.static yX3_remainderUnsigned, Cond.code yX3_remainderUnsigned cX3_remainderUnsigned 8 (some .long), Cond.methodLink RX3 145 yX3_belowUnsigned]
def wsX3_drawSpan_r2 : List Cond := [Cond.static yX3_belowUnsigned, Cond.code yX3_belowUnsigned cX3_belowUnsigned 4 (some .boolean), Cond.constantLong RX3 143 (-9223372036854775808), Cond.methodLink RX3 71 yX3_wordAt, Cond.static yX3_wordAt, Cond.code yX3_wordAt cX3_wordAt 4 (some .long)]
def wsX3_drawSpan : List Cond := .code yX3_drawSpan cX3_drawSpan 16 (some .long) :: ((wsX3_drawSpan_r1 ++ wsX3_drawSpan_r2) ++ wsX30 ++ wsX10)
def wsX3_span_r1 : List Cond := [Cond.constantLong RX3 75 (-4), Cond.fieldLink RX3 20 "NamedStreams" "paths" "LNamedStreams$Paths;", Cond.constantLong RX3 77 (-1), Cond.methodLink RX3 60 yX1_has, Cond.instanceMethod yX1_has, Cond.selects RX1 yX1_has yX1_has, Cond.initialized RX1, Cond.code yX1_has cX1_has 2 (some .boolean), Cond.fieldLink RX1 25 "NamedStreams$Paths" "size" "I", Cond.methodLink RX3 79 yX3_drawSpan, Cond.instanceMethod yX3_drawSpan, Cond.selects RX3 yX3_drawSpan yX3_drawSpan, Cond.initialized RX3, Cond.code yX3_drawSpan cX3_drawSpan 16 (some .long), Cond.fieldLink RX3 46 "NamedStreams" "latestTries" "I", Cond.constantLong RX3 156 (-3), Cond.methodLink RX3 67 yX3_baseOf, Cond.instanceMethod yX3_baseOf, Cond.selects RX3 yX3_baseOf yX3_baseOf, Cond.code yX3_baseOf cX3_baseOf 4 (some .long), Cond.fieldLink RX3 52 "NamedStreams" "seed" "J", Cond.constantLong RX3 135 (-7046029254386353131), Cond.fieldLink RX3 64 "NamedStreams$Paths" "keys" "[J", Cond.methodLink RX3 137 yX3_mix]
def wsX3_span_r2 : List Cond := [Cond.static yX3_mix, Cond.code yX3_mix cX3_mix 4 (some .long), Cond.constantLong RX3 131 (-4658895280553007687), Cond.constantLong RX3 133 (-7723592293110705685), Cond.methodLink RX3 149 yX3_firstCounter, Cond.static yX3_firstCounter, Cond.code yX3_firstCounter cX3_firstCounter 1 (some .long), Cond.constantLong RX3 141 (32), Cond.methodLink RX3 153 yX3_remainderUnsigned, Cond.static yX3_remainderUnsigned, Cond.code yX3_remainderUnsigned cX3_remainderUnsigned 8 (some .long), Cond.methodLink RX3 145 yX3_belowUnsigned, Cond.static yX3_belowUnsigned, Cond.code yX3_belowUnsigned cX3_belowUnsigned 4 (some .boolean), Cond.constantLong RX3 143 (-9223372036854775808), Cond.methodLink RX3 71 yX3_wordAt, Cond.static yX3_wordAt, Cond.code yX3_wordAt cX3_wordAt 4 (some .long)]
def wsX3_span : List Cond := .code yX3_span cX3_span 7 (some .long) :: ((wsX3_span_r1 ++ wsX3_span_r2) ++ wsX30 ++ wsX10)
def wsX3_drawFraction : List Cond := .code yX3_drawFraction cX3_drawFraction 21 (some .int) :: ([.fieldLink RX3 46 "NamedStreams" "latestTries" "I", .methodLink RX3 67 yX3_baseOf, .instanceMethod yX3_baseOf, .selects RX3 yX3_baseOf yX3_baseOf, .initialized RX3, .code yX3_baseOf cX3_baseOf 4 (some .long), .fieldLink RX3 52 "NamedStreams" "seed" "J", .constantLong RX3 135 (-7046029254386353131), .fieldLink RX3 20 "NamedStreams" "paths" "LNamedStreams$Paths;", .fieldLink RX3 64 "NamedStreams$Paths" "keys" "[J", .methodLink RX3 137 yX3_mix, .static yX3_mix, .code yX3_mix cX3_mix 4 (some .long), .constantLong RX3 131 (-4658895280553007687), .constantLong RX3 133 (-7723592293110705685), .methodLink RX3 149 yX3_firstCounter, .static yX3_firstCounter, .code yX3_firstCounter cX3_firstCounter 1 (some .long), .constantLong RX3 141 (32), .methodLink RX3 71 yX3_wordAt, .static yX3_wordAt, .code yX3_wordAt cX3_wordAt 4 (some .long)] ++ wsX30 ++ wsX10)
def wsX3_fraction_r1 : List Cond := [Cond.fieldLink RX3 20 "NamedStreams" "paths" "LNamedStreams$Paths;", Cond.methodLink RX3 60 yX1_has, Cond.instanceMethod yX1_has, Cond.selects RX1 yX1_has yX1_has, Cond.initialized RX1, Cond.code yX1_has cX1_has 2 (some .boolean), Cond.fieldLink RX1 25 "NamedStreams$Paths" "size" "I", Cond.methodLink RX3 83 yX3_drawFraction, Cond.instanceMethod yX3_drawFraction, Cond.selects RX3 yX3_drawFraction yX3_drawFraction, Cond.initialized RX3, Cond.code yX3_drawFraction cX3_drawFraction 21 (some .int), Cond.fieldLink RX3 46 "NamedStreams" "latestTries" "I", Cond.methodLink RX3 67 yX3_baseOf, Cond.instanceMethod yX3_baseOf, Cond.selects RX3 yX3_baseOf yX3_baseOf, Cond.code yX3_baseOf cX3_baseOf 4 (some .long), Cond.fieldLink RX3 52 "NamedStreams" "seed" "J", Cond.constantLong RX3 135 (-7046029254386353131), Cond.fieldLink RX3 64 "NamedStreams$Paths" "keys" "[J", Cond.methodLink RX3 137 yX3_mix, Cond.static yX3_mix, Cond.code yX3_mix cX3_mix 4 (some .long), Cond.constantLong RX3 131 (-4658895280553007687)]
def wsX3_fraction_r2 : List Cond := [Cond.constantLong RX3 133 (-7723592293110705685), Cond.methodLink RX3 149 yX3_firstCounter, Cond.static yX3_firstCounter, Cond.code yX3_firstCounter cX3_firstCounter 1 (some .long), Cond.constantLong RX3 141 (32), Cond.methodLink RX3 71 yX3_wordAt, Cond.static yX3_wordAt, Cond.code yX3_wordAt cX3_wordAt 4 (some .long)]
def wsX3_fraction : List Cond := .code yX3_fraction cX3_fraction 9 (some .int) :: ((wsX3_fraction_r1 ++ wsX3_fraction_r2) ++ wsX30 ++ wsX10)
def wsX3_weight : List Cond := .code yX3_weight cX3_weight 4 (some .int) :: ([.fieldLink RX3 24 "NamedStreams" "weights" "[J"] ++ wsX30)
def wsX3_sumOfWeights : List Cond := .code yX3_sumOfWeights cX3_sumOfWeights 4 (some .long) :: ([.fieldLink RX3 24 "NamedStreams" "weights" "[J", .constantLong RX3 158 (-5)] ++ wsX30)
def wsX3_weightReaching : List Cond := .code yX3_weightReaching cX3_weightReaching 6 (some .int) :: ([.fieldLink RX3 24 "NamedStreams" "weights" "[J"] ++ wsX30)
def wsX3_drawPick_r1 : List Cond := [Cond.methodLink RX3 160 yX3_sumOfWeights, Cond.instanceMethod yX3_sumOfWeights, Cond.selects RX3 yX3_sumOfWeights yX3_sumOfWeights, Cond.initialized RX3, Cond.code yX3_sumOfWeights cX3_sumOfWeights 4 (some .long), Cond.fieldLink RX3 24 "NamedStreams" "weights" "[J", Cond.constantLong RX3 158 (-5), Cond.methodLink RX3 79 yX3_drawSpan, Cond.instanceMethod yX3_drawSpan, Cond.selects RX3 yX3_drawSpan yX3_drawSpan, Cond.code yX3_drawSpan cX3_drawSpan 16 (some .long), Cond.fieldLink RX3 46 "NamedStreams" "latestTries" "I", Cond.constantLong RX3 156 (-3), Cond.methodLink RX3 67 yX3_baseOf, Cond.instanceMethod yX3_baseOf, Cond.selects RX3 yX3_baseOf yX3_baseOf, Cond.code yX3_baseOf cX3_baseOf 4 (some .long), Cond.fieldLink RX3 52 "NamedStreams" "seed" "J", Cond.constantLong RX3 135 (-7046029254386353131), Cond.fieldLink RX3 20 "NamedStreams" "paths" "LNamedStreams$Paths;", Cond.fieldLink RX3 64 "NamedStreams$Paths" "keys" "[J", Cond.methodLink RX3 137 yX3_mix, Cond.static yX3_mix, Cond.code yX3_mix cX3_mix 4 (some .long)]
def wsX3_drawPick_r2 : List Cond := [Cond.constantLong RX3 131 (-4658895280553007687), Cond.constantLong RX3 133 (-7723592293110705685), Cond.methodLink RX3 149 yX3_firstCounter, Cond.static yX3_firstCounter, Cond.code yX3_firstCounter cX3_firstCounter 1 (some .long), Cond.constantLong RX3 141 (32), Cond.methodLink RX3 153 yX3_remainderUnsigned, Cond.static yX3_remainderUnsigned, Cond.code yX3_remainderUnsigned cX3_remainderUnsigned 8 (some .long), Cond.methodLink RX3 145 yX3_belowUnsigned, Cond.static yX3_belowUnsigned, Cond.code yX3_belowUnsigned cX3_belowUnsigned 4 (some .boolean), Cond.constantLong RX3 143 (-9223372036854775808), Cond.methodLink RX3 71 yX3_wordAt, Cond.static yX3_wordAt, Cond.code yX3_wordAt cX3_wordAt 4 (some .long), Cond.methodLink RX3 164 yX3_weightReaching, Cond.instanceMethod yX3_weightReaching, Cond.selects RX3 yX3_weightReaching yX3_weightReaching, Cond.code yX3_weightReaching cX3_weightReaching 6 (some .int)]
def wsX3_drawPick : List Cond := .code yX3_drawPick cX3_drawPick 9 (some .int) :: ((wsX3_drawPick_r1 ++ wsX3_drawPick_r2) ++ wsX30 ++ wsX10)
def wsX3_pick_r1 : List Cond := [Cond.fieldLink RX3 20 "NamedStreams" "paths" "LNamedStreams$Paths;", Cond.methodLink RX3 60 yX1_has, Cond.instanceMethod yX1_has, Cond.selects RX1 yX1_has yX1_has, Cond.initialized RX1, Cond.code yX1_has cX1_has 2 (some .boolean), Cond.fieldLink RX1 25 "NamedStreams$Paths" "size" "I", Cond.methodLink RX3 87 yX3_drawPick, Cond.instanceMethod yX3_drawPick, Cond.selects RX3 yX3_drawPick yX3_drawPick, Cond.initialized RX3, Cond.code yX3_drawPick cX3_drawPick 9 (some .int), Cond.methodLink RX3 160 yX3_sumOfWeights, Cond.instanceMethod yX3_sumOfWeights, Cond.selects RX3 yX3_sumOfWeights yX3_sumOfWeights, Cond.code yX3_sumOfWeights cX3_sumOfWeights 4 (some .long), Cond.fieldLink RX3 24 "NamedStreams" "weights" "[J", Cond.constantLong RX3 158 (-5), Cond.methodLink RX3 79 yX3_drawSpan, Cond.instanceMethod yX3_drawSpan, Cond.selects RX3 yX3_drawSpan yX3_drawSpan, Cond.code yX3_drawSpan cX3_drawSpan 16 (some .long), Cond.fieldLink RX3 46 "NamedStreams" "latestTries" "I", Cond.constantLong RX3 156 (-3)]
def wsX3_pick_r2 : List Cond := [Cond.methodLink RX3 67 yX3_baseOf, Cond.instanceMethod yX3_baseOf, Cond.selects RX3 yX3_baseOf yX3_baseOf, Cond.code yX3_baseOf cX3_baseOf 4 (some .long), Cond.fieldLink RX3 52 "NamedStreams" "seed" "J", Cond.constantLong RX3 135 (-7046029254386353131), Cond.fieldLink RX3 64 "NamedStreams$Paths" "keys" "[J", Cond.methodLink RX3 137 yX3_mix, Cond.static yX3_mix, Cond.code yX3_mix cX3_mix 4 (some .long), Cond.constantLong RX3 131 (-4658895280553007687), Cond.constantLong RX3 133 (-7723592293110705685), Cond.methodLink RX3 149 yX3_firstCounter, Cond.static yX3_firstCounter, Cond.code yX3_firstCounter cX3_firstCounter 1 (some .long), Cond.constantLong RX3 141 (32), Cond.methodLink RX3 153 yX3_remainderUnsigned, Cond.static yX3_remainderUnsigned, Cond.code yX3_remainderUnsigned cX3_remainderUnsigned 8 (some .long), Cond.methodLink RX3 145 yX3_belowUnsigned, Cond.static yX3_belowUnsigned, Cond.code yX3_belowUnsigned cX3_belowUnsigned 4 (some .boolean), Cond.constantLong RX3 143 (-9223372036854775808), Cond.methodLink RX3 71 yX3_wordAt]
def wsX3_pick_r3 : List Cond := [Cond.static yX3_wordAt, Cond.code yX3_wordAt cX3_wordAt 4 (some .long), Cond.methodLink RX3 164 yX3_weightReaching, Cond.instanceMethod yX3_weightReaching, Cond.selects RX3 yX3_weightReaching yX3_weightReaching, Cond.code yX3_weightReaching cX3_weightReaching 6 (some .int)]
def wsX3_pick : List Cond := .code yX3_pick cX3_pick 5 (some .int) :: ((wsX3_pick_r1 ++ (wsX3_pick_r2 ++ wsX3_pick_r3)) ++ wsX30 ++ wsX10)
def wsX3_drawPermutation_r1 : List Cond := [Cond.fieldLink RX3 27 "NamedStreams" "order" "[I", Cond.methodLink RX3 79 yX3_drawSpan, Cond.instanceMethod yX3_drawSpan, Cond.selects RX3 yX3_drawSpan yX3_drawSpan, Cond.initialized RX3, Cond.code yX3_drawSpan cX3_drawSpan 16 (some .long), Cond.fieldLink RX3 46 "NamedStreams" "latestTries" "I", Cond.constantLong RX3 156 (-3), Cond.methodLink RX3 67 yX3_baseOf, Cond.instanceMethod yX3_baseOf, Cond.selects RX3 yX3_baseOf yX3_baseOf, Cond.code yX3_baseOf cX3_baseOf 4 (some .long), Cond.fieldLink RX3 52 "NamedStreams" "seed" "J", Cond.constantLong RX3 135 (-7046029254386353131), Cond.fieldLink RX3 20 "NamedStreams" "paths" "LNamedStreams$Paths;", Cond.fieldLink RX3 64 "NamedStreams$Paths" "keys" "[J", Cond.methodLink RX3 137 yX3_mix, Cond.static yX3_mix, Cond.code yX3_mix cX3_mix 4 (some .long), Cond.constantLong RX3 131 (-4658895280553007687), Cond.constantLong RX3 133 (-7723592293110705685), Cond.methodLink RX3 149 yX3_firstCounter, Cond.static yX3_firstCounter, Cond.code yX3_firstCounter cX3_firstCounter 1 (some .long)]
def wsX3_drawPermutation_r2 : List Cond := [Cond.constantLong RX3 141 (32), Cond.methodLink RX3 153 yX3_remainderUnsigned, Cond.static yX3_remainderUnsigned, Cond.code yX3_remainderUnsigned cX3_remainderUnsigned 8 (some .long), Cond.methodLink RX3 145 yX3_belowUnsigned, Cond.static yX3_belowUnsigned, Cond.code yX3_belowUnsigned cX3_belowUnsigned 4 (some .boolean), Cond.constantLong RX3 143 (-9223372036854775808), Cond.methodLink RX3 71 yX3_wordAt, Cond.static yX3_wordAt, Cond.code yX3_wordAt cX3_wordAt 4 (some .long)]
def wsX3_drawPermutation : List Cond := .code yX3_drawPermutation cX3_drawPermutation 11 (some .boolean) :: ((wsX3_drawPermutation_r1 ++ wsX3_drawPermutation_r2) ++ wsX30 ++ wsX10)
def wsX3_permuted_r1 : List Cond := [Cond.fieldLink RX3 20 "NamedStreams" "paths" "LNamedStreams$Paths;", Cond.constant RX3 91 (2147483647), Cond.fieldLink RX3 27 "NamedStreams" "order" "[I", Cond.methodLink RX3 60 yX1_has, Cond.instanceMethod yX1_has, Cond.selects RX1 yX1_has yX1_has, Cond.initialized RX1, Cond.code yX1_has cX1_has 2 (some .boolean), Cond.fieldLink RX1 25 "NamedStreams$Paths" "size" "I", Cond.methodLink RX3 92 yX3_drawPermutation, Cond.instanceMethod yX3_drawPermutation, Cond.selects RX3 yX3_drawPermutation yX3_drawPermutation, Cond.initialized RX3, Cond.code yX3_drawPermutation cX3_drawPermutation 11 (some .boolean), Cond.methodLink RX3 79 yX3_drawSpan, Cond.instanceMethod yX3_drawSpan, Cond.selects RX3 yX3_drawSpan yX3_drawSpan, Cond.code yX3_drawSpan cX3_drawSpan 16 (some .long), Cond.fieldLink RX3 46 "NamedStreams" "latestTries" "I", Cond.constantLong RX3 156 (-3), Cond.methodLink RX3 67 yX3_baseOf, Cond.instanceMethod yX3_baseOf, Cond.selects RX3 yX3_baseOf yX3_baseOf, Cond.code yX3_baseOf cX3_baseOf 4 (some .long)]
def wsX3_permuted_r2 : List Cond := [Cond.fieldLink RX3 52 "NamedStreams" "seed" "J", Cond.constantLong RX3 135 (-7046029254386353131), Cond.fieldLink RX3 64 "NamedStreams$Paths" "keys" "[J", Cond.methodLink RX3 137 yX3_mix, Cond.static yX3_mix, Cond.code yX3_mix cX3_mix 4 (some .long), Cond.constantLong RX3 131 (-4658895280553007687), Cond.constantLong RX3 133 (-7723592293110705685), Cond.methodLink RX3 149 yX3_firstCounter, Cond.static yX3_firstCounter, Cond.code yX3_firstCounter cX3_firstCounter 1 (some .long), Cond.constantLong RX3 141 (32), Cond.methodLink RX3 153 yX3_remainderUnsigned, Cond.static yX3_remainderUnsigned, Cond.code yX3_remainderUnsigned cX3_remainderUnsigned 8 (some .long), Cond.methodLink RX3 145 yX3_belowUnsigned, Cond.static yX3_belowUnsigned, Cond.code yX3_belowUnsigned cX3_belowUnsigned 4 (some .boolean), Cond.constantLong RX3 143 (-9223372036854775808), Cond.methodLink RX3 71 yX3_wordAt, Cond.static yX3_wordAt, Cond.code yX3_wordAt cX3_wordAt 4 (some .long)]
def wsX3_permuted : List Cond := .code yX3_permuted cX3_permuted 7 (some .int) :: ((wsX3_permuted_r1 ++ wsX3_permuted_r2) ++ wsX30 ++ wsX10)
def wsX3_tries : List Cond := .code yX3_tries cX3_tries 1 (some .int) :: ([.fieldLink RX3 46 "NamedStreams" "latestTries" "I"] ++ wsX30)
def wsX3_status : List Cond := .code yX3_status cX3_status 1 (some .int) :: ([.fieldLink RX3 49 "NamedStreams" "latestStatus" "I"] ++ wsX30)
def wsX3_addStream : List Cond := .code yX3_addStream cX3_addStream 5 (some .int) :: ([.fieldLink RX3 37 "NamedStreams" "streamCount" "I", .fieldLink RX3 33 "NamedStreams" "streams" "[LNamedStreams$Stream;", .classLink RX3 31 RX2, .instantiable RX2 4, .initialized RX2, .methodLink RX3 168 yX2_init, .instanceMethod yX2_init, .code yX2_init cX2_init 4 none, .methodLink RX2 1 objectInit, .instanceMethod objectInit, .code objectInit ⟨#[0xb1]⟩ 1 none, .fieldLink RX2 7 "NamedStreams$Stream" "place" "I", .fieldLink RX2 13 "NamedStreams$Stream" "splits" "I", .fieldLink RX2 16 "NamedStreams$Stream" "run" "J", .fieldLink RX2 20 "NamedStreams$Stream" "path" "I"] ++ wsX30 ++ wsX20)
def wsX3_open_r1 : List Cond := [Cond.fieldLink RX3 20 "NamedStreams" "paths" "LNamedStreams$Paths;", Cond.fieldLink RX3 37 "NamedStreams" "streamCount" "I", Cond.methodLink RX3 60 yX1_has, Cond.instanceMethod yX1_has, Cond.selects RX1 yX1_has yX1_has, Cond.initialized RX1, Cond.code yX1_has cX1_has 2 (some .boolean), Cond.fieldLink RX1 25 "NamedStreams$Paths" "size" "I", Cond.methodLink RX3 96 yX3_addStream, Cond.instanceMethod yX3_addStream, Cond.selects RX3 yX3_addStream yX3_addStream, Cond.initialized RX3, Cond.code yX3_addStream cX3_addStream 5 (some .int), Cond.fieldLink RX3 33 "NamedStreams" "streams" "[LNamedStreams$Stream;", Cond.classLink RX3 31 RX2, Cond.instantiable RX2 4, Cond.initialized RX2, Cond.methodLink RX3 168 yX2_init, Cond.instanceMethod yX2_init, Cond.code yX2_init cX2_init 4 none, Cond.methodLink RX2 1 objectInit, Cond.instanceMethod objectInit, Cond.code objectInit ⟨#[0xb1]⟩ 1 none, Cond.fieldLink RX2 7 "NamedStreams$Stream" "place" "I"]
def wsX3_open_r2 : List Cond := [Cond.fieldLink RX2 13 "NamedStreams$Stream" "splits" "I", Cond.fieldLink RX2 16 "NamedStreams$Stream" "run" "J", Cond.fieldLink RX2 20 "NamedStreams$Stream" "path" "I"]
def wsX3_open : List Cond := .code yX3_open cX3_open 4 (some .int) :: ((wsX3_open_r1 ++ wsX3_open_r2) ++ wsX30 ++ wsX10 ++ wsX20)
def wsX3_streamAt : List Cond := .code yX3_streamAt cX3_streamAt 2 (some (.object "NamedStreams$Stream")) :: ([.fieldLink RX3 37 "NamedStreams" "streamCount" "I", .fieldLink RX3 33 "NamedStreams" "streams" "[LNamedStreams$Stream;"] ++ wsX30)
def wsX3_next_r1 : List Cond := [Cond.fieldLink RX3 104 "NamedStreams$Stream" "place" "I", Cond.constant RX3 91 (2147483647), Cond.constantLong RX3 77 (-1), Cond.constantLong RX3 75 (-4), Cond.fieldLink RX3 107 "NamedStreams$Stream" "run" "J", Cond.fieldLink RX3 110 "NamedStreams$Stream" "path" "I", Cond.methodLink RX3 100 yX3_streamAt, Cond.instanceMethod yX3_streamAt, Cond.selects RX3 yX3_streamAt yX3_streamAt, Cond.initialized RX3, Cond.code yX3_streamAt cX3_streamAt 2 (some (.object "NamedStreams$Stream")), Cond.fieldLink RX3 37 "NamedStreams" "streamCount" "I", Cond.fieldLink RX3 33 "NamedStreams" "streams" "[LNamedStreams$Stream;", Cond.methodLink RX3 79 yX3_drawSpan, Cond.instanceMethod yX3_drawSpan, Cond.selects RX3 yX3_drawSpan yX3_drawSpan, Cond.code yX3_drawSpan cX3_drawSpan 16 (some .long), Cond.fieldLink RX3 46 "NamedStreams" "latestTries" "I", Cond.constantLong RX3 156 (-3), Cond.methodLink RX3 67 yX3_baseOf, Cond.instanceMethod yX3_baseOf, Cond.selects RX3 yX3_baseOf yX3_baseOf, Cond.code yX3_baseOf cX3_baseOf 4 (some .long), Cond.fieldLink RX3 52 "NamedStreams" "seed" "J"]
def wsX3_next_r2 : List Cond := [Cond.constantLong RX3 135 (-7046029254386353131), Cond.fieldLink RX3 20 "NamedStreams" "paths" "LNamedStreams$Paths;", Cond.fieldLink RX3 64 "NamedStreams$Paths" "keys" "[J", Cond.methodLink RX3 137 yX3_mix, Cond.static yX3_mix, Cond.code yX3_mix cX3_mix 4 (some .long), Cond.constantLong RX3 131 (-4658895280553007687), Cond.constantLong RX3 133 (-7723592293110705685), Cond.methodLink RX3 149 yX3_firstCounter, Cond.static yX3_firstCounter, Cond.code yX3_firstCounter cX3_firstCounter 1 (some .long), Cond.constantLong RX3 141 (32), Cond.methodLink RX3 153 yX3_remainderUnsigned, Cond.static yX3_remainderUnsigned, Cond.code yX3_remainderUnsigned cX3_remainderUnsigned 8 (some .long), Cond.methodLink RX3 145 yX3_belowUnsigned, Cond.static yX3_belowUnsigned, Cond.code yX3_belowUnsigned cX3_belowUnsigned 4 (some .boolean), Cond.constantLong RX3 143 (-9223372036854775808), Cond.methodLink RX3 71 yX3_wordAt, Cond.static yX3_wordAt, Cond.code yX3_wordAt cX3_wordAt 4 (some .long)]
def wsX3_next : List Cond := .code yX3_next cX3_next 7 (some .long) :: ((wsX3_next_r1 ++ wsX3_next_r2) ++ wsX20 ++ wsX30 ++ wsX10)
def wsX3_nextPick_r1 : List Cond := [Cond.fieldLink RX3 104 "NamedStreams$Stream" "place" "I", Cond.constant RX3 91 (2147483647), Cond.fieldLink RX3 107 "NamedStreams$Stream" "run" "J", Cond.fieldLink RX3 110 "NamedStreams$Stream" "path" "I", Cond.methodLink RX3 100 yX3_streamAt, Cond.instanceMethod yX3_streamAt, Cond.selects RX3 yX3_streamAt yX3_streamAt, Cond.initialized RX3, Cond.code yX3_streamAt cX3_streamAt 2 (some (.object "NamedStreams$Stream")), Cond.fieldLink RX3 37 "NamedStreams" "streamCount" "I", Cond.fieldLink RX3 33 "NamedStreams" "streams" "[LNamedStreams$Stream;", Cond.methodLink RX3 87 yX3_drawPick, Cond.instanceMethod yX3_drawPick, Cond.selects RX3 yX3_drawPick yX3_drawPick, Cond.code yX3_drawPick cX3_drawPick 9 (some .int), Cond.methodLink RX3 160 yX3_sumOfWeights, Cond.instanceMethod yX3_sumOfWeights, Cond.selects RX3 yX3_sumOfWeights yX3_sumOfWeights, Cond.code yX3_sumOfWeights cX3_sumOfWeights 4 (some .long), Cond.fieldLink RX3 24 "NamedStreams" "weights" "[J", Cond.constantLong RX3 158 (-5), Cond.methodLink RX3 79 yX3_drawSpan, Cond.instanceMethod yX3_drawSpan, Cond.selects RX3 yX3_drawSpan yX3_drawSpan]
def wsX3_nextPick_r2 : List Cond := [Cond.code yX3_drawSpan cX3_drawSpan 16 (some .long), Cond.fieldLink RX3 46 "NamedStreams" "latestTries" "I", Cond.constantLong RX3 156 (-3), Cond.methodLink RX3 67 yX3_baseOf, Cond.instanceMethod yX3_baseOf, Cond.selects RX3 yX3_baseOf yX3_baseOf, Cond.code yX3_baseOf cX3_baseOf 4 (some .long), Cond.fieldLink RX3 52 "NamedStreams" "seed" "J", Cond.constantLong RX3 135 (-7046029254386353131), Cond.fieldLink RX3 20 "NamedStreams" "paths" "LNamedStreams$Paths;", Cond.fieldLink RX3 64 "NamedStreams$Paths" "keys" "[J", Cond.methodLink RX3 137 yX3_mix, Cond.static yX3_mix, Cond.code yX3_mix cX3_mix 4 (some .long), Cond.constantLong RX3 131 (-4658895280553007687), Cond.constantLong RX3 133 (-7723592293110705685), Cond.methodLink RX3 149 yX3_firstCounter, Cond.static yX3_firstCounter, Cond.code yX3_firstCounter cX3_firstCounter 1 (some .long), Cond.constantLong RX3 141 (32), Cond.methodLink RX3 153 yX3_remainderUnsigned, Cond.static yX3_remainderUnsigned, Cond.code yX3_remainderUnsigned cX3_remainderUnsigned 8 (some .long), Cond.methodLink RX3 145 yX3_belowUnsigned]
def wsX3_nextPick_r3 : List Cond := [Cond.static yX3_belowUnsigned, Cond.code yX3_belowUnsigned cX3_belowUnsigned 4 (some .boolean), Cond.constantLong RX3 143 (-9223372036854775808), Cond.methodLink RX3 71 yX3_wordAt, Cond.static yX3_wordAt, Cond.code yX3_wordAt cX3_wordAt 4 (some .long), Cond.methodLink RX3 164 yX3_weightReaching, Cond.instanceMethod yX3_weightReaching, Cond.selects RX3 yX3_weightReaching yX3_weightReaching, Cond.code yX3_weightReaching cX3_weightReaching 6 (some .int)]
def wsX3_nextPick : List Cond := .code yX3_nextPick cX3_nextPick 4 (some .int) :: ((wsX3_nextPick_r1 ++ (wsX3_nextPick_r2 ++ wsX3_nextPick_r3)) ++ wsX20 ++ wsX30 ++ wsX10)
def wsX3_split_r1 : List Cond := [Cond.fieldLink RX3 37 "NamedStreams" "streamCount" "I", Cond.fieldLink RX3 20 "NamedStreams" "paths" "LNamedStreams$Paths;", Cond.fieldLink RX3 110 "NamedStreams$Stream" "path" "I", Cond.fieldLink RX3 113 "NamedStreams$Stream" "splits" "I", Cond.fieldLink RX3 107 "NamedStreams$Stream" "run" "J", Cond.methodLink RX3 100 yX3_streamAt, Cond.instanceMethod yX3_streamAt, Cond.selects RX3 yX3_streamAt yX3_streamAt, Cond.initialized RX3, Cond.code yX3_streamAt cX3_streamAt 2 (some (.object "NamedStreams$Stream")), Cond.fieldLink RX3 33 "NamedStreams" "streams" "[LNamedStreams$Stream;", Cond.methodLink RX3 116 yX1_enterChild, Cond.instanceMethod yX1_enterChild, Cond.selects RX1 yX1_enterChild yX1_enterChild, Cond.initialized RX1, Cond.code yX1_enterChild cX1_enterChild 6 (some .int), Cond.fieldLink RX1 15 "NamedStreams$Paths" "lengths" "[I", Cond.fieldLink RX1 22 "NamedStreams$Paths" "child" "[J", Cond.fieldLink RX1 9 "NamedStreams$Paths" "rows" "[J", Cond.methodLink RX1 37 yX1_enter, Cond.instanceMethod yX1_enter, Cond.selects RX1 yX1_enter yX1_enter, Cond.code yX1_enter cX1_enter 4 (some .int), Cond.fieldLink RX1 25 "NamedStreams$Paths" "size" "I"]
def wsX3_split_r2 : List Cond := [Cond.methodLink RX1 29 yX1_isLike, Cond.instanceMethod yX1_isLike, Cond.selects RX1 yX1_isLike yX1_isLike, Cond.code yX1_isLike cX1_isLike 5 (some .boolean), Cond.methodLink RX1 33 yX1_add, Cond.instanceMethod yX1_add, Cond.selects RX1 yX1_add yX1_add, Cond.code yX1_add cX1_add 7 (some .int), Cond.constantLong RX1 40 (-7046029254386353131), Cond.fieldLink RX1 19 "NamedStreams$Paths" "keys" "[J", Cond.static yX3_mix, Cond.code yX3_mix cX3_mix 4 (some .long), Cond.constantLong RX3 131 (-4658895280553007687), Cond.constantLong RX3 133 (-7723592293110705685), Cond.methodLink RX3 96 yX3_addStream, Cond.instanceMethod yX3_addStream, Cond.selects RX3 yX3_addStream yX3_addStream, Cond.code yX3_addStream cX3_addStream 5 (some .int), Cond.classLink RX3 31 RX2, Cond.instantiable RX2 4, Cond.initialized RX2, Cond.methodLink RX3 168 yX2_init, Cond.instanceMethod yX2_init, Cond.code yX2_init cX2_init 4 none]
def wsX3_split_r3 : List Cond := [Cond.methodLink RX2 1 objectInit, Cond.instanceMethod objectInit, Cond.code objectInit ⟨#[0xb1]⟩ 1 none, Cond.fieldLink RX2 7 "NamedStreams$Stream" "place" "I", Cond.fieldLink RX2 13 "NamedStreams$Stream" "splits" "I", Cond.fieldLink RX2 16 "NamedStreams$Stream" "run" "J", Cond.fieldLink RX2 20 "NamedStreams$Stream" "path" "I"]
def wsX3_split : List Cond := .code yX3_split cX3_split 4 (some .int) :: ((wsX3_split_r1 ++ (wsX3_split_r2 ++ wsX3_split_r3)) ++ wsX30 ++ wsX20 ++ wsX10)
def wsX3_skip : List Cond := .code yX3_skip cX3_skip 4 (some .int) :: ([.constant RX3 120 (1000000000), .fieldLink RX3 104 "NamedStreams$Stream" "place" "I", .constant RX3 91 (2147483647), .methodLink RX3 100 yX3_streamAt, .instanceMethod yX3_streamAt, .selects RX3 yX3_streamAt yX3_streamAt, .initialized RX3, .code yX3_streamAt cX3_streamAt 2 (some (.object "NamedStreams$Stream")), .fieldLink RX3 37 "NamedStreams" "streamCount" "I", .fieldLink RX3 33 "NamedStreams" "streams" "[LNamedStreams$Stream;"] ++ wsX20 ++ wsX30)
def wsX3_keep : List Cond := .code yX3_keep cX3_keep 5 (some .int) :: ([.fieldLink RX3 42 "NamedStreams" "kept" "[LNamedStreams$Kept;", .classLink RX3 40 RX0, .instantiable RX0 3, .initialized RX0, .fieldLink RX3 122 "NamedStreams$Kept" "stream" "I", .fieldLink RX3 104 "NamedStreams$Stream" "place" "I", .fieldLink RX3 125 "NamedStreams$Kept" "place" "I", .fieldLink RX3 113 "NamedStreams$Stream" "splits" "I", .fieldLink RX3 126 "NamedStreams$Kept" "splits" "I", .methodLink RX3 100 yX3_streamAt, .instanceMethod yX3_streamAt, .selects RX3 yX3_streamAt yX3_streamAt, .initialized RX3, .code yX3_streamAt cX3_streamAt 2 (some (.object "NamedStreams$Stream")), .fieldLink RX3 37 "NamedStreams" "streamCount" "I", .fieldLink RX3 33 "NamedStreams" "streams" "[LNamedStreams$Stream;", .instanceMethod yX0_init, .code yX0_init cX0_init 1 none, .methodLink RX0 1 objectInit, .instanceMethod objectInit, .code objectInit ⟨#[0xb1]⟩ 1 none, .fieldLink RX0 7 "NamedStreams$Kept" "stream" "I", .fieldLink RX0 13 "NamedStreams$Kept" "place" "I", .fieldLink RX0 16 "NamedStreams$Kept" "splits" "I"] ++ wsX30 ++ wsX00 ++ wsX20)
def wsX3_back : List Cond := .code yX3_back cX3_back 4 (some .int) :: ([.fieldLink RX3 42 "NamedStreams" "kept" "[LNamedStreams$Kept;", .fieldLink RX3 122 "NamedStreams$Kept" "stream" "I", .fieldLink RX3 125 "NamedStreams$Kept" "place" "I", .fieldLink RX3 104 "NamedStreams$Stream" "place" "I", .fieldLink RX3 126 "NamedStreams$Kept" "splits" "I", .fieldLink RX3 113 "NamedStreams$Stream" "splits" "I", .methodLink RX3 100 yX3_streamAt, .instanceMethod yX3_streamAt, .selects RX3 yX3_streamAt yX3_streamAt, .initialized RX3, .code yX3_streamAt cX3_streamAt 2 (some (.object "NamedStreams$Stream")), .fieldLink RX3 37 "NamedStreams" "streamCount" "I", .fieldLink RX3 33 "NamedStreams" "streams" "[LNamedStreams$Stream;"] ++ wsX30 ++ wsX00 ++ wsX20)
def wsX3_told : List Cond := .code yX3_told cX3_told 4 (some .int) :: ([.fieldLink RX3 110 "NamedStreams$Stream" "path" "I", .fieldLink RX3 104 "NamedStreams$Stream" "place" "I", .fieldLink RX3 113 "NamedStreams$Stream" "splits" "I", .methodLink RX3 100 yX3_streamAt, .instanceMethod yX3_streamAt, .selects RX3 yX3_streamAt yX3_streamAt, .initialized RX3, .code yX3_streamAt cX3_streamAt 2 (some (.object "NamedStreams$Stream")), .fieldLink RX3 37 "NamedStreams" "streamCount" "I", .fieldLink RX3 33 "NamedStreams" "streams" "[LNamedStreams$Stream;"] ++ wsX20 ++ wsX30)
def wsX3_counted : List Cond := .code yX3_counted cX3_counted 4 (some .int) :: ([.constant RX3 127 (65536)])
def wsX3_count : List Cond := .code yX3_count cX3_count 2 (some .int) :: ([.fieldLink RX3 20 "NamedStreams" "paths" "LNamedStreams$Paths;", .fieldLink RX3 128 "NamedStreams$Paths" "size" "I", .fieldLink RX3 37 "NamedStreams" "streamCount" "I", .fieldLink RX3 13 "NamedStreams" "toldCount" "I"] ++ wsX30 ++ wsX10)
def wsX4_init : List Cond := .code yX4_init cX4_init 3 none :: ([.methodLink RX4 1 objectInit, .instanceMethod objectInit, .code objectInit ⟨#[0xb1]⟩ 1 none, .arrayClass .long, .fieldLink RX4 7 "NamedStreamsModel" "part" "[J", .arrayClass .int, .fieldLink RX4 13 "NamedStreamsModel" "many" "[I", .fieldLink RX4 17 "NamedStreamsModel" "told" "[J", .fieldLink RX4 20 "NamedStreamsModel" "weights" "[J", .fieldLink RX4 23 "NamedStreamsModel" "run" "[J", .fieldLink RX4 26 "NamedStreamsModel" "pathOf" "[I", .fieldLink RX4 29 "NamedStreamsModel" "place" "[I", .fieldLink RX4 32 "NamedStreamsModel" "splits" "[I", .fieldLink RX4 35 "NamedStreamsModel" "keptStream" "[I", .fieldLink RX4 38 "NamedStreamsModel" "keptPlace" "[I", .fieldLink RX4 41 "NamedStreamsModel" "keptSplits" "[I", .arrayClass .boolean, .fieldLink RX4 44 "NamedStreamsModel" "isKept" "[Z", .fieldLink RX4 48 "NamedStreamsModel" "order" "[I", .fieldLink RX4 51 "NamedStreamsModel" "aside" "[J", .fieldLink RX4 54 "NamedStreamsModel" "seed" "J"] ++ wsX40)
def wsX4_in : List Cond := .code yX4_in cX4_in 6 (some .boolean) :: ([])
def wsX4_mix : List Cond := .code yX4_mix cX4_mix 4 (some .long) :: ([.constantLong RX4 58 (-4658895280553007687), .constantLong RX4 60 (-7723592293110705685)])
def wsX4_isBelow : List Cond := .code yX4_isBelow cX4_isBelow 4 (some .boolean) :: ([.constantLong RX4 62 (-9223372036854775808)])
def wsX4_rest : List Cond := .code yX4_rest cX4_rest 8 (some .long) :: ([.methodLink RX4 64 yX4_isBelow, .static yX4_isBelow, .initialized RX4, .code yX4_isBelow cX4_isBelow 4 (some .boolean), .constantLong RX4 62 (-9223372036854775808)])
def wsX4_part : List Cond := .code yX4_part cX4_part 3 (some .int) :: ([.fieldLink RX4 68 "NamedStreamsModel" "toldMany" "I", .fieldLink RX4 17 "NamedStreamsModel" "told" "[J"] ++ wsX40)
def wsX4_likePath : List Cond := .code yX4_likePath cX4_likePath 4 (some .int) :: ([.fieldLink RX4 72 "NamedStreamsModel" "paths" "I", .fieldLink RX4 13 "NamedStreamsModel" "many" "[I", .fieldLink RX4 68 "NamedStreamsModel" "toldMany" "I", .fieldLink RX4 7 "NamedStreamsModel" "part" "[J", .fieldLink RX4 17 "NamedStreamsModel" "told" "[J"] ++ wsX40)
def wsX4_takePath : List Cond := .code yX4_takePath cX4_takePath 3 (some .int) :: ([.fieldLink RX4 72 "NamedStreamsModel" "paths" "I", .fieldLink RX4 13 "NamedStreamsModel" "many" "[I", .fieldLink RX4 68 "NamedStreamsModel" "toldMany" "I", .fieldLink RX4 7 "NamedStreamsModel" "part" "[J", .fieldLink RX4 17 "NamedStreamsModel" "told" "[J", .methodLink RX4 75 yX4_likePath, .instanceMethod yX4_likePath, .selects RX4 yX4_likePath yX4_likePath, .initialized RX4, .code yX4_likePath cX4_likePath 4 (some .int)] ++ wsX40)
def wsX4_path : List Cond := .code yX4_path cX4_path 2 (some .int) :: ([.fieldLink RX4 68 "NamedStreamsModel" "toldMany" "I", .methodLink RX4 79 yX4_takePath, .instanceMethod yX4_takePath, .selects RX4 yX4_takePath yX4_takePath, .initialized RX4, .code yX4_takePath cX4_takePath 3 (some .int), .fieldLink RX4 72 "NamedStreamsModel" "paths" "I", .fieldLink RX4 13 "NamedStreamsModel" "many" "[I", .fieldLink RX4 7 "NamedStreamsModel" "part" "[J", .fieldLink RX4 17 "NamedStreamsModel" "told" "[J", .methodLink RX4 75 yX4_likePath, .instanceMethod yX4_likePath, .selects RX4 yX4_likePath yX4_likePath, .code yX4_likePath cX4_likePath 4 (some .int)] ++ wsX40)
def wsX4_isPath : List Cond := .code yX4_isPath cX4_isPath 2 (some .boolean) :: ([.fieldLink RX4 72 "NamedStreamsModel" "paths" "I", .methodLink RX4 82 yX4_in, .static yX4_in, .initialized RX4, .code yX4_in cX4_in 6 (some .boolean)] ++ wsX40)
def wsX4_keyOf : List Cond := .code yX4_keyOf cX4_keyOf 5 (some .long) :: ([.fieldLink RX4 13 "NamedStreamsModel" "many" "[I", .constantLong RX4 86 (-7046029254386353131), .fieldLink RX4 7 "NamedStreamsModel" "part" "[J", .methodLink RX4 88 yX4_mix, .static yX4_mix, .initialized RX4, .code yX4_mix cX4_mix 4 (some .long), .constantLong RX4 58 (-4658895280553007687), .constantLong RX4 60 (-7723592293110705685)] ++ wsX40)
def wsX4_key : List Cond := .code yX4_key cX4_key 2 (some .long) :: ([.fieldLink RX4 96 "NamedStreamsModel" "status" "I", .methodLink RX4 92 yX4_isPath, .instanceMethod yX4_isPath, .selects RX4 yX4_isPath yX4_isPath, .initialized RX4, .code yX4_isPath cX4_isPath 2 (some .boolean), .fieldLink RX4 72 "NamedStreamsModel" "paths" "I", .methodLink RX4 82 yX4_in, .static yX4_in, .code yX4_in cX4_in 6 (some .boolean), .methodLink RX4 99 yX4_keyOf, .instanceMethod yX4_keyOf, .selects RX4 yX4_keyOf yX4_keyOf, .code yX4_keyOf cX4_keyOf 5 (some .long), .fieldLink RX4 13 "NamedStreamsModel" "many" "[I", .constantLong RX4 86 (-7046029254386353131), .fieldLink RX4 7 "NamedStreamsModel" "part" "[J", .methodLink RX4 88 yX4_mix, .static yX4_mix, .code yX4_mix cX4_mix 4 (some .long), .constantLong RX4 58 (-4658895280553007687), .constantLong RX4 60 (-7723592293110705685)] ++ wsX40)
def wsX4_wordOf : List Cond := .code yX4_wordOf cX4_wordOf 8 (some .long) :: ([.fieldLink RX4 54 "NamedStreamsModel" "seed" "J", .constantLong RX4 86 (-7046029254386353131), .methodLink RX4 99 yX4_keyOf, .instanceMethod yX4_keyOf, .selects RX4 yX4_keyOf yX4_keyOf, .initialized RX4, .code yX4_keyOf cX4_keyOf 5 (some .long), .fieldLink RX4 13 "NamedStreamsModel" "many" "[I", .fieldLink RX4 7 "NamedStreamsModel" "part" "[J", .methodLink RX4 88 yX4_mix, .static yX4_mix, .code yX4_mix cX4_mix 4 (some .long), .constantLong RX4 58 (-4658895280553007687), .constantLong RX4 60 (-7723592293110705685)] ++ wsX40)
def wsX4_word_r1 : List Cond := [Cond.fieldLink RX4 96 "NamedStreamsModel" "status" "I", Cond.methodLink RX4 92 yX4_isPath, Cond.instanceMethod yX4_isPath, Cond.selects RX4 yX4_isPath yX4_isPath, Cond.initialized RX4, Cond.code yX4_isPath cX4_isPath 2 (some .boolean), Cond.fieldLink RX4 72 "NamedStreamsModel" "paths" "I", Cond.methodLink RX4 82 yX4_in, Cond.static yX4_in, Cond.code yX4_in cX4_in 6 (some .boolean), Cond.methodLink RX4 103 yX4_wordOf, Cond.instanceMethod yX4_wordOf, Cond.selects RX4 yX4_wordOf yX4_wordOf, Cond.code yX4_wordOf cX4_wordOf 8 (some .long), Cond.fieldLink RX4 54 "NamedStreamsModel" "seed" "J", Cond.constantLong RX4 86 (-7046029254386353131), Cond.methodLink RX4 99 yX4_keyOf, Cond.instanceMethod yX4_keyOf, Cond.selects RX4 yX4_keyOf yX4_keyOf, Cond.code yX4_keyOf cX4_keyOf 5 (some .long), Cond.fieldLink RX4 13 "NamedStreamsModel" "many" "[I", Cond.fieldLink RX4 7 "NamedStreamsModel" "part" "[J", Cond.methodLink RX4 88 yX4_mix, Cond.static yX4_mix]
def wsX4_word_r2 : List Cond := [Cond.code yX4_mix cX4_mix 4 (some .long), Cond.constantLong RX4 58 (-4658895280553007687), Cond.constantLong RX4 60 (-7723592293110705685)]
def wsX4_word : List Cond := .code yX4_word cX4_word 6 (some .long) :: ((wsX4_word_r1 ++ wsX4_word_r2) ++ wsX40)
def wsX4_draw_r1 : List Cond := [Cond.constantLong RX4 111 (32), Cond.fieldLink RX4 113 "NamedStreamsModel" "tries" "I", Cond.constantLong RX4 116 (-3), Cond.methodLink RX4 107 yX4_rest, Cond.static yX4_rest, Cond.initialized RX4, Cond.code yX4_rest cX4_rest 8 (some .long), Cond.methodLink RX4 64 yX4_isBelow, Cond.static yX4_isBelow, Cond.code yX4_isBelow cX4_isBelow 4 (some .boolean), Cond.constantLong RX4 62 (-9223372036854775808), Cond.methodLink RX4 103 yX4_wordOf, Cond.instanceMethod yX4_wordOf, Cond.selects RX4 yX4_wordOf yX4_wordOf, Cond.code yX4_wordOf cX4_wordOf 8 (some .long), Cond.fieldLink RX4 54 "NamedStreamsModel" "seed" "J", Cond.constantLong RX4 86 (-7046029254386353131), Cond.methodLink RX4 99 yX4_keyOf, Cond.instanceMethod yX4_keyOf, Cond.selects RX4 yX4_keyOf yX4_keyOf, Cond.code yX4_keyOf cX4_keyOf 5 (some .long), Cond.fieldLink RX4 13 "NamedStreamsModel" "many" "[I", Cond.fieldLink RX4 7 "NamedStreamsModel" "part" "[J", Cond.methodLink RX4 88 yX4_mix]
def wsX4_draw_r2 : List Cond := [Cond.static yX4_mix, Cond.code yX4_mix cX4_mix 4 (some .long), Cond.constantLong RX4 58 (-4658895280553007687), Cond.constantLong RX4 60 (-7723592293110705685)]
def wsX4_draw : List Cond := .code yX4_draw cX4_draw 12 (some .long) :: ((wsX4_draw_r1 ++ wsX4_draw_r2) ++ wsX40)
def wsX4_span_r1 : List Cond := [Cond.constantLong RX4 118 (-1), Cond.constantLong RX4 120 (-4), Cond.methodLink RX4 92 yX4_isPath, Cond.instanceMethod yX4_isPath, Cond.selects RX4 yX4_isPath yX4_isPath, Cond.initialized RX4, Cond.code yX4_isPath cX4_isPath 2 (some .boolean), Cond.fieldLink RX4 72 "NamedStreamsModel" "paths" "I", Cond.methodLink RX4 82 yX4_in, Cond.static yX4_in, Cond.code yX4_in cX4_in 6 (some .boolean), Cond.methodLink RX4 122 yX4_draw, Cond.instanceMethod yX4_draw, Cond.selects RX4 yX4_draw yX4_draw, Cond.code yX4_draw cX4_draw 12 (some .long), Cond.constantLong RX4 111 (32), Cond.fieldLink RX4 113 "NamedStreamsModel" "tries" "I", Cond.constantLong RX4 116 (-3), Cond.methodLink RX4 107 yX4_rest, Cond.static yX4_rest, Cond.code yX4_rest cX4_rest 8 (some .long), Cond.methodLink RX4 64 yX4_isBelow, Cond.static yX4_isBelow, Cond.code yX4_isBelow cX4_isBelow 4 (some .boolean)]
def wsX4_span_r2 : List Cond := [Cond.constantLong RX4 62 (-9223372036854775808), Cond.methodLink RX4 103 yX4_wordOf, Cond.instanceMethod yX4_wordOf, Cond.selects RX4 yX4_wordOf yX4_wordOf, Cond.code yX4_wordOf cX4_wordOf 8 (some .long), Cond.fieldLink RX4 54 "NamedStreamsModel" "seed" "J", Cond.constantLong RX4 86 (-7046029254386353131), Cond.methodLink RX4 99 yX4_keyOf, Cond.instanceMethod yX4_keyOf, Cond.selects RX4 yX4_keyOf yX4_keyOf, Cond.code yX4_keyOf cX4_keyOf 5 (some .long), Cond.fieldLink RX4 13 "NamedStreamsModel" "many" "[I", Cond.fieldLink RX4 7 "NamedStreamsModel" "part" "[J", Cond.methodLink RX4 88 yX4_mix, Cond.static yX4_mix, Cond.code yX4_mix cX4_mix 4 (some .long), Cond.constantLong RX4 58 (-4658895280553007687), Cond.constantLong RX4 60 (-7723592293110705685)]
def wsX4_span : List Cond := .code yX4_span cX4_span 7 (some .long) :: ((wsX4_span_r1 ++ wsX4_span_r2) ++ wsX40)
def wsX4_fraction_r1 : List Cond := [Cond.fieldLink RX4 113 "NamedStreamsModel" "tries" "I", Cond.constantLong RX4 111 (32), Cond.constantLong RX4 126 (2), Cond.methodLink RX4 92 yX4_isPath, Cond.instanceMethod yX4_isPath, Cond.selects RX4 yX4_isPath yX4_isPath, Cond.initialized RX4, Cond.code yX4_isPath cX4_isPath 2 (some .boolean), Cond.fieldLink RX4 72 "NamedStreamsModel" "paths" "I", Cond.methodLink RX4 82 yX4_in, Cond.static yX4_in, Cond.code yX4_in cX4_in 6 (some .boolean), Cond.methodLink RX4 103 yX4_wordOf, Cond.instanceMethod yX4_wordOf, Cond.selects RX4 yX4_wordOf yX4_wordOf, Cond.code yX4_wordOf cX4_wordOf 8 (some .long), Cond.fieldLink RX4 54 "NamedStreamsModel" "seed" "J", Cond.constantLong RX4 86 (-7046029254386353131), Cond.methodLink RX4 99 yX4_keyOf, Cond.instanceMethod yX4_keyOf, Cond.selects RX4 yX4_keyOf yX4_keyOf, Cond.code yX4_keyOf cX4_keyOf 5 (some .long), Cond.fieldLink RX4 13 "NamedStreamsModel" "many" "[I", Cond.fieldLink RX4 7 "NamedStreamsModel" "part" "[J"]
def wsX4_fraction_r2 : List Cond := [Cond.methodLink RX4 88 yX4_mix, Cond.static yX4_mix, Cond.code yX4_mix cX4_mix 4 (some .long), Cond.constantLong RX4 58 (-4658895280553007687), Cond.constantLong RX4 60 (-7723592293110705685)]
def wsX4_fraction : List Cond := .code yX4_fraction cX4_fraction 15 (some .int) :: ((wsX4_fraction_r1 ++ wsX4_fraction_r2) ++ wsX40)
def wsX4_weight : List Cond := .code yX4_weight cX4_weight 4 (some .int) :: ([.constantLong RX4 128 (9), .fieldLink RX4 20 "NamedStreamsModel" "weights" "[J", .methodLink RX4 82 yX4_in, .static yX4_in, .initialized RX4, .code yX4_in cX4_in 6 (some .boolean)] ++ wsX40)
def wsX4_sum : List Cond := .code yX4_sum cX4_sum 4 (some .long) :: ([.fieldLink RX4 130 "NamedStreamsModel" "isGreat" "Z", .fieldLink RX4 20 "NamedStreamsModel" "weights" "[J"] ++ wsX40)
def wsX4_picked_r1 : List Cond := [Cond.fieldLink RX4 20 "NamedStreamsModel" "weights" "[J", Cond.methodLink RX4 122 yX4_draw, Cond.instanceMethod yX4_draw, Cond.selects RX4 yX4_draw yX4_draw, Cond.initialized RX4, Cond.code yX4_draw cX4_draw 12 (some .long), Cond.constantLong RX4 111 (32), Cond.fieldLink RX4 113 "NamedStreamsModel" "tries" "I", Cond.constantLong RX4 116 (-3), Cond.methodLink RX4 107 yX4_rest, Cond.static yX4_rest, Cond.code yX4_rest cX4_rest 8 (some .long), Cond.methodLink RX4 64 yX4_isBelow, Cond.static yX4_isBelow, Cond.code yX4_isBelow cX4_isBelow 4 (some .boolean), Cond.constantLong RX4 62 (-9223372036854775808), Cond.methodLink RX4 103 yX4_wordOf, Cond.instanceMethod yX4_wordOf, Cond.selects RX4 yX4_wordOf yX4_wordOf, Cond.code yX4_wordOf cX4_wordOf 8 (some .long), Cond.fieldLink RX4 54 "NamedStreamsModel" "seed" "J", Cond.constantLong RX4 86 (-7046029254386353131), Cond.methodLink RX4 99 yX4_keyOf, Cond.instanceMethod yX4_keyOf]
def wsX4_picked_r2 : List Cond := [Cond.selects RX4 yX4_keyOf yX4_keyOf, Cond.code yX4_keyOf cX4_keyOf 5 (some .long), Cond.fieldLink RX4 13 "NamedStreamsModel" "many" "[I", Cond.fieldLink RX4 7 "NamedStreamsModel" "part" "[J", Cond.methodLink RX4 88 yX4_mix, Cond.static yX4_mix, Cond.code yX4_mix cX4_mix 4 (some .long), Cond.constantLong RX4 58 (-4658895280553007687), Cond.constantLong RX4 60 (-7723592293110705685)]
def wsX4_picked : List Cond := .code yX4_picked cX4_picked 12 (some .int) :: ((wsX4_picked_r1 ++ wsX4_picked_r2) ++ wsX40)
def wsX4_pick_r1 : List Cond := [Cond.fieldLink RX4 130 "NamedStreamsModel" "isGreat" "Z", Cond.methodLink RX4 92 yX4_isPath, Cond.instanceMethod yX4_isPath, Cond.selects RX4 yX4_isPath yX4_isPath, Cond.initialized RX4, Cond.code yX4_isPath cX4_isPath 2 (some .boolean), Cond.fieldLink RX4 72 "NamedStreamsModel" "paths" "I", Cond.methodLink RX4 82 yX4_in, Cond.static yX4_in, Cond.code yX4_in cX4_in 6 (some .boolean), Cond.methodLink RX4 134 yX4_sum, Cond.instanceMethod yX4_sum, Cond.selects RX4 yX4_sum yX4_sum, Cond.code yX4_sum cX4_sum 4 (some .long), Cond.fieldLink RX4 20 "NamedStreamsModel" "weights" "[J", Cond.methodLink RX4 138 yX4_picked, Cond.instanceMethod yX4_picked, Cond.selects RX4 yX4_picked yX4_picked, Cond.code yX4_picked cX4_picked 12 (some .int), Cond.methodLink RX4 122 yX4_draw, Cond.instanceMethod yX4_draw, Cond.selects RX4 yX4_draw yX4_draw, Cond.code yX4_draw cX4_draw 12 (some .long), Cond.constantLong RX4 111 (32)]
def wsX4_pick_r2 : List Cond := [Cond.fieldLink RX4 113 "NamedStreamsModel" "tries" "I", Cond.constantLong RX4 116 (-3), Cond.methodLink RX4 107 yX4_rest, Cond.static yX4_rest, Cond.code yX4_rest cX4_rest 8 (some .long), Cond.methodLink RX4 64 yX4_isBelow, Cond.static yX4_isBelow, Cond.code yX4_isBelow cX4_isBelow 4 (some .boolean), Cond.constantLong RX4 62 (-9223372036854775808), Cond.methodLink RX4 103 yX4_wordOf, Cond.instanceMethod yX4_wordOf, Cond.selects RX4 yX4_wordOf yX4_wordOf, Cond.code yX4_wordOf cX4_wordOf 8 (some .long), Cond.fieldLink RX4 54 "NamedStreamsModel" "seed" "J", Cond.constantLong RX4 86 (-7046029254386353131), Cond.methodLink RX4 99 yX4_keyOf, Cond.instanceMethod yX4_keyOf, Cond.selects RX4 yX4_keyOf yX4_keyOf, Cond.code yX4_keyOf cX4_keyOf 5 (some .long), Cond.fieldLink RX4 13 "NamedStreamsModel" "many" "[I", Cond.fieldLink RX4 7 "NamedStreamsModel" "part" "[J", Cond.methodLink RX4 88 yX4_mix, Cond.static yX4_mix, Cond.code yX4_mix cX4_mix 4 (some .long)]
def wsX4_pick_r3 : List Cond := [Cond.constantLong RX4 58 (-4658895280553007687), Cond.constantLong RX4 60 (-7723592293110705685)]
def wsX4_pick : List Cond := .code yX4_pick cX4_pick 7 (some .int) :: ((wsX4_pick_r1 ++ (wsX4_pick_r2 ++ wsX4_pick_r3)) ++ wsX40)
def wsX4_permuted_r1 : List Cond := [Cond.constantLong RX4 142 (40), Cond.constantLong RX4 144 (2147483647), Cond.fieldLink RX4 48 "NamedStreamsModel" "order" "[I", Cond.methodLink RX4 92 yX4_isPath, Cond.instanceMethod yX4_isPath, Cond.selects RX4 yX4_isPath yX4_isPath, Cond.initialized RX4, Cond.code yX4_isPath cX4_isPath 2 (some .boolean), Cond.fieldLink RX4 72 "NamedStreamsModel" "paths" "I", Cond.methodLink RX4 82 yX4_in, Cond.static yX4_in, Cond.code yX4_in cX4_in 6 (some .boolean), Cond.methodLink RX4 122 yX4_draw, Cond.instanceMethod yX4_draw, Cond.selects RX4 yX4_draw yX4_draw, Cond.code yX4_draw cX4_draw 12 (some .long), Cond.constantLong RX4 111 (32), Cond.fieldLink RX4 113 "NamedStreamsModel" "tries" "I", Cond.constantLong RX4 116 (-3), Cond.methodLink RX4 107 yX4_rest, Cond.static yX4_rest, Cond.code yX4_rest cX4_rest 8 (some .long), Cond.methodLink RX4 64 yX4_isBelow, Cond.static yX4_isBelow]
def wsX4_permuted_r2 : List Cond := [Cond.code yX4_isBelow cX4_isBelow 4 (some .boolean), Cond.constantLong RX4 62 (-9223372036854775808), Cond.methodLink RX4 103 yX4_wordOf, Cond.instanceMethod yX4_wordOf, Cond.selects RX4 yX4_wordOf yX4_wordOf, Cond.code yX4_wordOf cX4_wordOf 8 (some .long), Cond.fieldLink RX4 54 "NamedStreamsModel" "seed" "J", Cond.constantLong RX4 86 (-7046029254386353131), Cond.methodLink RX4 99 yX4_keyOf, Cond.instanceMethod yX4_keyOf, Cond.selects RX4 yX4_keyOf yX4_keyOf, Cond.code yX4_keyOf cX4_keyOf 5 (some .long), Cond.fieldLink RX4 13 "NamedStreamsModel" "many" "[I", Cond.fieldLink RX4 7 "NamedStreamsModel" "part" "[J", Cond.methodLink RX4 88 yX4_mix, Cond.static yX4_mix, Cond.code yX4_mix cX4_mix 4 (some .long), Cond.constantLong RX4 58 (-4658895280553007687), Cond.constantLong RX4 60 (-7723592293110705685)]
def wsX4_permuted : List Cond := .code yX4_permuted cX4_permuted 11 (some .int) :: ((wsX4_permuted_r1 ++ wsX4_permuted_r2) ++ wsX40)
def wsX4_tries : List Cond := .code yX4_tries cX4_tries 1 (some .int) :: ([.fieldLink RX4 113 "NamedStreamsModel" "tries" "I"] ++ wsX40)
def wsX4_status : List Cond := .code yX4_status cX4_status 1 (some .int) :: ([.fieldLink RX4 96 "NamedStreamsModel" "status" "I"] ++ wsX40)
def wsX4_isStream : List Cond := .code yX4_isStream cX4_isStream 2 (some .boolean) :: ([.fieldLink RX4 146 "NamedStreamsModel" "streams" "I", .methodLink RX4 82 yX4_in, .static yX4_in, .initialized RX4, .code yX4_in cX4_in 6 (some .boolean)] ++ wsX40)
def wsX4_begin : List Cond := .code yX4_begin cX4_begin 4 (some .int) :: ([.fieldLink RX4 23 "NamedStreamsModel" "run" "[J", .fieldLink RX4 146 "NamedStreamsModel" "streams" "I", .fieldLink RX4 26 "NamedStreamsModel" "pathOf" "[I", .fieldLink RX4 29 "NamedStreamsModel" "place" "[I", .fieldLink RX4 32 "NamedStreamsModel" "splits" "[I"] ++ wsX40)
def wsX4_open : List Cond := .code yX4_open cX4_open 4 (some .int) :: ([.fieldLink RX4 146 "NamedStreamsModel" "streams" "I", .methodLink RX4 92 yX4_isPath, .instanceMethod yX4_isPath, .selects RX4 yX4_isPath yX4_isPath, .initialized RX4, .code yX4_isPath cX4_isPath 2 (some .boolean), .fieldLink RX4 72 "NamedStreamsModel" "paths" "I", .methodLink RX4 82 yX4_in, .static yX4_in, .code yX4_in cX4_in 6 (some .boolean), .methodLink RX4 149 yX4_begin, .instanceMethod yX4_begin, .selects RX4 yX4_begin yX4_begin, .code yX4_begin cX4_begin 4 (some .int), .fieldLink RX4 23 "NamedStreamsModel" "run" "[J", .fieldLink RX4 26 "NamedStreamsModel" "pathOf" "[I", .fieldLink RX4 29 "NamedStreamsModel" "place" "[I", .fieldLink RX4 32 "NamedStreamsModel" "splits" "[I"] ++ wsX40)
def wsX4_next_r1 : List Cond := [Cond.fieldLink RX4 29 "NamedStreamsModel" "place" "[I", Cond.constant RX4 156 (2147483647), Cond.constantLong RX4 118 (-1), Cond.constantLong RX4 120 (-4), Cond.fieldLink RX4 23 "NamedStreamsModel" "run" "[J", Cond.fieldLink RX4 26 "NamedStreamsModel" "pathOf" "[I", Cond.methodLink RX4 153 yX4_isStream, Cond.instanceMethod yX4_isStream, Cond.selects RX4 yX4_isStream yX4_isStream, Cond.initialized RX4, Cond.code yX4_isStream cX4_isStream 2 (some .boolean), Cond.fieldLink RX4 146 "NamedStreamsModel" "streams" "I", Cond.methodLink RX4 82 yX4_in, Cond.static yX4_in, Cond.code yX4_in cX4_in 6 (some .boolean), Cond.methodLink RX4 122 yX4_draw, Cond.instanceMethod yX4_draw, Cond.selects RX4 yX4_draw yX4_draw, Cond.code yX4_draw cX4_draw 12 (some .long), Cond.constantLong RX4 111 (32), Cond.fieldLink RX4 113 "NamedStreamsModel" "tries" "I", Cond.constantLong RX4 116 (-3), Cond.methodLink RX4 107 yX4_rest, Cond.static yX4_rest]
def wsX4_next_r2 : List Cond := [Cond.code yX4_rest cX4_rest 8 (some .long), Cond.methodLink RX4 64 yX4_isBelow, Cond.static yX4_isBelow, Cond.code yX4_isBelow cX4_isBelow 4 (some .boolean), Cond.constantLong RX4 62 (-9223372036854775808), Cond.methodLink RX4 103 yX4_wordOf, Cond.instanceMethod yX4_wordOf, Cond.selects RX4 yX4_wordOf yX4_wordOf, Cond.code yX4_wordOf cX4_wordOf 8 (some .long), Cond.fieldLink RX4 54 "NamedStreamsModel" "seed" "J", Cond.constantLong RX4 86 (-7046029254386353131), Cond.methodLink RX4 99 yX4_keyOf, Cond.instanceMethod yX4_keyOf, Cond.selects RX4 yX4_keyOf yX4_keyOf, Cond.code yX4_keyOf cX4_keyOf 5 (some .long), Cond.fieldLink RX4 13 "NamedStreamsModel" "many" "[I", Cond.fieldLink RX4 7 "NamedStreamsModel" "part" "[J", Cond.methodLink RX4 88 yX4_mix, Cond.static yX4_mix, Cond.code yX4_mix cX4_mix 4 (some .long), Cond.constantLong RX4 58 (-4658895280553007687), Cond.constantLong RX4 60 (-7723592293110705685)]
def wsX4_next : List Cond := .code yX4_next cX4_next 6 (some .long) :: ((wsX4_next_r1 ++ wsX4_next_r2) ++ wsX40)
def wsX4_nextPick_r1 : List Cond := [Cond.fieldLink RX4 29 "NamedStreamsModel" "place" "[I", Cond.constant RX4 156 (2147483647), Cond.fieldLink RX4 130 "NamedStreamsModel" "isGreat" "Z", Cond.fieldLink RX4 23 "NamedStreamsModel" "run" "[J", Cond.fieldLink RX4 26 "NamedStreamsModel" "pathOf" "[I", Cond.methodLink RX4 153 yX4_isStream, Cond.instanceMethod yX4_isStream, Cond.selects RX4 yX4_isStream yX4_isStream, Cond.initialized RX4, Cond.code yX4_isStream cX4_isStream 2 (some .boolean), Cond.fieldLink RX4 146 "NamedStreamsModel" "streams" "I", Cond.methodLink RX4 82 yX4_in, Cond.static yX4_in, Cond.code yX4_in cX4_in 6 (some .boolean), Cond.methodLink RX4 134 yX4_sum, Cond.instanceMethod yX4_sum, Cond.selects RX4 yX4_sum yX4_sum, Cond.code yX4_sum cX4_sum 4 (some .long), Cond.fieldLink RX4 20 "NamedStreamsModel" "weights" "[J", Cond.methodLink RX4 138 yX4_picked, Cond.instanceMethod yX4_picked, Cond.selects RX4 yX4_picked yX4_picked, Cond.code yX4_picked cX4_picked 12 (some .int), Cond.methodLink RX4 122 yX4_draw]
def wsX4_nextPick_r2 : List Cond := [Cond.instanceMethod yX4_draw, Cond.selects RX4 yX4_draw yX4_draw, Cond.code yX4_draw cX4_draw 12 (some .long), Cond.constantLong RX4 111 (32), Cond.fieldLink RX4 113 "NamedStreamsModel" "tries" "I", Cond.constantLong RX4 116 (-3), Cond.methodLink RX4 107 yX4_rest, Cond.static yX4_rest, Cond.code yX4_rest cX4_rest 8 (some .long), Cond.methodLink RX4 64 yX4_isBelow, Cond.static yX4_isBelow, Cond.code yX4_isBelow cX4_isBelow 4 (some .boolean), Cond.constantLong RX4 62 (-9223372036854775808), Cond.methodLink RX4 103 yX4_wordOf, Cond.instanceMethod yX4_wordOf, Cond.selects RX4 yX4_wordOf yX4_wordOf, Cond.code yX4_wordOf cX4_wordOf 8 (some .long), Cond.fieldLink RX4 54 "NamedStreamsModel" "seed" "J", Cond.constantLong RX4 86 (-7046029254386353131), Cond.methodLink RX4 99 yX4_keyOf, Cond.instanceMethod yX4_keyOf, Cond.selects RX4 yX4_keyOf yX4_keyOf, Cond.code yX4_keyOf cX4_keyOf 5 (some .long), Cond.fieldLink RX4 13 "NamedStreamsModel" "many" "[I"]
def wsX4_nextPick_r3 : List Cond := [Cond.fieldLink RX4 7 "NamedStreamsModel" "part" "[J", Cond.methodLink RX4 88 yX4_mix, Cond.static yX4_mix, Cond.code yX4_mix cX4_mix 4 (some .long), Cond.constantLong RX4 58 (-4658895280553007687), Cond.constantLong RX4 60 (-7723592293110705685)]
def wsX4_nextPick : List Cond := .code yX4_nextPick cX4_nextPick 5 (some .int) :: ((wsX4_nextPick_r1 ++ (wsX4_nextPick_r2 ++ wsX4_nextPick_r3)) ++ wsX40)
def wsX4_split_r1 : List Cond := [Cond.fieldLink RX4 26 "NamedStreamsModel" "pathOf" "[I", Cond.fieldLink RX4 146 "NamedStreamsModel" "streams" "I", Cond.fieldLink RX4 13 "NamedStreamsModel" "many" "[I", Cond.fieldLink RX4 68 "NamedStreamsModel" "toldMany" "I", Cond.fieldLink RX4 51 "NamedStreamsModel" "aside" "[J", Cond.fieldLink RX4 17 "NamedStreamsModel" "told" "[J", Cond.fieldLink RX4 7 "NamedStreamsModel" "part" "[J", Cond.fieldLink RX4 32 "NamedStreamsModel" "splits" "[I", Cond.fieldLink RX4 23 "NamedStreamsModel" "run" "[J", Cond.methodLink RX4 153 yX4_isStream, Cond.instanceMethod yX4_isStream, Cond.selects RX4 yX4_isStream yX4_isStream, Cond.initialized RX4, Cond.code yX4_isStream cX4_isStream 2 (some .boolean), Cond.methodLink RX4 82 yX4_in, Cond.static yX4_in, Cond.code yX4_in cX4_in 6 (some .boolean), Cond.methodLink RX4 79 yX4_takePath, Cond.instanceMethod yX4_takePath, Cond.selects RX4 yX4_takePath yX4_takePath, Cond.code yX4_takePath cX4_takePath 3 (some .int), Cond.fieldLink RX4 72 "NamedStreamsModel" "paths" "I", Cond.methodLink RX4 75 yX4_likePath, Cond.instanceMethod yX4_likePath]
def wsX4_split_r2 : List Cond := [Cond.selects RX4 yX4_likePath yX4_likePath, Cond.code yX4_likePath cX4_likePath 4 (some .int), Cond.methodLink RX4 149 yX4_begin, Cond.instanceMethod yX4_begin, Cond.selects RX4 yX4_begin yX4_begin, Cond.code yX4_begin cX4_begin 4 (some .int), Cond.fieldLink RX4 29 "NamedStreamsModel" "place" "[I"]
def wsX4_split : List Cond := .code yX4_split cX4_split 6 (some .int) :: ((wsX4_split_r1 ++ wsX4_split_r2) ++ wsX40)
def wsX4_skip : List Cond := .code yX4_skip cX4_skip 3 (some .int) :: ([.constantLong RX4 157 (1000000000), .fieldLink RX4 29 "NamedStreamsModel" "place" "[I", .constantLong RX4 144 (2147483647), .methodLink RX4 153 yX4_isStream, .instanceMethod yX4_isStream, .selects RX4 yX4_isStream yX4_isStream, .initialized RX4, .code yX4_isStream cX4_isStream 2 (some .boolean), .fieldLink RX4 146 "NamedStreamsModel" "streams" "I", .methodLink RX4 82 yX4_in, .static yX4_in, .code yX4_in cX4_in 6 (some .boolean)] ++ wsX40)
def wsX4_keep : List Cond := .code yX4_keep cX4_keep 3 (some .int) :: ([.constantLong RX4 159 (3), .fieldLink RX4 44 "NamedStreamsModel" "isKept" "[Z", .fieldLink RX4 35 "NamedStreamsModel" "keptStream" "[I", .fieldLink RX4 38 "NamedStreamsModel" "keptPlace" "[I", .fieldLink RX4 29 "NamedStreamsModel" "place" "[I", .fieldLink RX4 41 "NamedStreamsModel" "keptSplits" "[I", .fieldLink RX4 32 "NamedStreamsModel" "splits" "[I", .methodLink RX4 82 yX4_in, .static yX4_in, .initialized RX4, .code yX4_in cX4_in 6 (some .boolean), .methodLink RX4 153 yX4_isStream, .instanceMethod yX4_isStream, .selects RX4 yX4_isStream yX4_isStream, .code yX4_isStream cX4_isStream 2 (some .boolean), .fieldLink RX4 146 "NamedStreamsModel" "streams" "I"] ++ wsX40)
def wsX4_back : List Cond := .code yX4_back cX4_back 3 (some .int) :: ([.constantLong RX4 159 (3), .fieldLink RX4 44 "NamedStreamsModel" "isKept" "[Z", .fieldLink RX4 35 "NamedStreamsModel" "keptStream" "[I", .fieldLink RX4 29 "NamedStreamsModel" "place" "[I", .fieldLink RX4 38 "NamedStreamsModel" "keptPlace" "[I", .fieldLink RX4 32 "NamedStreamsModel" "splits" "[I", .fieldLink RX4 41 "NamedStreamsModel" "keptSplits" "[I", .methodLink RX4 82 yX4_in, .static yX4_in, .initialized RX4, .code yX4_in cX4_in 6 (some .boolean)] ++ wsX40)
def wsX4_told : List Cond := .code yX4_told cX4_told 3 (some .int) :: ([.constantLong RX4 126 (2), .fieldLink RX4 26 "NamedStreamsModel" "pathOf" "[I", .fieldLink RX4 29 "NamedStreamsModel" "place" "[I", .fieldLink RX4 32 "NamedStreamsModel" "splits" "[I", .methodLink RX4 153 yX4_isStream, .instanceMethod yX4_isStream, .selects RX4 yX4_isStream yX4_isStream, .initialized RX4, .code yX4_isStream cX4_isStream 2 (some .boolean), .fieldLink RX4 146 "NamedStreamsModel" "streams" "I", .methodLink RX4 82 yX4_in, .static yX4_in, .code yX4_in cX4_in 6 (some .boolean)] ++ wsX40)
def wsX4_counted : List Cond := .code yX4_counted cX4_counted 4 (some .int) :: ([.constantLong RX4 161 (16), .constantLong RX4 163 (65536), .methodLink RX4 82 yX4_in, .static yX4_in, .initialized RX4, .code yX4_in cX4_in 6 (some .boolean)])
def wsX4_count : List Cond := .code yX4_count cX4_count 2 (some .int) :: ([.fieldLink RX4 72 "NamedStreamsModel" "paths" "I", .fieldLink RX4 146 "NamedStreamsModel" "streams" "I", .fieldLink RX4 68 "NamedStreamsModel" "toldMany" "I"] ++ wsX40)
def wsL_cell : List Cond := .code yL_cell cL_cell 2 (some .int) :: ([])
def wsL_law_r1 : List Cond := [Cond.classLink RL 7 RX3, Cond.instantiable RX3 11, Cond.initialized RX3, Cond.classLink RL 18 RX4, Cond.instantiable RX4 21, Cond.initialized RX4, Cond.constantLong RL 21 (4294967295), Cond.methodLink RL 9 yL_cell, Cond.static yL_cell, Cond.initialized RL, Cond.code yL_cell cL_cell 2 (some .int), Cond.methodLink RL 15 yX3_init, Cond.instanceMethod yX3_init, Cond.code yX3_init cX3_init 3 none, Cond.methodLink RX3 1 objectInit, Cond.instanceMethod objectInit, Cond.code objectInit ⟨#[0xb1]⟩ 1 none, Cond.arrayClass .long, Cond.fieldLink RX3 9 "NamedStreams" "toldParts" "[J", Cond.fieldLink RX3 13 "NamedStreams" "toldCount" "I", Cond.classLink RX3 17 RX1, Cond.instantiable RX1 5, Cond.initialized RX1, Cond.fieldLink RX3 20 "NamedStreams" "paths" "LNamedStreams$Paths;"]
def wsL_law_r2 : List Cond := [Cond.fieldLink RX3 24 "NamedStreams" "weights" "[J", Cond.arrayClass .int, Cond.fieldLink RX3 27 "NamedStreams" "order" "[I", Cond.classLink RX3 31 RX2, Cond.fieldLink RX3 33 "NamedStreams" "streams" "[LNamedStreams$Stream;", Cond.fieldLink RX3 37 "NamedStreams" "streamCount" "I", Cond.classLink RX3 40 RX0, Cond.fieldLink RX3 42 "NamedStreams" "kept" "[LNamedStreams$Kept;", Cond.fieldLink RX3 46 "NamedStreams" "latestTries" "I", Cond.fieldLink RX3 49 "NamedStreams" "latestStatus" "I", Cond.fieldLink RX3 52 "NamedStreams" "seed" "J", Cond.instanceMethod yX1_init, Cond.code yX1_init cX1_init 1 none, Cond.methodLink RX1 3 objectInit, Cond.fieldLink RX1 9 "NamedStreams$Paths" "rows" "[J", Cond.fieldLink RX1 15 "NamedStreams$Paths" "lengths" "[I", Cond.fieldLink RX1 19 "NamedStreams$Paths" "keys" "[J", Cond.fieldLink RX1 22 "NamedStreams$Paths" "child" "[J", Cond.fieldLink RX1 25 "NamedStreams$Paths" "size" "I", Cond.methodLink RL 20 yX4_init, Cond.instanceMethod yX4_init, Cond.code yX4_init cX4_init 3 none, Cond.methodLink RX4 1 objectInit, Cond.fieldLink RX4 7 "NamedStreamsModel" "part" "[J"]
def wsL_law_r3 : List Cond := [Cond.fieldLink RX4 13 "NamedStreamsModel" "many" "[I", Cond.fieldLink RX4 17 "NamedStreamsModel" "told" "[J", Cond.fieldLink RX4 20 "NamedStreamsModel" "weights" "[J", Cond.fieldLink RX4 23 "NamedStreamsModel" "run" "[J", Cond.fieldLink RX4 26 "NamedStreamsModel" "pathOf" "[I", Cond.fieldLink RX4 29 "NamedStreamsModel" "place" "[I", Cond.fieldLink RX4 32 "NamedStreamsModel" "splits" "[I", Cond.fieldLink RX4 35 "NamedStreamsModel" "keptStream" "[I", Cond.fieldLink RX4 38 "NamedStreamsModel" "keptPlace" "[I", Cond.fieldLink RX4 41 "NamedStreamsModel" "keptSplits" "[I", Cond.arrayClass .boolean, Cond.fieldLink RX4 44 "NamedStreamsModel" "isKept" "[Z", Cond.fieldLink RX4 48 "NamedStreamsModel" "order" "[I", Cond.fieldLink RX4 51 "NamedStreamsModel" "aside" "[J", Cond.fieldLink RX4 54 "NamedStreamsModel" "seed" "J", Cond.methodLink RL 23 yX3_part, Cond.instanceMethod yX3_part, Cond.selects RX3 yX3_part yX3_part, Cond.code yX3_part cX3_part 3 (some .int), Cond.methodLink RL 27 yX4_part, Cond.instanceMethod yX4_part, Cond.selects RX4 yX4_part yX4_part, Cond.code yX4_part cX4_part 3 (some .int), Cond.fieldLink RX4 68 "NamedStreamsModel" "toldMany" "I"]
def wsL_law_r4 : List Cond := [Cond.methodLink RL 28 yX3_path, Cond.instanceMethod yX3_path, Cond.selects RX3 yX3_path yX3_path, Cond.code yX3_path cX3_path 2 (some .int), Cond.methodLink RX3 56 yX1_enter, Cond.instanceMethod yX1_enter, Cond.selects RX1 yX1_enter yX1_enter, Cond.code yX1_enter cX1_enter 4 (some .int), Cond.methodLink RX1 29 yX1_isLike, Cond.instanceMethod yX1_isLike, Cond.selects RX1 yX1_isLike yX1_isLike, Cond.code yX1_isLike cX1_isLike 5 (some .boolean), Cond.methodLink RX1 33 yX1_add, Cond.instanceMethod yX1_add, Cond.selects RX1 yX1_add yX1_add, Cond.code yX1_add cX1_add 7 (some .int), Cond.constantLong RX1 40 (-7046029254386353131), Cond.static yX3_mix, Cond.code yX3_mix cX3_mix 4 (some .long), Cond.constantLong RX3 131 (-4658895280553007687), Cond.constantLong RX3 133 (-7723592293110705685), Cond.methodLink RL 32 yX4_path, Cond.instanceMethod yX4_path, Cond.selects RX4 yX4_path yX4_path]
def wsL_law_r5 : List Cond := [Cond.code yX4_path cX4_path 2 (some .int), Cond.methodLink RX4 79 yX4_takePath, Cond.instanceMethod yX4_takePath, Cond.selects RX4 yX4_takePath yX4_takePath, Cond.code yX4_takePath cX4_takePath 3 (some .int), Cond.fieldLink RX4 72 "NamedStreamsModel" "paths" "I", Cond.methodLink RX4 75 yX4_likePath, Cond.instanceMethod yX4_likePath, Cond.selects RX4 yX4_likePath yX4_likePath, Cond.code yX4_likePath cX4_likePath 4 (some .int), Cond.methodLink RL 33 yX3_key, Cond.instanceMethod yX3_key, Cond.selects RX3 yX3_key yX3_key, Cond.code yX3_key cX3_key 2 (some .long), Cond.fieldLink RX3 64 "NamedStreams$Paths" "keys" "[J", Cond.methodLink RX3 60 yX1_has, Cond.instanceMethod yX1_has, Cond.selects RX1 yX1_has yX1_has, Cond.code yX1_has cX1_has 2 (some .boolean), Cond.methodLink RL 37 yX4_key, Cond.instanceMethod yX4_key, Cond.selects RX4 yX4_key yX4_key, Cond.code yX4_key cX4_key 2 (some .long), Cond.fieldLink RX4 96 "NamedStreamsModel" "status" "I"]
def wsL_law_r6 : List Cond := [Cond.methodLink RX4 92 yX4_isPath, Cond.instanceMethod yX4_isPath, Cond.selects RX4 yX4_isPath yX4_isPath, Cond.code yX4_isPath cX4_isPath 2 (some .boolean), Cond.methodLink RX4 82 yX4_in, Cond.static yX4_in, Cond.code yX4_in cX4_in 6 (some .boolean), Cond.methodLink RX4 99 yX4_keyOf, Cond.instanceMethod yX4_keyOf, Cond.selects RX4 yX4_keyOf yX4_keyOf, Cond.code yX4_keyOf cX4_keyOf 5 (some .long), Cond.constantLong RX4 86 (-7046029254386353131), Cond.methodLink RX4 88 yX4_mix, Cond.static yX4_mix, Cond.code yX4_mix cX4_mix 4 (some .long), Cond.constantLong RX4 58 (-4658895280553007687), Cond.constantLong RX4 60 (-7723592293110705685), Cond.methodLink RL 38 yX3_word, Cond.instanceMethod yX3_word, Cond.selects RX3 yX3_word yX3_word, Cond.code yX3_word cX3_word 6 (some .long), Cond.methodLink RX3 67 yX3_baseOf, Cond.instanceMethod yX3_baseOf, Cond.selects RX3 yX3_baseOf yX3_baseOf]
def wsL_law_r7 : List Cond := [Cond.code yX3_baseOf cX3_baseOf 4 (some .long), Cond.constantLong RX3 135 (-7046029254386353131), Cond.methodLink RX3 137 yX3_mix, Cond.methodLink RX3 71 yX3_wordAt, Cond.static yX3_wordAt, Cond.code yX3_wordAt cX3_wordAt 4 (some .long), Cond.methodLink RL 42 yX4_word, Cond.instanceMethod yX4_word, Cond.selects RX4 yX4_word yX4_word, Cond.code yX4_word cX4_word 6 (some .long), Cond.methodLink RX4 103 yX4_wordOf, Cond.instanceMethod yX4_wordOf, Cond.selects RX4 yX4_wordOf yX4_wordOf, Cond.code yX4_wordOf cX4_wordOf 8 (some .long), Cond.methodLink RL 43 yX3_span, Cond.instanceMethod yX3_span, Cond.selects RX3 yX3_span yX3_span, Cond.code yX3_span cX3_span 7 (some .long), Cond.constantLong RX3 75 (-4), Cond.constantLong RX3 77 (-1), Cond.methodLink RX3 79 yX3_drawSpan, Cond.instanceMethod yX3_drawSpan, Cond.selects RX3 yX3_drawSpan yX3_drawSpan, Cond.code yX3_drawSpan cX3_drawSpan 16 (some .long)]
def wsL_law_r8 : List Cond := [Cond.constantLong RX3 156 (-3), Cond.methodLink RX3 149 yX3_firstCounter, Cond.static yX3_firstCounter, Cond.code yX3_firstCounter cX3_firstCounter 1 (some .long), Cond.constantLong RX3 141 (32), Cond.methodLink RX3 153 yX3_remainderUnsigned, Cond.static yX3_remainderUnsigned, Cond.code yX3_remainderUnsigned cX3_remainderUnsigned 8 (some .long), Cond.methodLink RX3 145 yX3_belowUnsigned, Cond.static yX3_belowUnsigned, Cond.code yX3_belowUnsigned cX3_belowUnsigned 4 (some .boolean), Cond.constantLong RX3 143 (-9223372036854775808), Cond.methodLink RL 47 yX4_span, Cond.instanceMethod yX4_span, Cond.selects RX4 yX4_span yX4_span, Cond.code yX4_span cX4_span 7 (some .long), Cond.constantLong RX4 118 (-1), Cond.constantLong RX4 120 (-4), Cond.methodLink RX4 122 yX4_draw, Cond.instanceMethod yX4_draw, Cond.selects RX4 yX4_draw yX4_draw, Cond.code yX4_draw cX4_draw 12 (some .long), Cond.constantLong RX4 111 (32), Cond.fieldLink RX4 113 "NamedStreamsModel" "tries" "I"]
def wsL_law_r9 : List Cond := [Cond.constantLong RX4 116 (-3), Cond.methodLink RX4 107 yX4_rest, Cond.static yX4_rest, Cond.code yX4_rest cX4_rest 8 (some .long), Cond.methodLink RX4 64 yX4_isBelow, Cond.static yX4_isBelow, Cond.code yX4_isBelow cX4_isBelow 4 (some .boolean), Cond.constantLong RX4 62 (-9223372036854775808), Cond.methodLink RL 48 yX3_fraction, Cond.instanceMethod yX3_fraction, Cond.selects RX3 yX3_fraction yX3_fraction, Cond.code yX3_fraction cX3_fraction 9 (some .int), Cond.methodLink RX3 83 yX3_drawFraction, Cond.instanceMethod yX3_drawFraction, Cond.selects RX3 yX3_drawFraction yX3_drawFraction, Cond.code yX3_drawFraction cX3_drawFraction 21 (some .int), Cond.methodLink RL 52 yX4_fraction, Cond.instanceMethod yX4_fraction, Cond.selects RX4 yX4_fraction yX4_fraction, Cond.code yX4_fraction cX4_fraction 15 (some .int), Cond.constantLong RX4 126 (2), Cond.methodLink RL 53 yX3_weight, Cond.instanceMethod yX3_weight, Cond.selects RX3 yX3_weight yX3_weight]
def wsL_law_r10 : List Cond := [Cond.code yX3_weight cX3_weight 4 (some .int), Cond.methodLink RL 57 yX4_weight, Cond.instanceMethod yX4_weight, Cond.selects RX4 yX4_weight yX4_weight, Cond.code yX4_weight cX4_weight 4 (some .int), Cond.constantLong RX4 128 (9), Cond.methodLink RL 58 yX3_pick, Cond.instanceMethod yX3_pick, Cond.selects RX3 yX3_pick yX3_pick, Cond.code yX3_pick cX3_pick 5 (some .int), Cond.methodLink RX3 87 yX3_drawPick, Cond.instanceMethod yX3_drawPick, Cond.selects RX3 yX3_drawPick yX3_drawPick, Cond.code yX3_drawPick cX3_drawPick 9 (some .int), Cond.methodLink RX3 160 yX3_sumOfWeights, Cond.instanceMethod yX3_sumOfWeights, Cond.selects RX3 yX3_sumOfWeights yX3_sumOfWeights, Cond.code yX3_sumOfWeights cX3_sumOfWeights 4 (some .long), Cond.constantLong RX3 158 (-5), Cond.methodLink RX3 164 yX3_weightReaching, Cond.instanceMethod yX3_weightReaching, Cond.selects RX3 yX3_weightReaching yX3_weightReaching, Cond.code yX3_weightReaching cX3_weightReaching 6 (some .int), Cond.methodLink RL 62 yX4_pick]
def wsL_law_r11 : List Cond := [Cond.instanceMethod yX4_pick, Cond.selects RX4 yX4_pick yX4_pick, Cond.code yX4_pick cX4_pick 7 (some .int), Cond.fieldLink RX4 130 "NamedStreamsModel" "isGreat" "Z", Cond.methodLink RX4 134 yX4_sum, Cond.instanceMethod yX4_sum, Cond.selects RX4 yX4_sum yX4_sum, Cond.code yX4_sum cX4_sum 4 (some .long), Cond.methodLink RX4 138 yX4_picked, Cond.instanceMethod yX4_picked, Cond.selects RX4 yX4_picked yX4_picked, Cond.code yX4_picked cX4_picked 12 (some .int), Cond.methodLink RL 63 yX3_permuted, Cond.instanceMethod yX3_permuted, Cond.selects RX3 yX3_permuted yX3_permuted, Cond.code yX3_permuted cX3_permuted 7 (some .int), Cond.constant RX3 91 (2147483647), Cond.methodLink RX3 92 yX3_drawPermutation, Cond.instanceMethod yX3_drawPermutation, Cond.selects RX3 yX3_drawPermutation yX3_drawPermutation, Cond.code yX3_drawPermutation cX3_drawPermutation 11 (some .boolean), Cond.methodLink RL 67 yX4_permuted, Cond.instanceMethod yX4_permuted, Cond.selects RX4 yX4_permuted yX4_permuted]
def wsL_law_r12 : List Cond := [Cond.code yX4_permuted cX4_permuted 11 (some .int), Cond.constantLong RX4 142 (40), Cond.constantLong RX4 144 (2147483647), Cond.methodLink RL 68 yX3_tries, Cond.instanceMethod yX3_tries, Cond.selects RX3 yX3_tries yX3_tries, Cond.code yX3_tries cX3_tries 1 (some .int), Cond.methodLink RL 71 yX4_tries, Cond.instanceMethod yX4_tries, Cond.selects RX4 yX4_tries yX4_tries, Cond.code yX4_tries cX4_tries 1 (some .int), Cond.methodLink RL 72 yX3_status, Cond.instanceMethod yX3_status, Cond.selects RX3 yX3_status yX3_status, Cond.code yX3_status cX3_status 1 (some .int), Cond.methodLink RL 75 yX4_status, Cond.instanceMethod yX4_status, Cond.selects RX4 yX4_status yX4_status, Cond.code yX4_status cX4_status 1 (some .int), Cond.methodLink RL 76 yX3_open, Cond.instanceMethod yX3_open, Cond.selects RX3 yX3_open yX3_open, Cond.code yX3_open cX3_open 4 (some .int), Cond.methodLink RX3 96 yX3_addStream]
def wsL_law_r13 : List Cond := [Cond.instanceMethod yX3_addStream, Cond.selects RX3 yX3_addStream yX3_addStream, Cond.code yX3_addStream cX3_addStream 5 (some .int), Cond.instantiable RX2 4, Cond.initialized RX2, Cond.methodLink RX3 168 yX2_init, Cond.instanceMethod yX2_init, Cond.code yX2_init cX2_init 4 none, Cond.methodLink RX2 1 objectInit, Cond.fieldLink RX2 7 "NamedStreams$Stream" "place" "I", Cond.fieldLink RX2 13 "NamedStreams$Stream" "splits" "I", Cond.fieldLink RX2 16 "NamedStreams$Stream" "run" "J", Cond.fieldLink RX2 20 "NamedStreams$Stream" "path" "I", Cond.methodLink RL 80 yX4_open, Cond.instanceMethod yX4_open, Cond.selects RX4 yX4_open yX4_open, Cond.code yX4_open cX4_open 4 (some .int), Cond.fieldLink RX4 146 "NamedStreamsModel" "streams" "I", Cond.methodLink RX4 149 yX4_begin, Cond.instanceMethod yX4_begin, Cond.selects RX4 yX4_begin yX4_begin, Cond.code yX4_begin cX4_begin 4 (some .int), Cond.methodLink RL 81 yX3_next, Cond.instanceMethod yX3_next]
def wsL_law_r14 : List Cond := [Cond.selects RX3 yX3_next yX3_next, Cond.code yX3_next cX3_next 7 (some .long), Cond.fieldLink RX3 104 "NamedStreams$Stream" "place" "I", Cond.fieldLink RX3 107 "NamedStreams$Stream" "run" "J", Cond.fieldLink RX3 110 "NamedStreams$Stream" "path" "I", Cond.methodLink RX3 100 yX3_streamAt, Cond.instanceMethod yX3_streamAt, Cond.selects RX3 yX3_streamAt yX3_streamAt, Cond.code yX3_streamAt cX3_streamAt 2 (some (.object "NamedStreams$Stream")), Cond.methodLink RL 85 yX4_next, Cond.instanceMethod yX4_next, Cond.selects RX4 yX4_next yX4_next, Cond.code yX4_next cX4_next 6 (some .long), Cond.constant RX4 156 (2147483647), Cond.methodLink RX4 153 yX4_isStream, Cond.instanceMethod yX4_isStream, Cond.selects RX4 yX4_isStream yX4_isStream, Cond.code yX4_isStream cX4_isStream 2 (some .boolean), Cond.methodLink RL 86 yX3_nextPick, Cond.instanceMethod yX3_nextPick, Cond.selects RX3 yX3_nextPick yX3_nextPick, Cond.code yX3_nextPick cX3_nextPick 4 (some .int), Cond.methodLink RL 90 yX4_nextPick, Cond.instanceMethod yX4_nextPick]
def wsL_law_r15 : List Cond := [Cond.selects RX4 yX4_nextPick yX4_nextPick, Cond.code yX4_nextPick cX4_nextPick 5 (some .int), Cond.methodLink RL 91 yX3_split, Cond.instanceMethod yX3_split, Cond.selects RX3 yX3_split yX3_split, Cond.code yX3_split cX3_split 4 (some .int), Cond.fieldLink RX3 113 "NamedStreams$Stream" "splits" "I", Cond.methodLink RX3 116 yX1_enterChild, Cond.instanceMethod yX1_enterChild, Cond.selects RX1 yX1_enterChild yX1_enterChild, Cond.code yX1_enterChild cX1_enterChild 6 (some .int), Cond.methodLink RX1 37 yX1_enter, Cond.methodLink RL 94 yX4_split, Cond.instanceMethod yX4_split, Cond.selects RX4 yX4_split yX4_split, Cond.code yX4_split cX4_split 6 (some .int), Cond.methodLink RL 95 yX3_skip, Cond.instanceMethod yX3_skip, Cond.selects RX3 yX3_skip yX3_skip, Cond.code yX3_skip cX3_skip 4 (some .int), Cond.constant RX3 120 (1000000000), Cond.methodLink RL 99 yX4_skip, Cond.instanceMethod yX4_skip, Cond.selects RX4 yX4_skip yX4_skip]
def wsL_law_r16 : List Cond := [Cond.code yX4_skip cX4_skip 3 (some .int), Cond.constantLong RX4 157 (1000000000), Cond.methodLink RL 100 yX3_keep, Cond.instanceMethod yX3_keep, Cond.selects RX3 yX3_keep yX3_keep, Cond.code yX3_keep cX3_keep 5 (some .int), Cond.instantiable RX0 3, Cond.initialized RX0, Cond.fieldLink RX3 122 "NamedStreams$Kept" "stream" "I", Cond.fieldLink RX3 125 "NamedStreams$Kept" "place" "I", Cond.fieldLink RX3 126 "NamedStreams$Kept" "splits" "I", Cond.instanceMethod yX0_init, Cond.code yX0_init cX0_init 1 none, Cond.methodLink RX0 1 objectInit, Cond.fieldLink RX0 7 "NamedStreams$Kept" "stream" "I", Cond.fieldLink RX0 13 "NamedStreams$Kept" "place" "I", Cond.fieldLink RX0 16 "NamedStreams$Kept" "splits" "I", Cond.methodLink RL 103 yX4_keep, Cond.instanceMethod yX4_keep, Cond.selects RX4 yX4_keep yX4_keep, Cond.code yX4_keep cX4_keep 3 (some .int), Cond.constantLong RX4 159 (3), Cond.methodLink RL 104 yX3_back, Cond.instanceMethod yX3_back]
def wsL_law_r17 : List Cond := [Cond.selects RX3 yX3_back yX3_back, Cond.code yX3_back cX3_back 4 (some .int), Cond.methodLink RL 107 yX4_back, Cond.instanceMethod yX4_back, Cond.selects RX4 yX4_back yX4_back, Cond.code yX4_back cX4_back 3 (some .int), Cond.methodLink RL 108 yX3_told, Cond.instanceMethod yX3_told, Cond.selects RX3 yX3_told yX3_told, Cond.code yX3_told cX3_told 4 (some .int), Cond.methodLink RL 111 yX4_told, Cond.instanceMethod yX4_told, Cond.selects RX4 yX4_told yX4_told, Cond.code yX4_told cX4_told 3 (some .int), Cond.methodLink RL 112 yX3_counted, Cond.instanceMethod yX3_counted, Cond.selects RX3 yX3_counted yX3_counted, Cond.code yX3_counted cX3_counted 4 (some .int), Cond.constant RX3 127 (65536), Cond.methodLink RL 116 yX4_counted, Cond.instanceMethod yX4_counted, Cond.selects RX4 yX4_counted yX4_counted, Cond.code yX4_counted cX4_counted 4 (some .int), Cond.constantLong RX4 161 (16)]
def wsL_law_r18 : List Cond := [Cond.constantLong RX4 163 (65536), Cond.methodLink RL 117 yX3_count, Cond.instanceMethod yX3_count, Cond.selects RX3 yX3_count yX3_count, Cond.code yX3_count cX3_count 2 (some .int), Cond.fieldLink RX3 128 "NamedStreams$Paths" "size" "I", Cond.methodLink RL 120 yX4_count, Cond.instanceMethod yX4_count, Cond.selects RX4 yX4_count yX4_count, Cond.code yX4_count cX4_count 2 (some .int)]
def wsL_law : List Cond := (wsL_law_r1 ++ (wsL_law_r2 ++ (wsL_law_r3 ++ (wsL_law_r4 ++ (wsL_law_r5 ++ (wsL_law_r6 ++ (wsL_law_r7 ++ (wsL_law_r8 ++ (wsL_law_r9 ++ (wsL_law_r10 ++ (wsL_law_r11 ++ (wsL_law_r12 ++ (wsL_law_r13 ++ (wsL_law_r14 ++ (wsL_law_r15 ++ (wsL_law_r16 ++ (wsL_law_r17 ++ wsL_law_r18))))))))))))))))) ++ wsX30 ++ wsX40 ++ wsX10 ++ wsX20 ++ wsX00 ++ ([] : List Cond)
set_option maxRecDepth 20000 in
set_option maxRecDepth 100000 in
theorem wsL_law_r1_in : ∀ w ∈ wsL_law_r1, w ∈ lw_tbl := fun w h => (goodIn_p wsL_law_r1 [311, 31, 34] rfl (by decide +kernel) w h).1
set_option maxRecDepth 100000 in
theorem wsL_law_r2_in : ∀ w ∈ wsL_law_r2, w ∈ lw_tbl := fun w h => (goodIn_p wsL_law_r2 [39, 316] rfl (by decide +kernel) w h).1
set_option maxRecDepth 100000 in
theorem wsL_law_r3_in : ∀ w ∈ wsL_law_r3, w ∈ lw_tbl := fun w h => (goodIn_p wsL_law_r3 [102, 386] rfl (by decide +kernel) w h).1
set_option maxRecDepth 100000 in
theorem wsL_law_r4_in : ∀ w ∈ wsL_law_r4, w ∈ lw_tbl := fun w h => (goodIn_p wsL_law_r4 [106, 110, 114, 118, 122] rfl (by decide +kernel) w h).1
set_option maxRecDepth 100000 in
theorem wsL_law_r5_in : ∀ w ∈ wsL_law_r5, w ∈ lw_tbl := fun w h => (goodIn_p wsL_law_r5 [390, 394, 398, 128, 132, 402] rfl (by decide +kernel) w h).1
set_option maxRecDepth 100000 in
theorem wsL_law_r6_in : ∀ w ∈ wsL_law_r6, w ∈ lw_tbl := fun w h => (goodIn_p wsL_law_r6 [406, 409, 413, 417, 136] rfl (by decide +kernel) w h).1
set_option maxRecDepth 100000 in
theorem wsL_law_r7_in : ∀ w ∈ wsL_law_r7, w ∈ lw_tbl := fun w h => (goodIn_p wsL_law_r7 [140, 145, 423, 427, 149, 155] rfl (by decide +kernel) w h).1
set_option maxRecDepth 100000 in
theorem wsL_law_r8_in : ∀ w ∈ wsL_law_r8, w ∈ lw_tbl := fun w h => (goodIn_p wsL_law_r8 [158, 162, 165, 431, 437] rfl (by decide +kernel) w h).1
set_option maxRecDepth 100000 in
theorem wsL_law_r9_in : ∀ w ∈ wsL_law_r9, w ∈ lw_tbl := fun w h => (goodIn_p wsL_law_r9 [440, 443, 171, 175, 450] rfl (by decide +kernel) w h).1
set_option maxRecDepth 100000 in
theorem wsL_law_r10_in : ∀ w ∈ wsL_law_r10, w ∈ lw_tbl := fun w h => (goodIn_p wsL_law_r10 [179, 455, 183, 187, 191, 196] rfl (by decide +kernel) w h).1
set_option maxRecDepth 100000 in
theorem wsL_law_r11_in : ∀ w ∈ wsL_law_r11, w ∈ lw_tbl := fun w h => (goodIn_p wsL_law_r11 [460, 464, 468, 200, 205] rfl (by decide +kernel) w h).1
set_option maxRecDepth 100000 in
theorem wsL_law_r12_in : ∀ w ∈ wsL_law_r12, w ∈ lw_tbl := fun w h => (goodIn_p wsL_law_r12 [472, 209, 478, 213, 482, 217] rfl (by decide +kernel) w h).1
set_option maxRecDepth 100000 in
theorem wsL_law_r13_in : ∀ w ∈ wsL_law_r13, w ∈ lw_tbl := fun w h => (goodIn_p wsL_law_r13 [221, 225, 486, 490] rfl (by decide +kernel) w h).1
set_option maxRecDepth 100000 in
theorem wsL_law_r14_in : ∀ w ∈ wsL_law_r14, w ∈ lw_tbl := fun w h => (goodIn_p wsL_law_r14 [247, 251, 494, 498, 255] rfl (by decide +kernel) w h).1
set_option maxRecDepth 100000 in
theorem wsL_law_r15_in : ∀ w ∈ wsL_law_r15, w ∈ lw_tbl := fun w h => (goodIn_p wsL_law_r15 [503, 259, 263, 507, 268] rfl (by decide +kernel) w h).1
set_option maxRecDepth 100000 in
theorem wsL_law_r16_in : ∀ w ∈ wsL_law_r16, w ∈ lw_tbl := fun w h => (goodIn_p wsL_law_r16 [511, 273, 277, 516] rfl (by decide +kernel) w h).1
set_option maxRecDepth 100000 in
theorem wsL_law_r17_in : ∀ w ∈ wsL_law_r17, w ∈ lw_tbl := fun w h => (goodIn_p wsL_law_r17 [295, 521, 299, 525, 303, 529] rfl (by decide +kernel) w h).1
set_option maxRecDepth 100000 in
theorem wsL_law_r18_in : ∀ w ∈ wsL_law_r18, w ∈ lw_tbl := fun w h => (goodIn_p wsL_law_r18 [308, 535] rfl (by decide +kernel) w h).1
set_option maxRecDepth 100000 in
theorem wsX30_in : ∀ w ∈ wsX30, w ∈ lw_tbl := by decide +kernel
set_option maxRecDepth 100000 in
theorem wsX40_in : ∀ w ∈ wsX40, w ∈ lw_tbl := by decide +kernel
set_option maxRecDepth 100000 in
theorem wsX10_in : ∀ w ∈ wsX10, w ∈ lw_tbl := by decide +kernel
set_option maxRecDepth 100000 in
theorem wsX20_in : ∀ w ∈ wsX20, w ∈ lw_tbl := by decide +kernel
set_option maxRecDepth 100000 in
theorem wsX00_in : ∀ w ∈ wsX00, w ∈ lw_tbl := by decide +kernel
theorem wsL_law_in : ∀ w ∈ wsL_law, w ∈ lw_tbl := fun w h => (List.mem_append.mp h).elim (fun h => (List.mem_append.mp h).elim (fun h => (List.mem_append.mp h).elim (fun h => (List.mem_append.mp h).elim (fun h => (List.mem_append.mp h).elim (fun h => (List.mem_append.mp h).elim (fun h => (List.mem_append.mp h).elim (fun h => wsL_law_r1_in w h) (fun h => (List.mem_append.mp h).elim (fun h => wsL_law_r2_in w h) (fun h => (List.mem_append.mp h).elim (fun h => wsL_law_r3_in w h) (fun h => (List.mem_append.mp h).elim (fun h => wsL_law_r4_in w h) (fun h => (List.mem_append.mp h).elim (fun h => wsL_law_r5_in w h) (fun h => (List.mem_append.mp h).elim (fun h => wsL_law_r6_in w h) (fun h => (List.mem_append.mp h).elim (fun h => wsL_law_r7_in w h) (fun h => (List.mem_append.mp h).elim (fun h => wsL_law_r8_in w h) (fun h => (List.mem_append.mp h).elim (fun h => wsL_law_r9_in w h) (fun h => (List.mem_append.mp h).elim (fun h => wsL_law_r10_in w h) (fun h => (List.mem_append.mp h).elim (fun h => wsL_law_r11_in w h) (fun h => (List.mem_append.mp h).elim (fun h => wsL_law_r12_in w h) (fun h => (List.mem_append.mp h).elim (fun h => wsL_law_r13_in w h) (fun h => (List.mem_append.mp h).elim (fun h => wsL_law_r14_in w h) (fun h => (List.mem_append.mp h).elim (fun h => wsL_law_r15_in w h) (fun h => (List.mem_append.mp h).elim (fun h => wsL_law_r16_in w h) (fun h => (List.mem_append.mp h).elim (fun h => wsL_law_r17_in w h) (fun h => wsL_law_r18_in w h)))))))))))))))))) (fun h => wsX30_in w h)) (fun h => wsX40_in w h)) (fun h => wsX10_in w h)) (fun h => wsX20_in w h)) (fun h => wsX00_in w h)) (fun h => absurd h List.not_mem_nil)
theorem inlX0 : ∀ w ∈ wsX00, w ∈ wsL_law := fun _ h => List.mem_append_left _ (List.mem_append_right _ h)
theorem inX0 : ∀ w ∈ wsX00, w ∈ lw_tbl := fun w h => wsL_law_in w (inlX0 w h)
theorem inlX1 : ∀ w ∈ wsX10, w ∈ wsL_law := fun _ h => List.mem_append_left _ (List.mem_append_left _ (List.mem_append_left _ (List.mem_append_right _ h)))
theorem inX1 : ∀ w ∈ wsX10, w ∈ lw_tbl := fun w h => wsL_law_in w (inlX1 w h)
theorem inlX2 : ∀ w ∈ wsX20, w ∈ wsL_law := fun _ h => List.mem_append_left _ (List.mem_append_left _ (List.mem_append_right _ h))
theorem inX2 : ∀ w ∈ wsX20, w ∈ lw_tbl := fun w h => wsL_law_in w (inlX2 w h)
theorem inlX3 : ∀ w ∈ wsX30, w ∈ wsL_law := fun _ h => List.mem_append_left _ (List.mem_append_left _ (List.mem_append_left _ (List.mem_append_left _ (List.mem_append_left _ (List.mem_append_right _ h)))))
theorem inX3 : ∀ w ∈ wsX30, w ∈ lw_tbl := fun w h => wsL_law_in w (inlX3 w h)
theorem inlX4 : ∀ w ∈ wsX40, w ∈ wsL_law := fun _ h => List.mem_append_left _ (List.mem_append_left _ (List.mem_append_left _ (List.mem_append_left _ (List.mem_append_right _ h))))
theorem inX4 : ∀ w ∈ wsX40, w ∈ lw_tbl := fun w h => wsL_law_in w (inlX4 w h)
abbrev vwCl : List vw_C := [(RX0, TX0, 3), (RX1, TX1, 5), (RX2, TX2, 4), (RX3, TX3, 11), (RX4, TX4, 21)]
end
section
theorem dX0_init_0 : decode cX0_init 0 = .ok (.aload_n 0, 1) := by decide +kernel
theorem dX0_init_1 : decode cX0_init 1 = .ok (.invokespecial 1, 3) := by decide +kernel
theorem dX0_init_4 : decode cX0_init 4 = .ok (.aload_n 0, 1) := by decide +kernel
theorem dX0_init_5 : decode cX0_init 5 = .ok (.iconst 0, 1) := by decide +kernel
theorem dX0_init_6 : decode cX0_init 6 = .ok (.putfield 7, 3) := by decide +kernel
theorem dX0_init_9 : decode cX0_init 9 = .ok (.aload_n 0, 1) := by decide +kernel
theorem dX0_init_10 : decode cX0_init 10 = .ok (.iconst 0, 1) := by decide +kernel
theorem dX0_init_11 : decode cX0_init 11 = .ok (.putfield 13, 3) := by decide +kernel
theorem dX0_init_14 : decode cX0_init 14 = .ok (.aload_n 0, 1) := by decide +kernel
theorem dX0_init_15 : decode cX0_init 15 = .ok (.iconst 0, 1) := by decide +kernel
theorem dX0_init_16 : decode cX0_init 16 = .ok (.putfield 16, 3) := by decide +kernel
theorem dX0_init_19 : decode cX0_init 19 = .ok (.return_, 1) := by decide +kernel
theorem dX1_init_0 : decode cX1_init 0 = .ok (.aload_n 0, 1) := by decide +kernel
theorem dX1_init_1 : decode cX1_init 1 = .ok (.invokespecial 3, 3) := by decide +kernel
theorem dX1_init_4 : decode cX1_init 4 = .ok (.aload_n 0, 1) := by decide +kernel
theorem dX1_init_5 : decode cX1_init 5 = .ok (.bipush 96, 2) := by decide +kernel
theorem dX1_init_7 : decode cX1_init 7 = .ok (.newarray .long, 2) := by decide +kernel
theorem dX1_init_9 : decode cX1_init 9 = .ok (.putfield 9, 3) := by decide +kernel
theorem dX1_init_12 : decode cX1_init 12 = .ok (.aload_n 0, 1) := by decide +kernel
theorem dX1_init_13 : decode cX1_init 13 = .ok (.bipush 24, 2) := by decide +kernel
theorem dX1_init_15 : decode cX1_init 15 = .ok (.newarray .int, 2) := by decide +kernel
theorem dX1_init_17 : decode cX1_init 17 = .ok (.putfield 15, 3) := by decide +kernel
theorem dX1_init_20 : decode cX1_init 20 = .ok (.aload_n 0, 1) := by decide +kernel
theorem dX1_init_21 : decode cX1_init 21 = .ok (.bipush 24, 2) := by decide +kernel
theorem dX1_init_23 : decode cX1_init 23 = .ok (.newarray .long, 2) := by decide +kernel
theorem dX1_init_25 : decode cX1_init 25 = .ok (.putfield 19, 3) := by decide +kernel
theorem dX1_init_28 : decode cX1_init 28 = .ok (.aload_n 0, 1) := by decide +kernel
theorem dX1_init_29 : decode cX1_init 29 = .ok (.iconst 4, 1) := by decide +kernel
theorem dX1_init_30 : decode cX1_init 30 = .ok (.newarray .long, 2) := by decide +kernel
theorem dX1_init_32 : decode cX1_init 32 = .ok (.putfield 22, 3) := by decide +kernel
theorem dX1_init_35 : decode cX1_init 35 = .ok (.aload_n 0, 1) := by decide +kernel
theorem dX1_init_36 : decode cX1_init 36 = .ok (.iconst 0, 1) := by decide +kernel
theorem dX1_init_37 : decode cX1_init 37 = .ok (.putfield 25, 3) := by decide +kernel
theorem dX1_init_40 : decode cX1_init 40 = .ok (.return_, 1) := by decide +kernel
theorem dX1_has_0 : decode cX1_has 0 = .ok (.iload_n 1, 1) := by decide +kernel
theorem dX1_has_1 : decode cX1_has 1 = .ok (.ifCond .lt 15, 3) := by decide +kernel
theorem dX1_has_4 : decode cX1_has 4 = .ok (.iload_n 1, 1) := by decide +kernel
theorem dX1_has_5 : decode cX1_has 5 = .ok (.aload_n 0, 1) := by decide +kernel
theorem dX1_has_6 : decode cX1_has 6 = .ok (.getfield 25, 3) := by decide +kernel
theorem dX1_has_9 : decode cX1_has 9 = .ok (.if_icmp .ge 7, 3) := by decide +kernel
theorem dX1_has_12 : decode cX1_has 12 = .ok (.iconst 1, 1) := by decide +kernel
theorem dX1_has_13 : decode cX1_has 13 = .ok (.goto 4, 3) := by decide +kernel
theorem dX1_has_16 : decode cX1_has 16 = .ok (.iconst 0, 1) := by decide +kernel
theorem dX1_has_17 : decode cX1_has 17 = .ok (.ireturn, 1) := by decide +kernel
set_option maxRecDepth 20000 in
theorem ggX1_enter_X1_isLike : GoodIn wsX1_enter wsX1_isLike := goodIn_r _ [6, 7, 8, 20, 21, 22, 23, 24] (by decide +kernel) (by decide +kernel)
set_option maxRecDepth 20000 in
theorem gX1_enter_X1_isLike : GoodIn wsX1_enter (wsV RX1 29 RX1 yX1_isLike wsX1_isLike) := goodIn_app (goodIn_of _ (by decide +kernel)) ggX1_enter_X1_isLike
set_option maxRecDepth 20000 in
theorem ggX1_enter_X1_add : GoodIn wsX1_enter wsX1_add := goodIn_r _ [12, 1, 8, 13, 7, 14, 15, 16, 17, 18, 19, 20, 21, 22, 23, 24] (by decide +kernel) (by decide +kernel)
set_option maxRecDepth 20000 in
theorem gX1_enter_X1_add : GoodIn wsX1_enter (wsV RX1 33 RX1 yX1_add wsX1_add) := goodIn_app (goodIn_of _ (by decide +kernel)) ggX1_enter_X1_add
theorem dX1_enter_0 : decode cX1_enter 0 = .ok (.iconst 0, 1) := by decide +kernel
theorem dX1_enter_1 : decode cX1_enter 1 = .ok (.istore_n 3, 1) := by decide +kernel
theorem dX1_enter_2 : decode cX1_enter 2 = .ok (.iload_n 3, 1) := by decide +kernel
theorem dX1_enter_3 : decode cX1_enter 3 = .ok (.aload_n 0, 1) := by decide +kernel
theorem dX1_enter_4 : decode cX1_enter 4 = .ok (.getfield 25, 3) := by decide +kernel
theorem dX1_enter_7 : decode cX1_enter 7 = .ok (.if_icmp .ge 21, 3) := by decide +kernel
theorem dX1_enter_10 : decode cX1_enter 10 = .ok (.aload_n 0, 1) := by decide +kernel
theorem dX1_enter_11 : decode cX1_enter 11 = .ok (.iload_n 3, 1) := by decide +kernel
theorem dX1_enter_12 : decode cX1_enter 12 = .ok (.aload_n 1, 1) := by decide +kernel
theorem dX1_enter_13 : decode cX1_enter 13 = .ok (.iload_n 2, 1) := by decide +kernel
theorem dX1_enter_14 : decode cX1_enter 14 = .ok (.invokevirtual 29, 3) := by decide +kernel
theorem dX1_enter_17 : decode cX1_enter 17 = .ok (.ifCond .eq 5, 3) := by decide +kernel
theorem dX1_enter_20 : decode cX1_enter 20 = .ok (.iload_n 3, 1) := by decide +kernel
theorem dX1_enter_21 : decode cX1_enter 21 = .ok (.ireturn, 1) := by decide +kernel
theorem dX1_enter_22 : decode cX1_enter 22 = .ok (.iinc 3 1, 3) := by decide +kernel
theorem dX1_enter_25 : decode cX1_enter 25 = .ok (.goto (-23), 3) := by decide +kernel
theorem dX1_enter_28 : decode cX1_enter 28 = .ok (.aload_n 0, 1) := by decide +kernel
theorem dX1_enter_29 : decode cX1_enter 29 = .ok (.getfield 25, 3) := by decide +kernel
theorem dX1_enter_32 : decode cX1_enter 32 = .ok (.bipush 24, 2) := by decide +kernel
theorem dX1_enter_34 : decode cX1_enter 34 = .ok (.if_icmp .lt 8, 3) := by decide +kernel
theorem dX1_enter_37 : decode cX1_enter 37 = .ok (.bipush (-2), 2) := by decide +kernel
theorem dX1_enter_39 : decode cX1_enter 39 = .ok (.goto 9, 3) := by decide +kernel
theorem dX1_enter_42 : decode cX1_enter 42 = .ok (.aload_n 0, 1) := by decide +kernel
theorem dX1_enter_43 : decode cX1_enter 43 = .ok (.aload_n 1, 1) := by decide +kernel
theorem dX1_enter_44 : decode cX1_enter 44 = .ok (.iload_n 2, 1) := by decide +kernel
theorem dX1_enter_45 : decode cX1_enter 45 = .ok (.invokevirtual 33, 3) := by decide +kernel
theorem dX1_enter_48 : decode cX1_enter 48 = .ok (.ireturn, 1) := by decide +kernel
set_option maxRecDepth 20000 in
theorem ggX1_enterChild_X1_enter : GoodIn wsX1_enterChild wsX1_enter := goodIn_r _ [8, 9, 10, 11, 12, 7, 13, 1, 3, 14, 15, 16, 17, 18, 19, 20, 21, 22, 23, 24, 25, 26, 27, 28, 29] (by decide +kernel) (by decide +kernel)
set_option maxRecDepth 20000 in
theorem gX1_enterChild_X1_enter : GoodIn wsX1_enterChild (wsV RX1 37 RX1 yX1_enter wsX1_enter) := goodIn_app (goodIn_of _ (by decide +kernel)) ggX1_enterChild_X1_enter
theorem dX1_enterChild_0 : decode cX1_enterChild 0 = .ok (.aload_n 0, 1) := by decide +kernel
theorem dX1_enterChild_1 : decode cX1_enterChild 1 = .ok (.getfield 15, 3) := by decide +kernel
theorem dX1_enterChild_4 : decode cX1_enterChild 4 = .ok (.iload_n 1, 1) := by decide +kernel
theorem dX1_enterChild_5 : decode cX1_enterChild 5 = .ok (.iaload, 1) := by decide +kernel
theorem dX1_enterChild_6 : decode cX1_enterChild 6 = .ok (.istore 4, 2) := by decide +kernel
theorem dX1_enterChild_8 : decode cX1_enterChild 8 = .ok (.iload 4, 2) := by decide +kernel
theorem dX1_enterChild_10 : decode cX1_enterChild 10 = .ok (.iconst 4, 1) := by decide +kernel
theorem dX1_enterChild_11 : decode cX1_enterChild 11 = .ok (.if_icmp .lt 6, 3) := by decide +kernel
theorem dX1_enterChild_14 : decode cX1_enterChild 14 = .ok (.bipush (-2), 2) := by decide +kernel
theorem dX1_enterChild_16 : decode cX1_enterChild 16 = .ok (.ireturn, 1) := by decide +kernel
theorem dX1_enterChild_17 : decode cX1_enterChild 17 = .ok (.iconst 0, 1) := by decide +kernel
theorem dX1_enterChild_18 : decode cX1_enterChild 18 = .ok (.istore 5, 2) := by decide +kernel
theorem dX1_enterChild_20 : decode cX1_enterChild 20 = .ok (.iload 5, 2) := by decide +kernel
theorem dX1_enterChild_22 : decode cX1_enterChild 22 = .ok (.iload 4, 2) := by decide +kernel
theorem dX1_enterChild_24 : decode cX1_enterChild 24 = .ok (.if_icmp .ge 27, 3) := by decide +kernel
theorem dX1_enterChild_27 : decode cX1_enterChild 27 = .ok (.aload_n 0, 1) := by decide +kernel
theorem dX1_enterChild_28 : decode cX1_enterChild 28 = .ok (.getfield 22, 3) := by decide +kernel
theorem dX1_enterChild_31 : decode cX1_enterChild 31 = .ok (.iload 5, 2) := by decide +kernel
theorem dX1_enterChild_33 : decode cX1_enterChild 33 = .ok (.aload_n 0, 1) := by decide +kernel
theorem dX1_enterChild_34 : decode cX1_enterChild 34 = .ok (.getfield 9, 3) := by decide +kernel
theorem dX1_enterChild_37 : decode cX1_enterChild 37 = .ok (.iload_n 1, 1) := by decide +kernel
theorem dX1_enterChild_38 : decode cX1_enterChild 38 = .ok (.iconst 4, 1) := by decide +kernel
theorem dX1_enterChild_39 : decode cX1_enterChild 39 = .ok (.imul, 1) := by decide +kernel
theorem dX1_enterChild_40 : decode cX1_enterChild 40 = .ok (.iload 5, 2) := by decide +kernel
theorem dX1_enterChild_42 : decode cX1_enterChild 42 = .ok (.iadd, 1) := by decide +kernel
theorem dX1_enterChild_43 : decode cX1_enterChild 43 = .ok (.laload, 1) := by decide +kernel
theorem dX1_enterChild_44 : decode cX1_enterChild 44 = .ok (.lastore, 1) := by decide +kernel
theorem dX1_enterChild_45 : decode cX1_enterChild 45 = .ok (.iinc 5 1, 3) := by decide +kernel
theorem dX1_enterChild_48 : decode cX1_enterChild 48 = .ok (.goto (-28), 3) := by decide +kernel
theorem dX1_enterChild_51 : decode cX1_enterChild 51 = .ok (.aload_n 0, 1) := by decide +kernel
theorem dX1_enterChild_52 : decode cX1_enterChild 52 = .ok (.getfield 22, 3) := by decide +kernel
theorem dX1_enterChild_55 : decode cX1_enterChild 55 = .ok (.iload 4, 2) := by decide +kernel
theorem dX1_enterChild_57 : decode cX1_enterChild 57 = .ok (.lload_n 2, 1) := by decide +kernel
theorem dX1_enterChild_58 : decode cX1_enterChild 58 = .ok (.lastore, 1) := by decide +kernel
theorem dX1_enterChild_59 : decode cX1_enterChild 59 = .ok (.aload_n 0, 1) := by decide +kernel
theorem dX1_enterChild_60 : decode cX1_enterChild 60 = .ok (.aload_n 0, 1) := by decide +kernel
theorem dX1_enterChild_61 : decode cX1_enterChild 61 = .ok (.getfield 22, 3) := by decide +kernel
theorem dX1_enterChild_64 : decode cX1_enterChild 64 = .ok (.iload 4, 2) := by decide +kernel
theorem dX1_enterChild_66 : decode cX1_enterChild 66 = .ok (.iconst 1, 1) := by decide +kernel
theorem dX1_enterChild_67 : decode cX1_enterChild 67 = .ok (.iadd, 1) := by decide +kernel
theorem dX1_enterChild_68 : decode cX1_enterChild 68 = .ok (.invokevirtual 37, 3) := by decide +kernel
theorem dX1_enterChild_71 : decode cX1_enterChild 71 = .ok (.ireturn, 1) := by decide +kernel
theorem dX1_isLike_0 : decode cX1_isLike 0 = .ok (.aload_n 0, 1) := by decide +kernel
theorem dX1_isLike_1 : decode cX1_isLike 1 = .ok (.getfield 15, 3) := by decide +kernel
theorem dX1_isLike_4 : decode cX1_isLike 4 = .ok (.iload_n 1, 1) := by decide +kernel
theorem dX1_isLike_5 : decode cX1_isLike 5 = .ok (.iaload, 1) := by decide +kernel
theorem dX1_isLike_6 : decode cX1_isLike 6 = .ok (.iload_n 3, 1) := by decide +kernel
theorem dX1_isLike_7 : decode cX1_isLike 7 = .ok (.if_icmp .eq 5, 3) := by decide +kernel
theorem dX1_isLike_10 : decode cX1_isLike 10 = .ok (.iconst 0, 1) := by decide +kernel
theorem dX1_isLike_11 : decode cX1_isLike 11 = .ok (.ireturn, 1) := by decide +kernel
theorem dX1_isLike_12 : decode cX1_isLike 12 = .ok (.iconst 0, 1) := by decide +kernel
theorem dX1_isLike_13 : decode cX1_isLike 13 = .ok (.istore 4, 2) := by decide +kernel
theorem dX1_isLike_15 : decode cX1_isLike 15 = .ok (.iload 4, 2) := by decide +kernel
theorem dX1_isLike_17 : decode cX1_isLike 17 = .ok (.iload_n 3, 1) := by decide +kernel
theorem dX1_isLike_18 : decode cX1_isLike 18 = .ok (.if_icmp .ge 30, 3) := by decide +kernel
theorem dX1_isLike_21 : decode cX1_isLike 21 = .ok (.aload_n 0, 1) := by decide +kernel
theorem dX1_isLike_22 : decode cX1_isLike 22 = .ok (.getfield 9, 3) := by decide +kernel
theorem dX1_isLike_25 : decode cX1_isLike 25 = .ok (.iload_n 1, 1) := by decide +kernel
theorem dX1_isLike_26 : decode cX1_isLike 26 = .ok (.iconst 4, 1) := by decide +kernel
theorem dX1_isLike_27 : decode cX1_isLike 27 = .ok (.imul, 1) := by decide +kernel
theorem dX1_isLike_28 : decode cX1_isLike 28 = .ok (.iload 4, 2) := by decide +kernel
theorem dX1_isLike_30 : decode cX1_isLike 30 = .ok (.iadd, 1) := by decide +kernel
theorem dX1_isLike_31 : decode cX1_isLike 31 = .ok (.laload, 1) := by decide +kernel
theorem dX1_isLike_32 : decode cX1_isLike 32 = .ok (.aload_n 2, 1) := by decide +kernel
theorem dX1_isLike_33 : decode cX1_isLike 33 = .ok (.iload 4, 2) := by decide +kernel
theorem dX1_isLike_35 : decode cX1_isLike 35 = .ok (.laload, 1) := by decide +kernel
theorem dX1_isLike_36 : decode cX1_isLike 36 = .ok (.lcmp, 1) := by decide +kernel
theorem dX1_isLike_37 : decode cX1_isLike 37 = .ok (.ifCond .eq 5, 3) := by decide +kernel
theorem dX1_isLike_40 : decode cX1_isLike 40 = .ok (.iconst 0, 1) := by decide +kernel
theorem dX1_isLike_41 : decode cX1_isLike 41 = .ok (.ireturn, 1) := by decide +kernel
theorem dX1_isLike_42 : decode cX1_isLike 42 = .ok (.iinc 4 1, 3) := by decide +kernel
theorem dX1_isLike_45 : decode cX1_isLike 45 = .ok (.goto (-30), 3) := by decide +kernel
theorem dX1_isLike_48 : decode cX1_isLike 48 = .ok (.iconst 1, 1) := by decide +kernel
theorem dX1_isLike_49 : decode cX1_isLike 49 = .ok (.ireturn, 1) := by decide +kernel
set_option maxRecDepth 20000 in
theorem ggX1_add_X3_mix : GoodIn wsX1_add wsX3_mix := goodIn_r _ [8, 9, 10] (by decide +kernel) (by decide +kernel)
set_option maxRecDepth 20000 in
theorem gX1_add_X3_mix_n42 : GoodIn wsX1_add (wsX3_mix) := ggX1_add_X3_mix
theorem dX1_add_0 : decode cX1_add 0 = .ok (.aload_n 0, 1) := by decide +kernel
theorem dX1_add_1 : decode cX1_add 1 = .ok (.getfield 25, 3) := by decide +kernel
theorem dX1_add_4 : decode cX1_add 4 = .ok (.istore_n 3, 1) := by decide +kernel
theorem dX1_add_5 : decode cX1_add 5 = .ok (.lconst 0, 1) := by decide +kernel
theorem dX1_add_6 : decode cX1_add 6 = .ok (.lstore 4, 2) := by decide +kernel
theorem dX1_add_8 : decode cX1_add 8 = .ok (.iconst 0, 1) := by decide +kernel
theorem dX1_add_9 : decode cX1_add 9 = .ok (.istore 6, 2) := by decide +kernel
theorem dX1_add_11 : decode cX1_add 11 = .ok (.iload 6, 2) := by decide +kernel
theorem dX1_add_13 : decode cX1_add 13 = .ok (.iload_n 2, 1) := by decide +kernel
theorem dX1_add_14 : decode cX1_add 14 = .ok (.if_icmp .ge 40, 3) := by decide +kernel
theorem dX1_add_17 : decode cX1_add 17 = .ok (.aload_n 0, 1) := by decide +kernel
theorem dX1_add_18 : decode cX1_add 18 = .ok (.getfield 9, 3) := by decide +kernel
theorem dX1_add_21 : decode cX1_add 21 = .ok (.iload_n 3, 1) := by decide +kernel
theorem dX1_add_22 : decode cX1_add 22 = .ok (.iconst 4, 1) := by decide +kernel
theorem dX1_add_23 : decode cX1_add 23 = .ok (.imul, 1) := by decide +kernel
theorem dX1_add_24 : decode cX1_add 24 = .ok (.iload 6, 2) := by decide +kernel
theorem dX1_add_26 : decode cX1_add 26 = .ok (.iadd, 1) := by decide +kernel
theorem dX1_add_27 : decode cX1_add 27 = .ok (.aload_n 1, 1) := by decide +kernel
theorem dX1_add_28 : decode cX1_add 28 = .ok (.iload 6, 2) := by decide +kernel
theorem dX1_add_30 : decode cX1_add 30 = .ok (.laload, 1) := by decide +kernel
theorem dX1_add_31 : decode cX1_add 31 = .ok (.lastore, 1) := by decide +kernel
theorem dX1_add_32 : decode cX1_add 32 = .ok (.lload 4, 2) := by decide +kernel
theorem dX1_add_34 : decode cX1_add 34 = .ok (.ldc2_w 40, 3) := by decide +kernel
theorem dX1_add_37 : decode cX1_add 37 = .ok (.ladd, 1) := by decide +kernel
theorem dX1_add_38 : decode cX1_add 38 = .ok (.aload_n 1, 1) := by decide +kernel
theorem dX1_add_39 : decode cX1_add 39 = .ok (.iload 6, 2) := by decide +kernel
theorem dX1_add_41 : decode cX1_add 41 = .ok (.laload, 1) := by decide +kernel
theorem dX1_add_42 : decode cX1_add 42 = .ok (.lxor, 1) := by decide +kernel
theorem dX1_add_43 : decode cX1_add 43 = .ok (.invokestatic 42, 3) := by decide +kernel
theorem dX1_add_46 : decode cX1_add 46 = .ok (.lstore 4, 2) := by decide +kernel
theorem dX1_add_48 : decode cX1_add 48 = .ok (.iinc 6 1, 3) := by decide +kernel
theorem dX1_add_51 : decode cX1_add 51 = .ok (.goto (-40), 3) := by decide +kernel
theorem dX1_add_54 : decode cX1_add 54 = .ok (.aload_n 0, 1) := by decide +kernel
theorem dX1_add_55 : decode cX1_add 55 = .ok (.getfield 15, 3) := by decide +kernel
theorem dX1_add_58 : decode cX1_add 58 = .ok (.iload_n 3, 1) := by decide +kernel
theorem dX1_add_59 : decode cX1_add 59 = .ok (.iload_n 2, 1) := by decide +kernel
theorem dX1_add_60 : decode cX1_add 60 = .ok (.iastore, 1) := by decide +kernel
theorem dX1_add_61 : decode cX1_add 61 = .ok (.aload_n 0, 1) := by decide +kernel
theorem dX1_add_62 : decode cX1_add 62 = .ok (.getfield 19, 3) := by decide +kernel
theorem dX1_add_65 : decode cX1_add 65 = .ok (.iload_n 3, 1) := by decide +kernel
theorem dX1_add_66 : decode cX1_add 66 = .ok (.lload 4, 2) := by decide +kernel
theorem dX1_add_68 : decode cX1_add 68 = .ok (.lastore, 1) := by decide +kernel
theorem dX1_add_69 : decode cX1_add 69 = .ok (.aload_n 0, 1) := by decide +kernel
theorem dX1_add_70 : decode cX1_add 70 = .ok (.dup, 1) := by decide +kernel
theorem dX1_add_71 : decode cX1_add 71 = .ok (.getfield 25, 3) := by decide +kernel
theorem dX1_add_74 : decode cX1_add 74 = .ok (.iconst 1, 1) := by decide +kernel
theorem dX1_add_75 : decode cX1_add 75 = .ok (.iadd, 1) := by decide +kernel
theorem dX1_add_76 : decode cX1_add 76 = .ok (.putfield 25, 3) := by decide +kernel
theorem dX1_add_79 : decode cX1_add 79 = .ok (.iload_n 3, 1) := by decide +kernel
theorem dX1_add_80 : decode cX1_add 80 = .ok (.ireturn, 1) := by decide +kernel
theorem dX2_init_0 : decode cX2_init 0 = .ok (.aload_n 0, 1) := by decide +kernel
theorem dX2_init_1 : decode cX2_init 1 = .ok (.invokespecial 1, 3) := by decide +kernel
theorem dX2_init_4 : decode cX2_init 4 = .ok (.aload_n 0, 1) := by decide +kernel
theorem dX2_init_5 : decode cX2_init 5 = .ok (.iconst 0, 1) := by decide +kernel
theorem dX2_init_6 : decode cX2_init 6 = .ok (.putfield 7, 3) := by decide +kernel
theorem dX2_init_9 : decode cX2_init 9 = .ok (.aload_n 0, 1) := by decide +kernel
theorem dX2_init_10 : decode cX2_init 10 = .ok (.iconst 0, 1) := by decide +kernel
theorem dX2_init_11 : decode cX2_init 11 = .ok (.putfield 13, 3) := by decide +kernel
theorem dX2_init_14 : decode cX2_init 14 = .ok (.aload_n 0, 1) := by decide +kernel
theorem dX2_init_15 : decode cX2_init 15 = .ok (.lload_n 1, 1) := by decide +kernel
theorem dX2_init_16 : decode cX2_init 16 = .ok (.putfield 16, 3) := by decide +kernel
theorem dX2_init_19 : decode cX2_init 19 = .ok (.aload_n 0, 1) := by decide +kernel
theorem dX2_init_20 : decode cX2_init 20 = .ok (.iload_n 3, 1) := by decide +kernel
theorem dX2_init_21 : decode cX2_init 21 = .ok (.putfield 20, 3) := by decide +kernel
theorem dX2_init_24 : decode cX2_init 24 = .ok (.return_, 1) := by decide +kernel
set_option maxRecDepth 20000 in
theorem ggX3_init_X1_init : GoodIn wsX3_init wsX1_init := goodIn_r _ [23, 24, 2, 3, 4, 25, 12, 26, 27, 28, 29, 41, 42, 43, 44, 45] (by decide +kernel) (by decide +kernel)
set_option maxRecDepth 20000 in
theorem gX3_init_X1_init_n19 : GoodIn wsX3_init (wsX1_init) := ggX3_init_X1_init
theorem dX3_init_0 : decode cX3_init 0 = .ok (.aload_n 0, 1) := by decide +kernel
theorem dX3_init_1 : decode cX3_init 1 = .ok (.invokespecial 1, 3) := by decide +kernel
theorem dX3_init_4 : decode cX3_init 4 = .ok (.aload_n 0, 1) := by decide +kernel
theorem dX3_init_5 : decode cX3_init 5 = .ok (.iconst 4, 1) := by decide +kernel
theorem dX3_init_6 : decode cX3_init 6 = .ok (.newarray .long, 2) := by decide +kernel
theorem dX3_init_8 : decode cX3_init 8 = .ok (.putfield 9, 3) := by decide +kernel
theorem dX3_init_11 : decode cX3_init 11 = .ok (.aload_n 0, 1) := by decide +kernel
theorem dX3_init_12 : decode cX3_init 12 = .ok (.iconst 0, 1) := by decide +kernel
theorem dX3_init_13 : decode cX3_init 13 = .ok (.putfield 13, 3) := by decide +kernel
theorem dX3_init_16 : decode cX3_init 16 = .ok (.aload_n 0, 1) := by decide +kernel
theorem dX3_init_17 : decode cX3_init 17 = .ok (.new 17, 3) := by decide +kernel
theorem dX3_init_20 : decode cX3_init 20 = .ok (.dup, 1) := by decide +kernel
theorem dX3_init_21 : decode cX3_init 21 = .ok (.invokespecial 19, 3) := by decide +kernel
theorem dX3_init_24 : decode cX3_init 24 = .ok (.putfield 20, 3) := by decide +kernel
theorem dX3_init_27 : decode cX3_init 27 = .ok (.aload_n 0, 1) := by decide +kernel
theorem dX3_init_28 : decode cX3_init 28 = .ok (.bipush 10, 2) := by decide +kernel
theorem dX3_init_30 : decode cX3_init 30 = .ok (.newarray .long, 2) := by decide +kernel
theorem dX3_init_32 : decode cX3_init 32 = .ok (.putfield 24, 3) := by decide +kernel
theorem dX3_init_35 : decode cX3_init 35 = .ok (.aload_n 0, 1) := by decide +kernel
theorem dX3_init_36 : decode cX3_init 36 = .ok (.bipush 40, 2) := by decide +kernel
theorem dX3_init_38 : decode cX3_init 38 = .ok (.newarray .int, 2) := by decide +kernel
theorem dX3_init_40 : decode cX3_init 40 = .ok (.putfield 27, 3) := by decide +kernel
theorem dX3_init_43 : decode cX3_init 43 = .ok (.aload_n 0, 1) := by decide +kernel
theorem dX3_init_44 : decode cX3_init 44 = .ok (.bipush 8, 2) := by decide +kernel
theorem dX3_init_46 : decode cX3_init 46 = .ok (.anewarray 31, 3) := by decide +kernel
theorem dX3_init_49 : decode cX3_init 49 = .ok (.putfield 33, 3) := by decide +kernel
theorem dX3_init_52 : decode cX3_init 52 = .ok (.aload_n 0, 1) := by decide +kernel
theorem dX3_init_53 : decode cX3_init 53 = .ok (.iconst 0, 1) := by decide +kernel
theorem dX3_init_54 : decode cX3_init 54 = .ok (.putfield 37, 3) := by decide +kernel
theorem dX3_init_57 : decode cX3_init 57 = .ok (.aload_n 0, 1) := by decide +kernel
theorem dX3_init_58 : decode cX3_init 58 = .ok (.iconst 4, 1) := by decide +kernel
theorem dX3_init_59 : decode cX3_init 59 = .ok (.anewarray 40, 3) := by decide +kernel
theorem dX3_init_62 : decode cX3_init 62 = .ok (.putfield 42, 3) := by decide +kernel
theorem dX3_init_65 : decode cX3_init 65 = .ok (.aload_n 0, 1) := by decide +kernel
theorem dX3_init_66 : decode cX3_init 66 = .ok (.iconst 0, 1) := by decide +kernel
theorem dX3_init_67 : decode cX3_init 67 = .ok (.putfield 46, 3) := by decide +kernel
theorem dX3_init_70 : decode cX3_init 70 = .ok (.aload_n 0, 1) := by decide +kernel
theorem dX3_init_71 : decode cX3_init 71 = .ok (.iconst 0, 1) := by decide +kernel
theorem dX3_init_72 : decode cX3_init 72 = .ok (.putfield 49, 3) := by decide +kernel
theorem dX3_init_75 : decode cX3_init 75 = .ok (.aload_n 0, 1) := by decide +kernel
theorem dX3_init_76 : decode cX3_init 76 = .ok (.lload_n 1, 1) := by decide +kernel
theorem dX3_init_77 : decode cX3_init 77 = .ok (.putfield 52, 3) := by decide +kernel
theorem dX3_init_80 : decode cX3_init 80 = .ok (.return_, 1) := by decide +kernel
theorem dX3_part_0 : decode cX3_part 0 = .ok (.aload_n 0, 1) := by decide +kernel
theorem dX3_part_1 : decode cX3_part 1 = .ok (.getfield 13, 3) := by decide +kernel
theorem dX3_part_4 : decode cX3_part 4 = .ok (.iconst 4, 1) := by decide +kernel
theorem dX3_part_5 : decode cX3_part 5 = .ok (.if_icmp .lt 6, 3) := by decide +kernel
theorem dX3_part_8 : decode cX3_part 8 = .ok (.bipush (-2), 2) := by decide +kernel
theorem dX3_part_10 : decode cX3_part 10 = .ok (.ireturn, 1) := by decide +kernel
theorem dX3_part_11 : decode cX3_part 11 = .ok (.aload_n 0, 1) := by decide +kernel
theorem dX3_part_12 : decode cX3_part 12 = .ok (.getfield 9, 3) := by decide +kernel
theorem dX3_part_15 : decode cX3_part 15 = .ok (.aload_n 0, 1) := by decide +kernel
theorem dX3_part_16 : decode cX3_part 16 = .ok (.getfield 13, 3) := by decide +kernel
theorem dX3_part_19 : decode cX3_part 19 = .ok (.lload_n 1, 1) := by decide +kernel
theorem dX3_part_20 : decode cX3_part 20 = .ok (.lastore, 1) := by decide +kernel
theorem dX3_part_21 : decode cX3_part 21 = .ok (.aload_n 0, 1) := by decide +kernel
theorem dX3_part_22 : decode cX3_part 22 = .ok (.dup, 1) := by decide +kernel
theorem dX3_part_23 : decode cX3_part 23 = .ok (.getfield 13, 3) := by decide +kernel
theorem dX3_part_26 : decode cX3_part 26 = .ok (.iconst 1, 1) := by decide +kernel
theorem dX3_part_27 : decode cX3_part 27 = .ok (.iadd, 1) := by decide +kernel
theorem dX3_part_28 : decode cX3_part 28 = .ok (.putfield 13, 3) := by decide +kernel
theorem dX3_part_31 : decode cX3_part 31 = .ok (.aload_n 0, 1) := by decide +kernel
theorem dX3_part_32 : decode cX3_part 32 = .ok (.getfield 13, 3) := by decide +kernel
theorem dX3_part_35 : decode cX3_part 35 = .ok (.ireturn, 1) := by decide +kernel
set_option maxRecDepth 20000 in
theorem ggX3_path_X1_enter : GoodIn wsX3_path wsX1_enter := goodIn_r _ [8, 9, 10, 11, 12, 7, 13, 14, 15, 16, 17, 18, 19, 20, 21, 22, 23, 24, 25, 26, 38, 39, 40, 41, 42] (by decide +kernel) (by decide +kernel)
set_option maxRecDepth 20000 in
theorem gX3_path_X1_enter : GoodIn wsX3_path (wsV RX3 56 RX1 yX1_enter wsX1_enter) := goodIn_app (goodIn_of _ (by decide +kernel)) ggX3_path_X1_enter
theorem dX3_path_0 : decode cX3_path 0 = .ok (.aload_n 0, 1) := by decide +kernel
theorem dX3_path_1 : decode cX3_path 1 = .ok (.getfield 13, 3) := by decide +kernel
theorem dX3_path_4 : decode cX3_path 4 = .ok (.ifCond .ne 5, 3) := by decide +kernel
theorem dX3_path_7 : decode cX3_path 7 = .ok (.iconst (-1), 1) := by decide +kernel
theorem dX3_path_8 : decode cX3_path 8 = .ok (.ireturn, 1) := by decide +kernel
theorem dX3_path_9 : decode cX3_path 9 = .ok (.aload_n 0, 1) := by decide +kernel
theorem dX3_path_10 : decode cX3_path 10 = .ok (.getfield 20, 3) := by decide +kernel
theorem dX3_path_13 : decode cX3_path 13 = .ok (.aload_n 0, 1) := by decide +kernel
theorem dX3_path_14 : decode cX3_path 14 = .ok (.getfield 9, 3) := by decide +kernel
theorem dX3_path_17 : decode cX3_path 17 = .ok (.aload_n 0, 1) := by decide +kernel
theorem dX3_path_18 : decode cX3_path 18 = .ok (.getfield 13, 3) := by decide +kernel
theorem dX3_path_21 : decode cX3_path 21 = .ok (.invokevirtual 56, 3) := by decide +kernel
theorem dX3_path_24 : decode cX3_path 24 = .ok (.istore_n 1, 1) := by decide +kernel
theorem dX3_path_25 : decode cX3_path 25 = .ok (.iload_n 1, 1) := by decide +kernel
theorem dX3_path_26 : decode cX3_path 26 = .ok (.bipush (-2), 2) := by decide +kernel
theorem dX3_path_28 : decode cX3_path 28 = .ok (.if_icmp .eq 8, 3) := by decide +kernel
theorem dX3_path_31 : decode cX3_path 31 = .ok (.aload_n 0, 1) := by decide +kernel
theorem dX3_path_32 : decode cX3_path 32 = .ok (.iconst 0, 1) := by decide +kernel
theorem dX3_path_33 : decode cX3_path 33 = .ok (.putfield 13, 3) := by decide +kernel
theorem dX3_path_36 : decode cX3_path 36 = .ok (.iload_n 1, 1) := by decide +kernel
theorem dX3_path_37 : decode cX3_path 37 = .ok (.ireturn, 1) := by decide +kernel
set_option maxRecDepth 20000 in
theorem ggX3_key_X1_has : GoodIn wsX3_key wsX1_has := goodIn_r _ [8, 9, 21, 22, 23, 24, 25] (by decide +kernel) (by decide +kernel)
set_option maxRecDepth 20000 in
theorem gX3_key_X1_has : GoodIn wsX3_key (wsV RX3 60 RX1 yX1_has wsX1_has) := goodIn_app (goodIn_of _ (by decide +kernel)) ggX3_key_X1_has
theorem dX3_key_0 : decode cX3_key 0 = .ok (.aload_n 0, 1) := by decide +kernel
theorem dX3_key_1 : decode cX3_key 1 = .ok (.getfield 20, 3) := by decide +kernel
theorem dX3_key_4 : decode cX3_key 4 = .ok (.iload_n 1, 1) := by decide +kernel
theorem dX3_key_5 : decode cX3_key 5 = .ok (.invokevirtual 60, 3) := by decide +kernel
theorem dX3_key_8 : decode cX3_key 8 = .ok (.ifCond .ne 10, 3) := by decide +kernel
theorem dX3_key_11 : decode cX3_key 11 = .ok (.aload_n 0, 1) := by decide +kernel
theorem dX3_key_12 : decode cX3_key 12 = .ok (.iconst (-1), 1) := by decide +kernel
theorem dX3_key_13 : decode cX3_key 13 = .ok (.putfield 49, 3) := by decide +kernel
theorem dX3_key_16 : decode cX3_key 16 = .ok (.lconst 0, 1) := by decide +kernel
theorem dX3_key_17 : decode cX3_key 17 = .ok (.lreturn, 1) := by decide +kernel
theorem dX3_key_18 : decode cX3_key 18 = .ok (.aload_n 0, 1) := by decide +kernel
theorem dX3_key_19 : decode cX3_key 19 = .ok (.iconst 0, 1) := by decide +kernel
theorem dX3_key_20 : decode cX3_key 20 = .ok (.putfield 49, 3) := by decide +kernel
theorem dX3_key_23 : decode cX3_key 23 = .ok (.aload_n 0, 1) := by decide +kernel
theorem dX3_key_24 : decode cX3_key 24 = .ok (.getfield 20, 3) := by decide +kernel
theorem dX3_key_27 : decode cX3_key 27 = .ok (.getfield 64, 3) := by decide +kernel
theorem dX3_key_30 : decode cX3_key 30 = .ok (.iload_n 1, 1) := by decide +kernel
theorem dX3_key_31 : decode cX3_key 31 = .ok (.laload, 1) := by decide +kernel
theorem dX3_key_32 : decode cX3_key 32 = .ok (.lreturn, 1) := by decide +kernel
set_option maxRecDepth 20000 in
theorem ggX3_word_X1_has : GoodIn wsX3_word wsX1_has := goodIn_r _ [7, 8, 36, 37, 38, 39, 40] (by decide +kernel) (by decide +kernel)
set_option maxRecDepth 20000 in
theorem gX3_word_X1_has : GoodIn wsX3_word (wsV RX3 60 RX1 yX1_has wsX1_has) := goodIn_app (goodIn_of _ (by decide +kernel)) ggX3_word_X1_has
set_option maxRecDepth 20000 in
theorem ggX3_word_X3_baseOf : GoodIn wsX3_word wsX3_baseOf := goodIn_r _ [13, 14, 15, 1, 16, 17, 18, 12, 19, 20, 21, 25, 26, 27, 28, 29, 30, 31, 32, 33, 34, 35, 36, 37, 38, 39, 40] (by decide +kernel) (by decide +kernel)
set_option maxRecDepth 20000 in
theorem gX3_word_X3_baseOf : GoodIn wsX3_word (wsV RX3 67 RX3 yX3_baseOf wsX3_baseOf) := goodIn_app (goodIn_of _ (by decide +kernel)) ggX3_word_X3_baseOf
set_option maxRecDepth 20000 in
theorem ggX3_word_X3_wordAt : GoodIn wsX3_word wsX3_wordAt := goodIn_r _ [24, 15, 17, 18, 12, 19, 20, 21] (by decide +kernel) (by decide +kernel)
set_option maxRecDepth 20000 in
theorem gX3_word_X3_wordAt : GoodIn wsX3_word (va_wsS RX3 71 yX3_wordAt wsX3_wordAt) := goodIn_app (goodIn_of _ (by decide +kernel)) ggX3_word_X3_wordAt
theorem dX3_word_0 : decode cX3_word 0 = .ok (.aload_n 0, 1) := by decide +kernel
theorem dX3_word_1 : decode cX3_word 1 = .ok (.getfield 20, 3) := by decide +kernel
theorem dX3_word_4 : decode cX3_word 4 = .ok (.iload_n 3, 1) := by decide +kernel
theorem dX3_word_5 : decode cX3_word 5 = .ok (.invokevirtual 60, 3) := by decide +kernel
theorem dX3_word_8 : decode cX3_word 8 = .ok (.ifCond .ne 10, 3) := by decide +kernel
theorem dX3_word_11 : decode cX3_word 11 = .ok (.aload_n 0, 1) := by decide +kernel
theorem dX3_word_12 : decode cX3_word 12 = .ok (.iconst (-1), 1) := by decide +kernel
theorem dX3_word_13 : decode cX3_word 13 = .ok (.putfield 49, 3) := by decide +kernel
theorem dX3_word_16 : decode cX3_word 16 = .ok (.lconst 0, 1) := by decide +kernel
theorem dX3_word_17 : decode cX3_word 17 = .ok (.lreturn, 1) := by decide +kernel
theorem dX3_word_18 : decode cX3_word 18 = .ok (.aload_n 0, 1) := by decide +kernel
theorem dX3_word_19 : decode cX3_word 19 = .ok (.iconst 0, 1) := by decide +kernel
theorem dX3_word_20 : decode cX3_word 20 = .ok (.putfield 49, 3) := by decide +kernel
theorem dX3_word_23 : decode cX3_word 23 = .ok (.aload_n 0, 1) := by decide +kernel
theorem dX3_word_24 : decode cX3_word 24 = .ok (.lload_n 1, 1) := by decide +kernel
theorem dX3_word_25 : decode cX3_word 25 = .ok (.iload_n 3, 1) := by decide +kernel
theorem dX3_word_26 : decode cX3_word 26 = .ok (.invokevirtual 67, 3) := by decide +kernel
theorem dX3_word_29 : decode cX3_word 29 = .ok (.lload 4, 2) := by decide +kernel
theorem dX3_word_31 : decode cX3_word 31 = .ok (.invokestatic 71, 3) := by decide +kernel
theorem dX3_word_34 : decode cX3_word 34 = .ok (.lreturn, 1) := by decide +kernel
set_option maxRecDepth 20000 in
theorem ggX3_span_X1_has : GoodIn wsX3_span wsX1_has := goodIn_r _ [8, 9, 54, 55, 56, 57, 58] (by decide +kernel) (by decide +kernel)
set_option maxRecDepth 20000 in
theorem gX3_span_X1_has : GoodIn wsX3_span (wsV RX3 60 RX1 yX1_has wsX1_has) := goodIn_app (goodIn_of _ (by decide +kernel)) ggX3_span_X1_has
set_option maxRecDepth 20000 in
theorem ggX3_span_X3_drawSpan : GoodIn wsX3_span wsX3_drawSpan := goodIn_r _ [14, 15, 16, 17, 18, 19, 13, 20, 21, 22, 2, 23, 24, 25, 26, 27, 28, 29, 30, 31, 32, 33, 34, 35, 36, 37, 38, 39, 40, 41, 42, 43, 44, 45, 46, 47, 48, 49, 50, 51, 52, 53, 54, 55, 56, 57, 58] (by decide +kernel) (by decide +kernel)
set_option maxRecDepth 20000 in
theorem gX3_span_X3_drawSpan : GoodIn wsX3_span (wsV RX3 79 RX3 yX3_drawSpan wsX3_drawSpan) := goodIn_app (goodIn_of _ (by decide +kernel)) ggX3_span_X3_drawSpan
theorem dX3_span_0 : decode cX3_span 0 = .ok (.lload 5, 2) := by decide +kernel
theorem dX3_span_2 : decode cX3_span 2 = .ok (.lconst 0, 1) := by decide +kernel
theorem dX3_span_3 : decode cX3_span 3 = .ok (.lcmp, 1) := by decide +kernel
theorem dX3_span_4 : decode cX3_span 4 = .ok (.ifCond .ne 7, 3) := by decide +kernel
theorem dX3_span_7 : decode cX3_span 7 = .ok (.ldc2_w 75, 3) := by decide +kernel
theorem dX3_span_10 : decode cX3_span 10 = .ok (.lreturn, 1) := by decide +kernel
theorem dX3_span_11 : decode cX3_span 11 = .ok (.aload_n 0, 1) := by decide +kernel
theorem dX3_span_12 : decode cX3_span 12 = .ok (.getfield 20, 3) := by decide +kernel
theorem dX3_span_15 : decode cX3_span 15 = .ok (.iload_n 3, 1) := by decide +kernel
theorem dX3_span_16 : decode cX3_span 16 = .ok (.invokevirtual 60, 3) := by decide +kernel
theorem dX3_span_19 : decode cX3_span 19 = .ok (.ifCond .eq 15, 3) := by decide +kernel
theorem dX3_span_22 : decode cX3_span 22 = .ok (.iload 4, 2) := by decide +kernel
theorem dX3_span_24 : decode cX3_span 24 = .ok (.ifCond .lt 10, 3) := by decide +kernel
theorem dX3_span_27 : decode cX3_span 27 = .ok (.lload 5, 2) := by decide +kernel
theorem dX3_span_29 : decode cX3_span 29 = .ok (.lconst 0, 1) := by decide +kernel
theorem dX3_span_30 : decode cX3_span 30 = .ok (.lcmp, 1) := by decide +kernel
theorem dX3_span_31 : decode cX3_span 31 = .ok (.ifCond .ge 7, 3) := by decide +kernel
theorem dX3_span_34 : decode cX3_span 34 = .ok (.ldc2_w 77, 3) := by decide +kernel
theorem dX3_span_37 : decode cX3_span 37 = .ok (.lreturn, 1) := by decide +kernel
theorem dX3_span_38 : decode cX3_span 38 = .ok (.aload_n 0, 1) := by decide +kernel
theorem dX3_span_39 : decode cX3_span 39 = .ok (.lload_n 1, 1) := by decide +kernel
theorem dX3_span_40 : decode cX3_span 40 = .ok (.iload_n 3, 1) := by decide +kernel
theorem dX3_span_41 : decode cX3_span 41 = .ok (.iload 4, 2) := by decide +kernel
theorem dX3_span_43 : decode cX3_span 43 = .ok (.lload 5, 2) := by decide +kernel
theorem dX3_span_45 : decode cX3_span 45 = .ok (.invokevirtual 79, 3) := by decide +kernel
theorem dX3_span_48 : decode cX3_span 48 = .ok (.lreturn, 1) := by decide +kernel
set_option maxRecDepth 20000 in
theorem ggX3_fraction_X1_has : GoodIn wsX3_fraction wsX1_has := goodIn_r _ [6, 7, 44, 45, 46, 47, 48] (by decide +kernel) (by decide +kernel)
set_option maxRecDepth 20000 in
theorem gX3_fraction_X1_has : GoodIn wsX3_fraction (wsV RX3 60 RX1 yX1_has wsX1_has) := goodIn_app (goodIn_of _ (by decide +kernel)) ggX3_fraction_X1_has
set_option maxRecDepth 20000 in
theorem ggX3_fraction_X3_drawFraction : GoodIn wsX3_fraction wsX3_drawFraction := goodIn_r _ [12, 13, 14, 15, 16, 11, 17, 18, 19, 1, 20, 21, 22, 23, 24, 25, 26, 27, 28, 29, 30, 31, 32, 33, 34, 35, 36, 37, 38, 39, 40, 41, 42, 43, 44, 45, 46, 47, 48] (by decide +kernel) (by decide +kernel)
set_option maxRecDepth 20000 in
theorem gX3_fraction_X3_drawFraction : GoodIn wsX3_fraction (wsV RX3 83 RX3 yX3_drawFraction wsX3_drawFraction) := goodIn_app (goodIn_of _ (by decide +kernel)) ggX3_fraction_X3_drawFraction
theorem dX3_fraction_0 : decode cX3_fraction 0 = .ok (.aload_n 0, 1) := by decide +kernel
theorem dX3_fraction_1 : decode cX3_fraction 1 = .ok (.getfield 20, 3) := by decide +kernel
theorem dX3_fraction_4 : decode cX3_fraction 4 = .ok (.iload_n 3, 1) := by decide +kernel
theorem dX3_fraction_5 : decode cX3_fraction 5 = .ok (.invokevirtual 60, 3) := by decide +kernel
theorem dX3_fraction_8 : decode cX3_fraction 8 = .ok (.ifCond .eq 30, 3) := by decide +kernel
theorem dX3_fraction_11 : decode cX3_fraction 11 = .ok (.iload 4, 2) := by decide +kernel
theorem dX3_fraction_13 : decode cX3_fraction 13 = .ok (.ifCond .lt 25, 3) := by decide +kernel
theorem dX3_fraction_16 : decode cX3_fraction 16 = .ok (.lload 7, 2) := by decide +kernel
theorem dX3_fraction_18 : decode cX3_fraction 18 = .ok (.lconst 0, 1) := by decide +kernel
theorem dX3_fraction_19 : decode cX3_fraction 19 = .ok (.lcmp, 1) := by decide +kernel
theorem dX3_fraction_20 : decode cX3_fraction 20 = .ok (.ifCond .lt 18, 3) := by decide +kernel
theorem dX3_fraction_23 : decode cX3_fraction 23 = .ok (.lload 5, 2) := by decide +kernel
theorem dX3_fraction_25 : decode cX3_fraction 25 = .ok (.lconst 0, 1) := by decide +kernel
theorem dX3_fraction_26 : decode cX3_fraction 26 = .ok (.lcmp, 1) := by decide +kernel
theorem dX3_fraction_27 : decode cX3_fraction 27 = .ok (.ifCond .lt 11, 3) := by decide +kernel
theorem dX3_fraction_30 : decode cX3_fraction 30 = .ok (.lload 5, 2) := by decide +kernel
theorem dX3_fraction_32 : decode cX3_fraction 32 = .ok (.lload 7, 2) := by decide +kernel
theorem dX3_fraction_34 : decode cX3_fraction 34 = .ok (.lcmp, 1) := by decide +kernel
theorem dX3_fraction_35 : decode cX3_fraction 35 = .ok (.ifCond .le 5, 3) := by decide +kernel
theorem dX3_fraction_38 : decode cX3_fraction 38 = .ok (.iconst (-1), 1) := by decide +kernel
theorem dX3_fraction_39 : decode cX3_fraction 39 = .ok (.ireturn, 1) := by decide +kernel
theorem dX3_fraction_40 : decode cX3_fraction 40 = .ok (.lload 7, 2) := by decide +kernel
theorem dX3_fraction_42 : decode cX3_fraction 42 = .ok (.lconst 0, 1) := by decide +kernel
theorem dX3_fraction_43 : decode cX3_fraction 43 = .ok (.lcmp, 1) := by decide +kernel
theorem dX3_fraction_44 : decode cX3_fraction 44 = .ok (.ifCond .ne 6, 3) := by decide +kernel
theorem dX3_fraction_47 : decode cX3_fraction 47 = .ok (.bipush (-4), 2) := by decide +kernel
theorem dX3_fraction_49 : decode cX3_fraction 49 = .ok (.ireturn, 1) := by decide +kernel
theorem dX3_fraction_50 : decode cX3_fraction 50 = .ok (.aload_n 0, 1) := by decide +kernel
theorem dX3_fraction_51 : decode cX3_fraction 51 = .ok (.lload_n 1, 1) := by decide +kernel
theorem dX3_fraction_52 : decode cX3_fraction 52 = .ok (.iload_n 3, 1) := by decide +kernel
theorem dX3_fraction_53 : decode cX3_fraction 53 = .ok (.iload 4, 2) := by decide +kernel
theorem dX3_fraction_55 : decode cX3_fraction 55 = .ok (.lload 5, 2) := by decide +kernel
theorem dX3_fraction_57 : decode cX3_fraction 57 = .ok (.lload 7, 2) := by decide +kernel
theorem dX3_fraction_59 : decode cX3_fraction 59 = .ok (.invokevirtual 83, 3) := by decide +kernel
theorem dX3_fraction_62 : decode cX3_fraction 62 = .ok (.ireturn, 1) := by decide +kernel
theorem dX3_weight_0 : decode cX3_weight 0 = .ok (.iload_n 1, 1) := by decide +kernel
theorem dX3_weight_1 : decode cX3_weight 1 = .ok (.ifCond .lt 15, 3) := by decide +kernel
theorem dX3_weight_4 : decode cX3_weight 4 = .ok (.iload_n 1, 1) := by decide +kernel
theorem dX3_weight_5 : decode cX3_weight 5 = .ok (.bipush 10, 2) := by decide +kernel
theorem dX3_weight_7 : decode cX3_weight 7 = .ok (.if_icmp .ge 9, 3) := by decide +kernel
theorem dX3_weight_10 : decode cX3_weight 10 = .ok (.lload_n 2, 1) := by decide +kernel
theorem dX3_weight_11 : decode cX3_weight 11 = .ok (.lconst 0, 1) := by decide +kernel
theorem dX3_weight_12 : decode cX3_weight 12 = .ok (.lcmp, 1) := by decide +kernel
theorem dX3_weight_13 : decode cX3_weight 13 = .ok (.ifCond .ge 5, 3) := by decide +kernel
theorem dX3_weight_16 : decode cX3_weight 16 = .ok (.iconst (-1), 1) := by decide +kernel
theorem dX3_weight_17 : decode cX3_weight 17 = .ok (.ireturn, 1) := by decide +kernel
theorem dX3_weight_18 : decode cX3_weight 18 = .ok (.aload_n 0, 1) := by decide +kernel
theorem dX3_weight_19 : decode cX3_weight 19 = .ok (.getfield 24, 3) := by decide +kernel
theorem dX3_weight_22 : decode cX3_weight 22 = .ok (.iload_n 1, 1) := by decide +kernel
theorem dX3_weight_23 : decode cX3_weight 23 = .ok (.lload_n 2, 1) := by decide +kernel
theorem dX3_weight_24 : decode cX3_weight 24 = .ok (.lastore, 1) := by decide +kernel
theorem dX3_weight_25 : decode cX3_weight 25 = .ok (.iconst 1, 1) := by decide +kernel
theorem dX3_weight_26 : decode cX3_weight 26 = .ok (.ireturn, 1) := by decide +kernel
set_option maxRecDepth 20000 in
theorem ggX3_pick_X1_has : GoodIn wsX3_pick wsX1_has := goodIn_r _ [6, 7, 66, 67, 68, 69, 70] (by decide +kernel) (by decide +kernel)
set_option maxRecDepth 20000 in
theorem gX3_pick_X1_has : GoodIn wsX3_pick (wsV RX3 60 RX1 yX1_has wsX1_has) := goodIn_app (goodIn_of _ (by decide +kernel)) ggX3_pick_X1_has
set_option maxRecDepth 20000 in
theorem ggX3_pick_X3_drawPick : GoodIn wsX3_pick wsX3_drawPick := goodIn_r _ [12, 13, 14, 15, 11, 16, 17, 18, 19, 20, 21, 22, 23, 24, 25, 26, 27, 28, 29, 30, 1, 31, 32, 33, 34, 35, 36, 37, 38, 39, 40, 41, 42, 43, 44, 45, 46, 47, 48, 49, 50, 51, 52, 53, 54, 55, 56, 57, 58, 59, 60, 61, 62, 63, 64, 65, 66, 67, 68, 69, 70] (by decide +kernel) (by decide +kernel)
set_option maxRecDepth 20000 in
theorem gX3_pick_X3_drawPick : GoodIn wsX3_pick (wsV RX3 87 RX3 yX3_drawPick wsX3_drawPick) := goodIn_app (goodIn_of _ (by decide +kernel)) ggX3_pick_X3_drawPick
theorem dX3_pick_0 : decode cX3_pick 0 = .ok (.aload_n 0, 1) := by decide +kernel
theorem dX3_pick_1 : decode cX3_pick 1 = .ok (.getfield 20, 3) := by decide +kernel
theorem dX3_pick_4 : decode cX3_pick 4 = .ok (.iload_n 3, 1) := by decide +kernel
theorem dX3_pick_5 : decode cX3_pick 5 = .ok (.invokevirtual 60, 3) := by decide +kernel
theorem dX3_pick_8 : decode cX3_pick 8 = .ok (.ifCond .eq 8, 3) := by decide +kernel
theorem dX3_pick_11 : decode cX3_pick 11 = .ok (.iload 4, 2) := by decide +kernel
theorem dX3_pick_13 : decode cX3_pick 13 = .ok (.ifCond .ge 5, 3) := by decide +kernel
theorem dX3_pick_16 : decode cX3_pick 16 = .ok (.iconst (-1), 1) := by decide +kernel
theorem dX3_pick_17 : decode cX3_pick 17 = .ok (.ireturn, 1) := by decide +kernel
theorem dX3_pick_18 : decode cX3_pick 18 = .ok (.aload_n 0, 1) := by decide +kernel
theorem dX3_pick_19 : decode cX3_pick 19 = .ok (.lload_n 1, 1) := by decide +kernel
theorem dX3_pick_20 : decode cX3_pick 20 = .ok (.iload_n 3, 1) := by decide +kernel
theorem dX3_pick_21 : decode cX3_pick 21 = .ok (.iload 4, 2) := by decide +kernel
theorem dX3_pick_23 : decode cX3_pick 23 = .ok (.invokevirtual 87, 3) := by decide +kernel
theorem dX3_pick_26 : decode cX3_pick 26 = .ok (.ireturn, 1) := by decide +kernel
set_option maxRecDepth 20000 in
theorem ggX3_permuted_X1_has : GoodIn wsX3_permuted wsX1_has := goodIn_r _ [8, 9, 58, 59, 60, 61, 62] (by decide +kernel) (by decide +kernel)
set_option maxRecDepth 20000 in
theorem gX3_permuted_X1_has : GoodIn wsX3_permuted (wsV RX3 60 RX1 yX1_has wsX1_has) := goodIn_app (goodIn_of _ (by decide +kernel)) ggX3_permuted_X1_has
set_option maxRecDepth 20000 in
theorem ggX3_permuted_X3_drawPermutation : GoodIn wsX3_permuted wsX3_drawPermutation := goodIn_r _ [14, 3, 15, 16, 17, 13, 18, 19, 20, 21, 22, 23, 24, 25, 26, 1, 27, 28, 29, 30, 31, 32, 33, 34, 35, 36, 37, 38, 39, 40, 41, 42, 43, 44, 45, 46, 47, 48, 49, 50, 51, 52, 53, 54, 55, 56, 57, 58, 59, 60, 61, 62] (by decide +kernel) (by decide +kernel)
set_option maxRecDepth 20000 in
theorem gX3_permuted_X3_drawPermutation : GoodIn wsX3_permuted (wsV RX3 92 RX3 yX3_drawPermutation wsX3_drawPermutation) := goodIn_app (goodIn_of _ (by decide +kernel)) ggX3_permuted_X3_drawPermutation
theorem dX3_permuted_0 : decode cX3_permuted 0 = .ok (.aload_n 0, 1) := by decide +kernel
theorem dX3_permuted_1 : decode cX3_permuted 1 = .ok (.getfield 20, 3) := by decide +kernel
theorem dX3_permuted_4 : decode cX3_permuted 4 = .ok (.iload_n 3, 1) := by decide +kernel
theorem dX3_permuted_5 : decode cX3_permuted 5 = .ok (.invokevirtual 60, 3) := by decide +kernel
theorem dX3_permuted_8 : decode cX3_permuted 8 = .ok (.ifCond .eq 32, 3) := by decide +kernel
theorem dX3_permuted_11 : decode cX3_permuted 11 = .ok (.iload 4, 2) := by decide +kernel
theorem dX3_permuted_13 : decode cX3_permuted 13 = .ok (.ifCond .lt 27, 3) := by decide +kernel
theorem dX3_permuted_16 : decode cX3_permuted 16 = .ok (.iload 5, 2) := by decide +kernel
theorem dX3_permuted_18 : decode cX3_permuted 18 = .ok (.ifCond .lt 22, 3) := by decide +kernel
theorem dX3_permuted_21 : decode cX3_permuted 21 = .ok (.iload 5, 2) := by decide +kernel
theorem dX3_permuted_23 : decode cX3_permuted 23 = .ok (.bipush 40, 2) := by decide +kernel
theorem dX3_permuted_25 : decode cX3_permuted 25 = .ok (.if_icmp .gt 15, 3) := by decide +kernel
theorem dX3_permuted_28 : decode cX3_permuted 28 = .ok (.iload 6, 2) := by decide +kernel
theorem dX3_permuted_30 : decode cX3_permuted 30 = .ok (.ifCond .lt 10, 3) := by decide +kernel
theorem dX3_permuted_33 : decode cX3_permuted 33 = .ok (.iload 6, 2) := by decide +kernel
theorem dX3_permuted_35 : decode cX3_permuted 35 = .ok (.iload 5, 2) := by decide +kernel
theorem dX3_permuted_37 : decode cX3_permuted 37 = .ok (.if_icmp .lt 5, 3) := by decide +kernel
theorem dX3_permuted_40 : decode cX3_permuted 40 = .ok (.iconst (-1), 1) := by decide +kernel
theorem dX3_permuted_41 : decode cX3_permuted 41 = .ok (.ireturn, 1) := by decide +kernel
theorem dX3_permuted_42 : decode cX3_permuted 42 = .ok (.iload 4, 2) := by decide +kernel
theorem dX3_permuted_44 : decode cX3_permuted 44 = .ok (.ldc 91, 2) := by decide +kernel
theorem dX3_permuted_46 : decode cX3_permuted 46 = .ok (.iload 5, 2) := by decide +kernel
theorem dX3_permuted_48 : decode cX3_permuted 48 = .ok (.isub, 1) := by decide +kernel
theorem dX3_permuted_49 : decode cX3_permuted 49 = .ok (.if_icmp .le 5, 3) := by decide +kernel
theorem dX3_permuted_52 : decode cX3_permuted 52 = .ok (.iconst (-1), 1) := by decide +kernel
theorem dX3_permuted_53 : decode cX3_permuted 53 = .ok (.ireturn, 1) := by decide +kernel
theorem dX3_permuted_54 : decode cX3_permuted 54 = .ok (.aload_n 0, 1) := by decide +kernel
theorem dX3_permuted_55 : decode cX3_permuted 55 = .ok (.lload_n 1, 1) := by decide +kernel
theorem dX3_permuted_56 : decode cX3_permuted 56 = .ok (.iload_n 3, 1) := by decide +kernel
theorem dX3_permuted_57 : decode cX3_permuted 57 = .ok (.iload 4, 2) := by decide +kernel
theorem dX3_permuted_59 : decode cX3_permuted 59 = .ok (.iload 5, 2) := by decide +kernel
theorem dX3_permuted_61 : decode cX3_permuted 61 = .ok (.invokevirtual 92, 3) := by decide +kernel
theorem dX3_permuted_64 : decode cX3_permuted 64 = .ok (.ifCond .eq 13, 3) := by decide +kernel
theorem dX3_permuted_67 : decode cX3_permuted 67 = .ok (.aload_n 0, 1) := by decide +kernel
theorem dX3_permuted_68 : decode cX3_permuted 68 = .ok (.getfield 27, 3) := by decide +kernel
theorem dX3_permuted_71 : decode cX3_permuted 71 = .ok (.iload 6, 2) := by decide +kernel
end
section
theorem dX3_permuted_73 : decode cX3_permuted 73 = .ok (.iaload, 1) := by decide +kernel
theorem dX3_permuted_74 : decode cX3_permuted 74 = .ok (.goto 5, 3) := by decide +kernel
theorem dX3_permuted_77 : decode cX3_permuted 77 = .ok (.bipush (-3), 2) := by decide +kernel
theorem dX3_permuted_79 : decode cX3_permuted 79 = .ok (.ireturn, 1) := by decide +kernel
theorem dX3_tries_0 : decode cX3_tries 0 = .ok (.aload_n 0, 1) := by decide +kernel
theorem dX3_tries_1 : decode cX3_tries 1 = .ok (.getfield 46, 3) := by decide +kernel
theorem dX3_tries_4 : decode cX3_tries 4 = .ok (.ireturn, 1) := by decide +kernel
theorem dX3_status_0 : decode cX3_status 0 = .ok (.aload_n 0, 1) := by decide +kernel
theorem dX3_status_1 : decode cX3_status 1 = .ok (.getfield 49, 3) := by decide +kernel
theorem dX3_status_4 : decode cX3_status 4 = .ok (.ireturn, 1) := by decide +kernel
set_option maxRecDepth 20000 in
theorem ggX3_open_X1_has : GoodIn wsX3_open wsX1_has := goodIn_r _ [7, 8, 39, 40, 41, 42, 43] (by decide +kernel) (by decide +kernel)
set_option maxRecDepth 20000 in
theorem gX3_open_X1_has : GoodIn wsX3_open (wsV RX3 60 RX1 yX1_has wsX1_has) := goodIn_app (goodIn_of _ (by decide +kernel)) ggX3_open_X1_has
set_option maxRecDepth 20000 in
theorem ggX3_open_X3_addStream : GoodIn wsX3_open wsX3_addStream := goodIn_r _ [13, 2, 14, 15, 16, 17, 18, 19, 20, 21, 22, 23, 24, 25, 26, 27, 28, 29, 30, 31, 32, 33, 34, 35, 36, 37, 38, 44, 45, 46, 47] (by decide +kernel) (by decide +kernel)
set_option maxRecDepth 20000 in
theorem gX3_open_X3_addStream : GoodIn wsX3_open (wsV RX3 96 RX3 yX3_addStream wsX3_addStream) := goodIn_app (goodIn_of _ (by decide +kernel)) ggX3_open_X3_addStream
theorem dX3_open_0 : decode cX3_open 0 = .ok (.aload_n 0, 1) := by decide +kernel
theorem dX3_open_1 : decode cX3_open 1 = .ok (.getfield 20, 3) := by decide +kernel
theorem dX3_open_4 : decode cX3_open 4 = .ok (.iload_n 3, 1) := by decide +kernel
theorem dX3_open_5 : decode cX3_open 5 = .ok (.invokevirtual 60, 3) := by decide +kernel
theorem dX3_open_8 : decode cX3_open 8 = .ok (.ifCond .ne 5, 3) := by decide +kernel
theorem dX3_open_11 : decode cX3_open 11 = .ok (.iconst (-1), 1) := by decide +kernel
theorem dX3_open_12 : decode cX3_open 12 = .ok (.ireturn, 1) := by decide +kernel
theorem dX3_open_13 : decode cX3_open 13 = .ok (.aload_n 0, 1) := by decide +kernel
theorem dX3_open_14 : decode cX3_open 14 = .ok (.getfield 37, 3) := by decide +kernel
theorem dX3_open_17 : decode cX3_open 17 = .ok (.bipush 8, 2) := by decide +kernel
theorem dX3_open_19 : decode cX3_open 19 = .ok (.if_icmp .lt 6, 3) := by decide +kernel
theorem dX3_open_22 : decode cX3_open 22 = .ok (.bipush (-2), 2) := by decide +kernel
theorem dX3_open_24 : decode cX3_open 24 = .ok (.ireturn, 1) := by decide +kernel
theorem dX3_open_25 : decode cX3_open 25 = .ok (.aload_n 0, 1) := by decide +kernel
theorem dX3_open_26 : decode cX3_open 26 = .ok (.lload_n 1, 1) := by decide +kernel
theorem dX3_open_27 : decode cX3_open 27 = .ok (.iload_n 3, 1) := by decide +kernel
theorem dX3_open_28 : decode cX3_open 28 = .ok (.invokevirtual 96, 3) := by decide +kernel
theorem dX3_open_31 : decode cX3_open 31 = .ok (.ireturn, 1) := by decide +kernel
set_option maxRecDepth 20000 in
theorem ggX3_next_X3_streamAt : GoodIn wsX3_next wsX3_streamAt := goodIn_r _ [11, 12, 13, 51, 52, 53, 54, 55, 56, 57, 58, 59, 60, 61] (by decide +kernel) (by decide +kernel)
set_option maxRecDepth 20000 in
theorem gX3_next_X3_streamAt : GoodIn wsX3_next (wsV RX3 100 RX3 yX3_streamAt wsX3_streamAt) := goodIn_app (goodIn_of _ (by decide +kernel)) ggX3_next_X3_streamAt
set_option maxRecDepth 20000 in
theorem ggX3_next_X3_drawSpan : GoodIn wsX3_next wsX3_drawSpan := goodIn_r _ [17, 18, 19, 20, 21, 22, 10, 23, 24, 25, 26, 27, 28, 29, 30, 31, 32, 33, 34, 35, 36, 37, 38, 39, 40, 41, 42, 43, 44, 45, 46, 51, 52, 53, 54, 55, 56, 57, 58, 59, 60, 61, 62, 63, 64, 65, 66] (by decide +kernel) (by decide +kernel)
set_option maxRecDepth 20000 in
theorem gX3_next_X3_drawSpan : GoodIn wsX3_next (wsV RX3 79 RX3 yX3_drawSpan wsX3_drawSpan) := goodIn_app (goodIn_of _ (by decide +kernel)) ggX3_next_X3_drawSpan
theorem dX3_next_0 : decode cX3_next 0 = .ok (.aload_n 0, 1) := by decide +kernel
theorem dX3_next_1 : decode cX3_next 1 = .ok (.iload_n 1, 1) := by decide +kernel
theorem dX3_next_2 : decode cX3_next 2 = .ok (.invokevirtual 100, 3) := by decide +kernel
theorem dX3_next_5 : decode cX3_next 5 = .ok (.astore 4, 2) := by decide +kernel
theorem dX3_next_7 : decode cX3_next 7 = .ok (.lload_n 2, 1) := by decide +kernel
theorem dX3_next_8 : decode cX3_next 8 = .ok (.lconst 0, 1) := by decide +kernel
theorem dX3_next_9 : decode cX3_next 9 = .ok (.lcmp, 1) := by decide +kernel
theorem dX3_next_10 : decode cX3_next 10 = .ok (.ifCond .lt 18, 3) := by decide +kernel
theorem dX3_next_13 : decode cX3_next 13 = .ok (.aload 4, 2) := by decide +kernel
theorem dX3_next_15 : decode cX3_next 15 = .ok (.ifnull 13, 3) := by decide +kernel
theorem dX3_next_18 : decode cX3_next 18 = .ok (.aload 4, 2) := by decide +kernel
theorem dX3_next_20 : decode cX3_next 20 = .ok (.getfield 104, 3) := by decide +kernel
theorem dX3_next_23 : decode cX3_next 23 = .ok (.ldc 91, 2) := by decide +kernel
theorem dX3_next_25 : decode cX3_next 25 = .ok (.if_icmp .ne 7, 3) := by decide +kernel
theorem dX3_next_28 : decode cX3_next 28 = .ok (.ldc2_w 77, 3) := by decide +kernel
theorem dX3_next_31 : decode cX3_next 31 = .ok (.lreturn, 1) := by decide +kernel
theorem dX3_next_32 : decode cX3_next 32 = .ok (.lload_n 2, 1) := by decide +kernel
theorem dX3_next_33 : decode cX3_next 33 = .ok (.lconst 0, 1) := by decide +kernel
theorem dX3_next_34 : decode cX3_next 34 = .ok (.lcmp, 1) := by decide +kernel
theorem dX3_next_35 : decode cX3_next 35 = .ok (.ifCond .ne 7, 3) := by decide +kernel
theorem dX3_next_38 : decode cX3_next 38 = .ok (.ldc2_w 75, 3) := by decide +kernel
theorem dX3_next_41 : decode cX3_next 41 = .ok (.lreturn, 1) := by decide +kernel
theorem dX3_next_42 : decode cX3_next 42 = .ok (.aload_n 0, 1) := by decide +kernel
theorem dX3_next_43 : decode cX3_next 43 = .ok (.aload 4, 2) := by decide +kernel
theorem dX3_next_45 : decode cX3_next 45 = .ok (.getfield 107, 3) := by decide +kernel
theorem dX3_next_48 : decode cX3_next 48 = .ok (.aload 4, 2) := by decide +kernel
theorem dX3_next_50 : decode cX3_next 50 = .ok (.getfield 110, 3) := by decide +kernel
theorem dX3_next_53 : decode cX3_next 53 = .ok (.aload 4, 2) := by decide +kernel
theorem dX3_next_55 : decode cX3_next 55 = .ok (.getfield 104, 3) := by decide +kernel
theorem dX3_next_58 : decode cX3_next 58 = .ok (.lload_n 2, 1) := by decide +kernel
theorem dX3_next_59 : decode cX3_next 59 = .ok (.invokevirtual 79, 3) := by decide +kernel
theorem dX3_next_62 : decode cX3_next 62 = .ok (.lstore 5, 2) := by decide +kernel
theorem dX3_next_64 : decode cX3_next 64 = .ok (.aload 4, 2) := by decide +kernel
theorem dX3_next_66 : decode cX3_next 66 = .ok (.dup, 1) := by decide +kernel
theorem dX3_next_67 : decode cX3_next 67 = .ok (.getfield 104, 3) := by decide +kernel
theorem dX3_next_70 : decode cX3_next 70 = .ok (.iconst 1, 1) := by decide +kernel
theorem dX3_next_71 : decode cX3_next 71 = .ok (.iadd, 1) := by decide +kernel
theorem dX3_next_72 : decode cX3_next 72 = .ok (.putfield 104, 3) := by decide +kernel
theorem dX3_next_75 : decode cX3_next 75 = .ok (.lload 5, 2) := by decide +kernel
theorem dX3_next_77 : decode cX3_next 77 = .ok (.lreturn, 1) := by decide +kernel
set_option maxRecDepth 20000 in
theorem ggX3_nextPick_X3_streamAt : GoodIn wsX3_nextPick wsX3_streamAt := goodIn_r _ [9, 10, 11, 63, 64, 65, 66, 67, 68, 69, 70, 71, 72, 73] (by decide +kernel) (by decide +kernel)
set_option maxRecDepth 20000 in
theorem gX3_nextPick_X3_streamAt : GoodIn wsX3_nextPick (wsV RX3 100 RX3 yX3_streamAt wsX3_streamAt) := goodIn_app (goodIn_of _ (by decide +kernel)) ggX3_nextPick_X3_streamAt
set_option maxRecDepth 20000 in
theorem ggX3_nextPick_X3_drawPick : GoodIn wsX3_nextPick wsX3_drawPick := goodIn_r _ [15, 16, 17, 18, 8, 19, 20, 21, 22, 23, 24, 25, 26, 27, 28, 29, 30, 31, 32, 33, 34, 35, 36, 37, 38, 39, 40, 41, 42, 43, 44, 45, 46, 47, 48, 49, 50, 51, 52, 53, 54, 55, 56, 57, 58, 63, 64, 65, 66, 67, 68, 69, 70, 71, 72, 73, 74, 75, 76, 77, 78] (by decide +kernel) (by decide +kernel)
set_option maxRecDepth 20000 in
theorem gX3_nextPick_X3_drawPick : GoodIn wsX3_nextPick (wsV RX3 87 RX3 yX3_drawPick wsX3_drawPick) := goodIn_app (goodIn_of _ (by decide +kernel)) ggX3_nextPick_X3_drawPick
theorem dX3_nextPick_0 : decode cX3_nextPick 0 = .ok (.aload_n 0, 1) := by decide +kernel
theorem dX3_nextPick_1 : decode cX3_nextPick 1 = .ok (.iload_n 1, 1) := by decide +kernel
theorem dX3_nextPick_2 : decode cX3_nextPick 2 = .ok (.invokevirtual 100, 3) := by decide +kernel
theorem dX3_nextPick_5 : decode cX3_nextPick 5 = .ok (.astore_n 2, 1) := by decide +kernel
theorem dX3_nextPick_6 : decode cX3_nextPick 6 = .ok (.aload_n 2, 1) := by decide +kernel
theorem dX3_nextPick_7 : decode cX3_nextPick 7 = .ok (.ifnull 12, 3) := by decide +kernel
theorem dX3_nextPick_10 : decode cX3_nextPick 10 = .ok (.aload_n 2, 1) := by decide +kernel
theorem dX3_nextPick_11 : decode cX3_nextPick 11 = .ok (.getfield 104, 3) := by decide +kernel
theorem dX3_nextPick_14 : decode cX3_nextPick 14 = .ok (.ldc 91, 2) := by decide +kernel
theorem dX3_nextPick_16 : decode cX3_nextPick 16 = .ok (.if_icmp .ne 5, 3) := by decide +kernel
theorem dX3_nextPick_19 : decode cX3_nextPick 19 = .ok (.iconst (-1), 1) := by decide +kernel
theorem dX3_nextPick_20 : decode cX3_nextPick 20 = .ok (.ireturn, 1) := by decide +kernel
theorem dX3_nextPick_21 : decode cX3_nextPick 21 = .ok (.aload_n 0, 1) := by decide +kernel
theorem dX3_nextPick_22 : decode cX3_nextPick 22 = .ok (.aload_n 2, 1) := by decide +kernel
theorem dX3_nextPick_23 : decode cX3_nextPick 23 = .ok (.getfield 107, 3) := by decide +kernel
theorem dX3_nextPick_26 : decode cX3_nextPick 26 = .ok (.aload_n 2, 1) := by decide +kernel
theorem dX3_nextPick_27 : decode cX3_nextPick 27 = .ok (.getfield 110, 3) := by decide +kernel
theorem dX3_nextPick_30 : decode cX3_nextPick 30 = .ok (.aload_n 2, 1) := by decide +kernel
theorem dX3_nextPick_31 : decode cX3_nextPick 31 = .ok (.getfield 104, 3) := by decide +kernel
theorem dX3_nextPick_34 : decode cX3_nextPick 34 = .ok (.invokevirtual 87, 3) := by decide +kernel
theorem dX3_nextPick_37 : decode cX3_nextPick 37 = .ok (.istore_n 3, 1) := by decide +kernel
theorem dX3_nextPick_38 : decode cX3_nextPick 38 = .ok (.iload_n 3, 1) := by decide +kernel
theorem dX3_nextPick_39 : decode cX3_nextPick 39 = .ok (.bipush (-4), 2) := by decide +kernel
theorem dX3_nextPick_41 : decode cX3_nextPick 41 = .ok (.if_icmp .eq 19, 3) := by decide +kernel
theorem dX3_nextPick_44 : decode cX3_nextPick 44 = .ok (.iload_n 3, 1) := by decide +kernel
theorem dX3_nextPick_45 : decode cX3_nextPick 45 = .ok (.bipush (-5), 2) := by decide +kernel
theorem dX3_nextPick_47 : decode cX3_nextPick 47 = .ok (.if_icmp .eq 13, 3) := by decide +kernel
theorem dX3_nextPick_50 : decode cX3_nextPick 50 = .ok (.aload_n 2, 1) := by decide +kernel
theorem dX3_nextPick_51 : decode cX3_nextPick 51 = .ok (.dup, 1) := by decide +kernel
theorem dX3_nextPick_52 : decode cX3_nextPick 52 = .ok (.getfield 104, 3) := by decide +kernel
theorem dX3_nextPick_55 : decode cX3_nextPick 55 = .ok (.iconst 1, 1) := by decide +kernel
theorem dX3_nextPick_56 : decode cX3_nextPick 56 = .ok (.iadd, 1) := by decide +kernel
theorem dX3_nextPick_57 : decode cX3_nextPick 57 = .ok (.putfield 104, 3) := by decide +kernel
theorem dX3_nextPick_60 : decode cX3_nextPick 60 = .ok (.iload_n 3, 1) := by decide +kernel
theorem dX3_nextPick_61 : decode cX3_nextPick 61 = .ok (.ireturn, 1) := by decide +kernel
set_option maxRecDepth 20000 in
theorem ggX3_split_X3_streamAt : GoodIn wsX3_split wsX3_streamAt := goodIn_r _ [10, 1, 11, 56, 57, 58, 59, 60, 61, 62, 63, 64, 65, 66] (by decide +kernel) (by decide +kernel)
set_option maxRecDepth 20000 in
theorem gX3_split_X3_streamAt : GoodIn wsX3_split (wsV RX3 100 RX3 yX3_streamAt wsX3_streamAt) := goodIn_app (goodIn_of _ (by decide +kernel)) ggX3_split_X3_streamAt
set_option maxRecDepth 20000 in
theorem ggX3_split_X1_enterChild : GoodIn wsX3_split wsX1_enterChild := goodIn_r _ [16, 17, 18, 19, 20, 21, 22, 15, 23, 24, 25, 26, 27, 28, 29, 30, 31, 32, 33, 34, 35, 9, 36, 37, 38, 71, 72, 73, 74, 75] (by decide +kernel) (by decide +kernel)
set_option maxRecDepth 20000 in
theorem gX3_split_X1_enterChild : GoodIn wsX3_split (wsV RX3 116 RX1 yX1_enterChild wsX1_enterChild) := goodIn_app (goodIn_of _ (by decide +kernel)) ggX3_split_X1_enterChild
set_option maxRecDepth 20000 in
theorem ggX3_split_X3_addStream : GoodIn wsX3_split wsX3_addStream := goodIn_r _ [42, 1, 11, 43, 44, 45, 46, 47, 48, 49, 50, 51, 52, 53, 54, 55, 56, 57, 58, 59, 60, 61, 62, 63, 64, 65, 66, 67, 68, 69, 70] (by decide +kernel) (by decide +kernel)
set_option maxRecDepth 20000 in
theorem gX3_split_X3_addStream : GoodIn wsX3_split (wsV RX3 96 RX3 yX3_addStream wsX3_addStream) := goodIn_app (goodIn_of _ (by decide +kernel)) ggX3_split_X3_addStream
theorem dX3_split_0 : decode cX3_split 0 = .ok (.aload_n 0, 1) := by decide +kernel
theorem dX3_split_1 : decode cX3_split 1 = .ok (.iload_n 1, 1) := by decide +kernel
theorem dX3_split_2 : decode cX3_split 2 = .ok (.invokevirtual 100, 3) := by decide +kernel
theorem dX3_split_5 : decode cX3_split 5 = .ok (.astore_n 2, 1) := by decide +kernel
theorem dX3_split_6 : decode cX3_split 6 = .ok (.aload_n 2, 1) := by decide +kernel
theorem dX3_split_7 : decode cX3_split 7 = .ok (.ifnonnull 5, 3) := by decide +kernel
theorem dX3_split_10 : decode cX3_split 10 = .ok (.iconst (-1), 1) := by decide +kernel
theorem dX3_split_11 : decode cX3_split 11 = .ok (.ireturn, 1) := by decide +kernel
theorem dX3_split_12 : decode cX3_split 12 = .ok (.aload_n 0, 1) := by decide +kernel
theorem dX3_split_13 : decode cX3_split 13 = .ok (.getfield 37, 3) := by decide +kernel
theorem dX3_split_16 : decode cX3_split 16 = .ok (.bipush 8, 2) := by decide +kernel
theorem dX3_split_18 : decode cX3_split 18 = .ok (.if_icmp .lt 6, 3) := by decide +kernel
theorem dX3_split_21 : decode cX3_split 21 = .ok (.bipush (-2), 2) := by decide +kernel
theorem dX3_split_23 : decode cX3_split 23 = .ok (.ireturn, 1) := by decide +kernel
theorem dX3_split_24 : decode cX3_split 24 = .ok (.aload_n 0, 1) := by decide +kernel
theorem dX3_split_25 : decode cX3_split 25 = .ok (.getfield 20, 3) := by decide +kernel
theorem dX3_split_28 : decode cX3_split 28 = .ok (.aload_n 2, 1) := by decide +kernel
theorem dX3_split_29 : decode cX3_split 29 = .ok (.getfield 110, 3) := by decide +kernel
theorem dX3_split_32 : decode cX3_split 32 = .ok (.aload_n 2, 1) := by decide +kernel
theorem dX3_split_33 : decode cX3_split 33 = .ok (.getfield 113, 3) := by decide +kernel
theorem dX3_split_36 : decode cX3_split 36 = .ok (.i2l, 1) := by decide +kernel
theorem dX3_split_37 : decode cX3_split 37 = .ok (.invokevirtual 116, 3) := by decide +kernel
theorem dX3_split_40 : decode cX3_split 40 = .ok (.istore_n 3, 1) := by decide +kernel
theorem dX3_split_41 : decode cX3_split 41 = .ok (.iload_n 3, 1) := by decide +kernel
theorem dX3_split_42 : decode cX3_split 42 = .ok (.bipush (-2), 2) := by decide +kernel
theorem dX3_split_44 : decode cX3_split 44 = .ok (.if_icmp .ne 6, 3) := by decide +kernel
theorem dX3_split_47 : decode cX3_split 47 = .ok (.bipush (-2), 2) := by decide +kernel
theorem dX3_split_49 : decode cX3_split 49 = .ok (.ireturn, 1) := by decide +kernel
theorem dX3_split_50 : decode cX3_split 50 = .ok (.aload_n 2, 1) := by decide +kernel
theorem dX3_split_51 : decode cX3_split 51 = .ok (.dup, 1) := by decide +kernel
theorem dX3_split_52 : decode cX3_split 52 = .ok (.getfield 113, 3) := by decide +kernel
theorem dX3_split_55 : decode cX3_split 55 = .ok (.iconst 1, 1) := by decide +kernel
theorem dX3_split_56 : decode cX3_split 56 = .ok (.iadd, 1) := by decide +kernel
theorem dX3_split_57 : decode cX3_split 57 = .ok (.putfield 113, 3) := by decide +kernel
theorem dX3_split_60 : decode cX3_split 60 = .ok (.aload_n 0, 1) := by decide +kernel
theorem dX3_split_61 : decode cX3_split 61 = .ok (.aload_n 2, 1) := by decide +kernel
theorem dX3_split_62 : decode cX3_split 62 = .ok (.getfield 107, 3) := by decide +kernel
theorem dX3_split_65 : decode cX3_split 65 = .ok (.iload_n 3, 1) := by decide +kernel
theorem dX3_split_66 : decode cX3_split 66 = .ok (.invokevirtual 96, 3) := by decide +kernel
theorem dX3_split_69 : decode cX3_split 69 = .ok (.ireturn, 1) := by decide +kernel
set_option maxRecDepth 20000 in
theorem ggX3_skip_X3_streamAt : GoodIn wsX3_skip wsX3_streamAt := goodIn_r _ [8, 9, 10, 15, 16, 17, 18, 19, 20, 21, 22, 23, 24, 25] (by decide +kernel) (by decide +kernel)
set_option maxRecDepth 20000 in
theorem gX3_skip_X3_streamAt : GoodIn wsX3_skip (wsV RX3 100 RX3 yX3_streamAt wsX3_streamAt) := goodIn_app (goodIn_of _ (by decide +kernel)) ggX3_skip_X3_streamAt
theorem dX3_skip_0 : decode cX3_skip 0 = .ok (.aload_n 0, 1) := by decide +kernel
theorem dX3_skip_1 : decode cX3_skip 1 = .ok (.iload_n 1, 1) := by decide +kernel
theorem dX3_skip_2 : decode cX3_skip 2 = .ok (.invokevirtual 100, 3) := by decide +kernel
theorem dX3_skip_5 : decode cX3_skip 5 = .ok (.astore_n 3, 1) := by decide +kernel
theorem dX3_skip_6 : decode cX3_skip 6 = .ok (.aload_n 3, 1) := by decide +kernel
theorem dX3_skip_7 : decode cX3_skip 7 = .ok (.ifnull 24, 3) := by decide +kernel
theorem dX3_skip_10 : decode cX3_skip 10 = .ok (.iload_n 2, 1) := by decide +kernel
theorem dX3_skip_11 : decode cX3_skip 11 = .ok (.ifCond .lt 20, 3) := by decide +kernel
theorem dX3_skip_14 : decode cX3_skip 14 = .ok (.iload_n 2, 1) := by decide +kernel
theorem dX3_skip_15 : decode cX3_skip 15 = .ok (.ldc 120, 2) := by decide +kernel
theorem dX3_skip_17 : decode cX3_skip 17 = .ok (.if_icmp .gt 14, 3) := by decide +kernel
theorem dX3_skip_20 : decode cX3_skip 20 = .ok (.aload_n 3, 1) := by decide +kernel
theorem dX3_skip_21 : decode cX3_skip 21 = .ok (.getfield 104, 3) := by decide +kernel
theorem dX3_skip_24 : decode cX3_skip 24 = .ok (.ldc 91, 2) := by decide +kernel
theorem dX3_skip_26 : decode cX3_skip 26 = .ok (.iload_n 2, 1) := by decide +kernel
theorem dX3_skip_27 : decode cX3_skip 27 = .ok (.isub, 1) := by decide +kernel
theorem dX3_skip_28 : decode cX3_skip 28 = .ok (.if_icmp .le 5, 3) := by decide +kernel
theorem dX3_skip_31 : decode cX3_skip 31 = .ok (.iconst (-1), 1) := by decide +kernel
theorem dX3_skip_32 : decode cX3_skip 32 = .ok (.ireturn, 1) := by decide +kernel
theorem dX3_skip_33 : decode cX3_skip 33 = .ok (.aload_n 3, 1) := by decide +kernel
theorem dX3_skip_34 : decode cX3_skip 34 = .ok (.dup, 1) := by decide +kernel
theorem dX3_skip_35 : decode cX3_skip 35 = .ok (.getfield 104, 3) := by decide +kernel
theorem dX3_skip_38 : decode cX3_skip 38 = .ok (.iload_n 2, 1) := by decide +kernel
theorem dX3_skip_39 : decode cX3_skip 39 = .ok (.iadd, 1) := by decide +kernel
theorem dX3_skip_40 : decode cX3_skip 40 = .ok (.putfield 104, 3) := by decide +kernel
theorem dX3_skip_43 : decode cX3_skip 43 = .ok (.aload_n 3, 1) := by decide +kernel
theorem dX3_skip_44 : decode cX3_skip 44 = .ok (.getfield 104, 3) := by decide +kernel
theorem dX3_skip_47 : decode cX3_skip 47 = .ok (.ireturn, 1) := by decide +kernel
set_option maxRecDepth 20000 in
theorem ggX3_keep_X3_streamAt : GoodIn wsX3_keep wsX3_streamAt := goodIn_r _ [14, 15, 16, 25, 26, 27, 28, 29, 30, 31, 32, 33, 34, 35] (by decide +kernel) (by decide +kernel)
set_option maxRecDepth 20000 in
theorem gX3_keep_X3_streamAt : GoodIn wsX3_keep (wsV RX3 100 RX3 yX3_streamAt wsX3_streamAt) := goodIn_app (goodIn_of _ (by decide +kernel)) ggX3_keep_X3_streamAt
set_option maxRecDepth 20000 in
theorem ggX3_keep_X0_init : GoodIn wsX3_keep wsX0_init := goodIn_r _ [18, 19, 20, 21, 22, 23, 24, 36, 37, 38] (by decide +kernel) (by decide +kernel)
set_option maxRecDepth 20000 in
theorem gX3_keep_X0_init_n121 : GoodIn wsX3_keep (wsX0_init) := ggX3_keep_X0_init
theorem dX3_keep_0 : decode cX3_keep 0 = .ok (.aload_n 0, 1) := by decide +kernel
theorem dX3_keep_1 : decode cX3_keep 1 = .ok (.iload_n 2, 1) := by decide +kernel
theorem dX3_keep_2 : decode cX3_keep 2 = .ok (.invokevirtual 100, 3) := by decide +kernel
theorem dX3_keep_5 : decode cX3_keep 5 = .ok (.astore_n 3, 1) := by decide +kernel
theorem dX3_keep_6 : decode cX3_keep 6 = .ok (.iload_n 1, 1) := by decide +kernel
theorem dX3_keep_7 : decode cX3_keep 7 = .ok (.ifCond .lt 12, 3) := by decide +kernel
theorem dX3_keep_10 : decode cX3_keep 10 = .ok (.iload_n 1, 1) := by decide +kernel
theorem dX3_keep_11 : decode cX3_keep 11 = .ok (.iconst 4, 1) := by decide +kernel
theorem dX3_keep_12 : decode cX3_keep 12 = .ok (.if_icmp .ge 7, 3) := by decide +kernel
theorem dX3_keep_15 : decode cX3_keep 15 = .ok (.aload_n 3, 1) := by decide +kernel
theorem dX3_keep_16 : decode cX3_keep 16 = .ok (.ifnonnull 5, 3) := by decide +kernel
theorem dX3_keep_19 : decode cX3_keep 19 = .ok (.iconst (-1), 1) := by decide +kernel
theorem dX3_keep_20 : decode cX3_keep 20 = .ok (.ireturn, 1) := by decide +kernel
theorem dX3_keep_21 : decode cX3_keep 21 = .ok (.aload_n 0, 1) := by decide +kernel
theorem dX3_keep_22 : decode cX3_keep 22 = .ok (.getfield 42, 3) := by decide +kernel
theorem dX3_keep_25 : decode cX3_keep 25 = .ok (.iload_n 1, 1) := by decide +kernel
theorem dX3_keep_26 : decode cX3_keep 26 = .ok (.aaload, 1) := by decide +kernel
theorem dX3_keep_27 : decode cX3_keep 27 = .ok (.astore 4, 2) := by decide +kernel
theorem dX3_keep_29 : decode cX3_keep 29 = .ok (.aload 4, 2) := by decide +kernel
theorem dX3_keep_31 : decode cX3_keep 31 = .ok (.ifnonnull 20, 3) := by decide +kernel
theorem dX3_keep_34 : decode cX3_keep 34 = .ok (.new 40, 3) := by decide +kernel
theorem dX3_keep_37 : decode cX3_keep 37 = .ok (.dup, 1) := by decide +kernel
theorem dX3_keep_38 : decode cX3_keep 38 = .ok (.invokespecial 121, 3) := by decide +kernel
theorem dX3_keep_41 : decode cX3_keep 41 = .ok (.astore 4, 2) := by decide +kernel
theorem dX3_keep_43 : decode cX3_keep 43 = .ok (.aload_n 0, 1) := by decide +kernel
theorem dX3_keep_44 : decode cX3_keep 44 = .ok (.getfield 42, 3) := by decide +kernel
theorem dX3_keep_47 : decode cX3_keep 47 = .ok (.iload_n 1, 1) := by decide +kernel
theorem dX3_keep_48 : decode cX3_keep 48 = .ok (.aload 4, 2) := by decide +kernel
theorem dX3_keep_50 : decode cX3_keep 50 = .ok (.aastore, 1) := by decide +kernel
theorem dX3_keep_51 : decode cX3_keep 51 = .ok (.aload 4, 2) := by decide +kernel
theorem dX3_keep_53 : decode cX3_keep 53 = .ok (.iload_n 2, 1) := by decide +kernel
theorem dX3_keep_54 : decode cX3_keep 54 = .ok (.putfield 122, 3) := by decide +kernel
theorem dX3_keep_57 : decode cX3_keep 57 = .ok (.aload 4, 2) := by decide +kernel
theorem dX3_keep_59 : decode cX3_keep 59 = .ok (.aload_n 3, 1) := by decide +kernel
theorem dX3_keep_60 : decode cX3_keep 60 = .ok (.getfield 104, 3) := by decide +kernel
theorem dX3_keep_63 : decode cX3_keep 63 = .ok (.putfield 125, 3) := by decide +kernel
theorem dX3_keep_66 : decode cX3_keep 66 = .ok (.aload 4, 2) := by decide +kernel
theorem dX3_keep_68 : decode cX3_keep 68 = .ok (.aload_n 3, 1) := by decide +kernel
theorem dX3_keep_69 : decode cX3_keep 69 = .ok (.getfield 113, 3) := by decide +kernel
theorem dX3_keep_72 : decode cX3_keep 72 = .ok (.putfield 126, 3) := by decide +kernel
theorem dX3_keep_75 : decode cX3_keep 75 = .ok (.aload_n 3, 1) := by decide +kernel
theorem dX3_keep_76 : decode cX3_keep 76 = .ok (.getfield 104, 3) := by decide +kernel
theorem dX3_keep_79 : decode cX3_keep 79 = .ok (.ireturn, 1) := by decide +kernel
set_option maxRecDepth 20000 in
theorem ggX3_back_X3_streamAt : GoodIn wsX3_back wsX3_streamAt := goodIn_r _ [11, 12, 13, 14, 15, 16, 17, 18, 19, 20, 21, 22, 23, 24] (by decide +kernel) (by decide +kernel)
set_option maxRecDepth 20000 in
theorem gX3_back_X3_streamAt : GoodIn wsX3_back (wsV RX3 100 RX3 yX3_streamAt wsX3_streamAt) := goodIn_app (goodIn_of _ (by decide +kernel)) ggX3_back_X3_streamAt
theorem dX3_back_0 : decode cX3_back 0 = .ok (.iload_n 1, 1) := by decide +kernel
theorem dX3_back_1 : decode cX3_back 1 = .ok (.ifCond .lt 8, 3) := by decide +kernel
theorem dX3_back_4 : decode cX3_back 4 = .ok (.iload_n 1, 1) := by decide +kernel
theorem dX3_back_5 : decode cX3_back 5 = .ok (.iconst 4, 1) := by decide +kernel
theorem dX3_back_6 : decode cX3_back 6 = .ok (.if_icmp .lt 5, 3) := by decide +kernel
theorem dX3_back_9 : decode cX3_back 9 = .ok (.iconst (-1), 1) := by decide +kernel
theorem dX3_back_10 : decode cX3_back 10 = .ok (.ireturn, 1) := by decide +kernel
theorem dX3_back_11 : decode cX3_back 11 = .ok (.aload_n 0, 1) := by decide +kernel
theorem dX3_back_12 : decode cX3_back 12 = .ok (.getfield 42, 3) := by decide +kernel
theorem dX3_back_15 : decode cX3_back 15 = .ok (.iload_n 1, 1) := by decide +kernel
theorem dX3_back_16 : decode cX3_back 16 = .ok (.aaload, 1) := by decide +kernel
theorem dX3_back_17 : decode cX3_back 17 = .ok (.astore_n 2, 1) := by decide +kernel
theorem dX3_back_18 : decode cX3_back 18 = .ok (.aload_n 2, 1) := by decide +kernel
theorem dX3_back_19 : decode cX3_back 19 = .ok (.ifnonnull 6, 3) := by decide +kernel
theorem dX3_back_22 : decode cX3_back 22 = .ok (.bipush (-3), 2) := by decide +kernel
theorem dX3_back_24 : decode cX3_back 24 = .ok (.ireturn, 1) := by decide +kernel
theorem dX3_back_25 : decode cX3_back 25 = .ok (.aload_n 0, 1) := by decide +kernel
theorem dX3_back_26 : decode cX3_back 26 = .ok (.aload_n 2, 1) := by decide +kernel
theorem dX3_back_27 : decode cX3_back 27 = .ok (.getfield 122, 3) := by decide +kernel
theorem dX3_back_30 : decode cX3_back 30 = .ok (.invokevirtual 100, 3) := by decide +kernel
theorem dX3_back_33 : decode cX3_back 33 = .ok (.astore_n 3, 1) := by decide +kernel
theorem dX3_back_34 : decode cX3_back 34 = .ok (.aload_n 3, 1) := by decide +kernel
theorem dX3_back_35 : decode cX3_back 35 = .ok (.ifnonnull 6, 3) := by decide +kernel
theorem dX3_back_38 : decode cX3_back 38 = .ok (.bipush (-3), 2) := by decide +kernel
theorem dX3_back_40 : decode cX3_back 40 = .ok (.ireturn, 1) := by decide +kernel
theorem dX3_back_41 : decode cX3_back 41 = .ok (.aload_n 3, 1) := by decide +kernel
theorem dX3_back_42 : decode cX3_back 42 = .ok (.aload_n 2, 1) := by decide +kernel
theorem dX3_back_43 : decode cX3_back 43 = .ok (.getfield 125, 3) := by decide +kernel
theorem dX3_back_46 : decode cX3_back 46 = .ok (.putfield 104, 3) := by decide +kernel
theorem dX3_back_49 : decode cX3_back 49 = .ok (.aload_n 3, 1) := by decide +kernel
theorem dX3_back_50 : decode cX3_back 50 = .ok (.aload_n 2, 1) := by decide +kernel
theorem dX3_back_51 : decode cX3_back 51 = .ok (.getfield 126, 3) := by decide +kernel
theorem dX3_back_54 : decode cX3_back 54 = .ok (.putfield 113, 3) := by decide +kernel
theorem dX3_back_57 : decode cX3_back 57 = .ok (.aload_n 2, 1) := by decide +kernel
theorem dX3_back_58 : decode cX3_back 58 = .ok (.getfield 122, 3) := by decide +kernel
theorem dX3_back_61 : decode cX3_back 61 = .ok (.ireturn, 1) := by decide +kernel
set_option maxRecDepth 20000 in
theorem ggX3_told_X3_streamAt : GoodIn wsX3_told wsX3_streamAt := goodIn_r _ [8, 9, 10, 15, 16, 17, 18, 19, 20, 21, 22, 23, 24, 25] (by decide +kernel) (by decide +kernel)
set_option maxRecDepth 20000 in
theorem gX3_told_X3_streamAt : GoodIn wsX3_told (wsV RX3 100 RX3 yX3_streamAt wsX3_streamAt) := goodIn_app (goodIn_of _ (by decide +kernel)) ggX3_told_X3_streamAt
theorem dX3_told_0 : decode cX3_told 0 = .ok (.aload_n 0, 1) := by decide +kernel
theorem dX3_told_1 : decode cX3_told 1 = .ok (.iload_n 1, 1) := by decide +kernel
theorem dX3_told_2 : decode cX3_told 2 = .ok (.invokevirtual 100, 3) := by decide +kernel
theorem dX3_told_5 : decode cX3_told 5 = .ok (.astore_n 3, 1) := by decide +kernel
theorem dX3_told_6 : decode cX3_told 6 = .ok (.aload_n 3, 1) := by decide +kernel
theorem dX3_told_7 : decode cX3_told 7 = .ok (.ifnonnull 5, 3) := by decide +kernel
theorem dX3_told_10 : decode cX3_told 10 = .ok (.iconst (-1), 1) := by decide +kernel
theorem dX3_told_11 : decode cX3_told 11 = .ok (.ireturn, 1) := by decide +kernel
theorem dX3_told_12 : decode cX3_told 12 = .ok (.iload_n 2, 1) := by decide +kernel
theorem dX3_told_13 : decode cX3_told 13 = .ok (.tableswitch 42 0 2 #[27, 32, 37], 27) := by decide +kernel
theorem dX3_told_40 : decode cX3_told 40 = .ok (.aload_n 3, 1) := by decide +kernel
theorem dX3_told_41 : decode cX3_told 41 = .ok (.getfield 110, 3) := by decide +kernel
theorem dX3_told_44 : decode cX3_told 44 = .ok (.ireturn, 1) := by decide +kernel
theorem dX3_told_45 : decode cX3_told 45 = .ok (.aload_n 3, 1) := by decide +kernel
theorem dX3_told_46 : decode cX3_told 46 = .ok (.getfield 104, 3) := by decide +kernel
theorem dX3_told_49 : decode cX3_told 49 = .ok (.ireturn, 1) := by decide +kernel
theorem dX3_told_50 : decode cX3_told 50 = .ok (.aload_n 3, 1) := by decide +kernel
theorem dX3_told_51 : decode cX3_told 51 = .ok (.getfield 113, 3) := by decide +kernel
theorem dX3_told_54 : decode cX3_told 54 = .ok (.ireturn, 1) := by decide +kernel
theorem dX3_told_55 : decode cX3_told 55 = .ok (.iconst (-1), 1) := by decide +kernel
theorem dX3_told_56 : decode cX3_told 56 = .ok (.ireturn, 1) := by decide +kernel
theorem dX3_counted_0 : decode cX3_counted 0 = .ok (.iload_n 1, 1) := by decide +kernel
theorem dX3_counted_1 : decode cX3_counted 1 = .ok (.iconst 1, 1) := by decide +kernel
theorem dX3_counted_2 : decode cX3_counted 2 = .ok (.if_icmp .lt 29, 3) := by decide +kernel
theorem dX3_counted_5 : decode cX3_counted 5 = .ok (.iload_n 1, 1) := by decide +kernel
theorem dX3_counted_6 : decode cX3_counted 6 = .ok (.bipush 16, 2) := by decide +kernel
theorem dX3_counted_8 : decode cX3_counted 8 = .ok (.if_icmp .gt 23, 3) := by decide +kernel
theorem dX3_counted_11 : decode cX3_counted 11 = .ok (.iload_n 2, 1) := by decide +kernel
theorem dX3_counted_12 : decode cX3_counted 12 = .ok (.iconst 1, 1) := by decide +kernel
theorem dX3_counted_13 : decode cX3_counted 13 = .ok (.if_icmp .lt 18, 3) := by decide +kernel
theorem dX3_counted_16 : decode cX3_counted 16 = .ok (.iload_n 2, 1) := by decide +kernel
theorem dX3_counted_17 : decode cX3_counted 17 = .ok (.ldc 127, 2) := by decide +kernel
theorem dX3_counted_19 : decode cX3_counted 19 = .ok (.if_icmp .gt 12, 3) := by decide +kernel
theorem dX3_counted_22 : decode cX3_counted 22 = .ok (.iload_n 3, 1) := by decide +kernel
theorem dX3_counted_23 : decode cX3_counted 23 = .ok (.ifCond .lt 8, 3) := by decide +kernel
theorem dX3_counted_26 : decode cX3_counted 26 = .ok (.iload_n 3, 1) := by decide +kernel
theorem dX3_counted_27 : decode cX3_counted 27 = .ok (.iload_n 2, 1) := by decide +kernel
theorem dX3_counted_28 : decode cX3_counted 28 = .ok (.if_icmp .lt 5, 3) := by decide +kernel
theorem dX3_counted_31 : decode cX3_counted 31 = .ok (.iconst (-1), 1) := by decide +kernel
theorem dX3_counted_32 : decode cX3_counted 32 = .ok (.ireturn, 1) := by decide +kernel
theorem dX3_counted_33 : decode cX3_counted 33 = .ok (.iconst 1, 1) := by decide +kernel
theorem dX3_counted_34 : decode cX3_counted 34 = .ok (.iload_n 1, 1) := by decide +kernel
theorem dX3_counted_35 : decode cX3_counted 35 = .ok (.ishl, 1) := by decide +kernel
theorem dX3_counted_36 : decode cX3_counted 36 = .ok (.iload_n 2, 1) := by decide +kernel
theorem dX3_counted_37 : decode cX3_counted 37 = .ok (.idiv, 1) := by decide +kernel
theorem dX3_counted_38 : decode cX3_counted 38 = .ok (.ireturn, 1) := by decide +kernel
theorem dX3_count_0 : decode cX3_count 0 = .ok (.iload_n 1, 1) := by decide +kernel
theorem dX3_count_1 : decode cX3_count 1 = .ok (.tableswitch 45 0 2 #[27, 35, 40], 27) := by decide +kernel
theorem dX3_count_28 : decode cX3_count 28 = .ok (.aload_n 0, 1) := by decide +kernel
theorem dX3_count_29 : decode cX3_count 29 = .ok (.getfield 20, 3) := by decide +kernel
theorem dX3_count_32 : decode cX3_count 32 = .ok (.getfield 128, 3) := by decide +kernel
theorem dX3_count_35 : decode cX3_count 35 = .ok (.ireturn, 1) := by decide +kernel
theorem dX3_count_36 : decode cX3_count 36 = .ok (.aload_n 0, 1) := by decide +kernel
theorem dX3_count_37 : decode cX3_count 37 = .ok (.getfield 37, 3) := by decide +kernel
theorem dX3_count_40 : decode cX3_count 40 = .ok (.ireturn, 1) := by decide +kernel
theorem dX3_count_41 : decode cX3_count 41 = .ok (.aload_n 0, 1) := by decide +kernel
theorem dX3_count_42 : decode cX3_count 42 = .ok (.getfield 13, 3) := by decide +kernel
theorem dX3_count_45 : decode cX3_count 45 = .ok (.ireturn, 1) := by decide +kernel
theorem dX3_count_46 : decode cX3_count 46 = .ok (.iconst (-1), 1) := by decide +kernel
theorem dX3_count_47 : decode cX3_count 47 = .ok (.ireturn, 1) := by decide +kernel
theorem dX3_mix_0 : decode cX3_mix 0 = .ok (.lload_n 0, 1) := by decide +kernel
theorem dX3_mix_1 : decode cX3_mix 1 = .ok (.lstore_n 2, 1) := by decide +kernel
theorem dX3_mix_2 : decode cX3_mix 2 = .ok (.lload_n 2, 1) := by decide +kernel
theorem dX3_mix_3 : decode cX3_mix 3 = .ok (.lload_n 2, 1) := by decide +kernel
theorem dX3_mix_4 : decode cX3_mix 4 = .ok (.bipush 30, 2) := by decide +kernel
theorem dX3_mix_6 : decode cX3_mix 6 = .ok (.lushr, 1) := by decide +kernel
theorem dX3_mix_7 : decode cX3_mix 7 = .ok (.lxor, 1) := by decide +kernel
theorem dX3_mix_8 : decode cX3_mix 8 = .ok (.ldc2_w 131, 3) := by decide +kernel
theorem dX3_mix_11 : decode cX3_mix 11 = .ok (.lmul, 1) := by decide +kernel
theorem dX3_mix_12 : decode cX3_mix 12 = .ok (.lstore_n 2, 1) := by decide +kernel
theorem dX3_mix_13 : decode cX3_mix 13 = .ok (.lload_n 2, 1) := by decide +kernel
theorem dX3_mix_14 : decode cX3_mix 14 = .ok (.lload_n 2, 1) := by decide +kernel
theorem dX3_mix_15 : decode cX3_mix 15 = .ok (.bipush 27, 2) := by decide +kernel
theorem dX3_mix_17 : decode cX3_mix 17 = .ok (.lushr, 1) := by decide +kernel
theorem dX3_mix_18 : decode cX3_mix 18 = .ok (.lxor, 1) := by decide +kernel
theorem dX3_mix_19 : decode cX3_mix 19 = .ok (.ldc2_w 133, 3) := by decide +kernel
theorem dX3_mix_22 : decode cX3_mix 22 = .ok (.lmul, 1) := by decide +kernel
theorem dX3_mix_23 : decode cX3_mix 23 = .ok (.lstore_n 2, 1) := by decide +kernel
theorem dX3_mix_24 : decode cX3_mix 24 = .ok (.lload_n 2, 1) := by decide +kernel
theorem dX3_mix_25 : decode cX3_mix 25 = .ok (.lload_n 2, 1) := by decide +kernel
theorem dX3_mix_26 : decode cX3_mix 26 = .ok (.bipush 31, 2) := by decide +kernel
theorem dX3_mix_28 : decode cX3_mix 28 = .ok (.lushr, 1) := by decide +kernel
theorem dX3_mix_29 : decode cX3_mix 29 = .ok (.lxor, 1) := by decide +kernel
theorem dX3_mix_30 : decode cX3_mix 30 = .ok (.lreturn, 1) := by decide +kernel
set_option maxRecDepth 20000 in
theorem ggX3_baseOf_X3_mix : GoodIn wsX3_baseOf wsX3_mix := goodIn_r _ [8, 9, 10] (by decide +kernel) (by decide +kernel)
set_option maxRecDepth 20000 in
theorem gX3_baseOf_X3_mix : GoodIn wsX3_baseOf (va_wsS RX3 137 yX3_mix wsX3_mix) := goodIn_app (goodIn_of _ (by decide +kernel)) ggX3_baseOf_X3_mix
theorem dX3_baseOf_0 : decode cX3_baseOf 0 = .ok (.aload_n 0, 1) := by decide +kernel
theorem dX3_baseOf_1 : decode cX3_baseOf 1 = .ok (.getfield 52, 3) := by decide +kernel
theorem dX3_baseOf_4 : decode cX3_baseOf 4 = .ok (.ldc2_w 135, 3) := by decide +kernel
theorem dX3_baseOf_7 : decode cX3_baseOf 7 = .ok (.lload_n 1, 1) := by decide +kernel
theorem dX3_baseOf_8 : decode cX3_baseOf 8 = .ok (.lconst 1, 1) := by decide +kernel
theorem dX3_baseOf_9 : decode cX3_baseOf 9 = .ok (.ladd, 1) := by decide +kernel
theorem dX3_baseOf_10 : decode cX3_baseOf 10 = .ok (.lmul, 1) := by decide +kernel
theorem dX3_baseOf_11 : decode cX3_baseOf 11 = .ok (.ladd, 1) := by decide +kernel
theorem dX3_baseOf_12 : decode cX3_baseOf 12 = .ok (.aload_n 0, 1) := by decide +kernel
theorem dX3_baseOf_13 : decode cX3_baseOf 13 = .ok (.getfield 20, 3) := by decide +kernel
theorem dX3_baseOf_16 : decode cX3_baseOf 16 = .ok (.getfield 64, 3) := by decide +kernel
theorem dX3_baseOf_19 : decode cX3_baseOf 19 = .ok (.iload_n 3, 1) := by decide +kernel
theorem dX3_baseOf_20 : decode cX3_baseOf 20 = .ok (.laload, 1) := by decide +kernel
theorem dX3_baseOf_21 : decode cX3_baseOf 21 = .ok (.lxor, 1) := by decide +kernel
theorem dX3_baseOf_22 : decode cX3_baseOf 22 = .ok (.invokestatic 137, 3) := by decide +kernel
theorem dX3_baseOf_25 : decode cX3_baseOf 25 = .ok (.lreturn, 1) := by decide +kernel
set_option maxRecDepth 20000 in
theorem ggX3_wordAt_X3_mix : GoodIn wsX3_wordAt wsX3_mix := goodIn_r _ [5, 6, 7] (by decide +kernel) (by decide +kernel)
set_option maxRecDepth 20000 in
theorem gX3_wordAt_X3_mix : GoodIn wsX3_wordAt (va_wsS RX3 137 yX3_mix wsX3_mix) := goodIn_app (goodIn_of _ (by decide +kernel)) ggX3_wordAt_X3_mix
theorem dX3_wordAt_0 : decode cX3_wordAt 0 = .ok (.lload_n 0, 1) := by decide +kernel
theorem dX3_wordAt_1 : decode cX3_wordAt 1 = .ok (.ldc2_w 135, 3) := by decide +kernel
theorem dX3_wordAt_4 : decode cX3_wordAt 4 = .ok (.lload_n 2, 1) := by decide +kernel
theorem dX3_wordAt_5 : decode cX3_wordAt 5 = .ok (.lconst 1, 1) := by decide +kernel
theorem dX3_wordAt_6 : decode cX3_wordAt 6 = .ok (.ladd, 1) := by decide +kernel
theorem dX3_wordAt_7 : decode cX3_wordAt 7 = .ok (.lmul, 1) := by decide +kernel
theorem dX3_wordAt_8 : decode cX3_wordAt 8 = .ok (.ladd, 1) := by decide +kernel
theorem dX3_wordAt_9 : decode cX3_wordAt 9 = .ok (.invokestatic 137, 3) := by decide +kernel
theorem dX3_wordAt_12 : decode cX3_wordAt 12 = .ok (.lreturn, 1) := by decide +kernel
theorem dX3_firstCounter_0 : decode cX3_firstCounter 0 = .ok (.ldc2_w 141, 3) := by decide +kernel
theorem dX3_firstCounter_3 : decode cX3_firstCounter 3 = .ok (.iload_n 0, 1) := by decide +kernel
theorem dX3_firstCounter_4 : decode cX3_firstCounter 4 = .ok (.i2l, 1) := by decide +kernel
theorem dX3_firstCounter_5 : decode cX3_firstCounter 5 = .ok (.lmul, 1) := by decide +kernel
theorem dX3_firstCounter_6 : decode cX3_firstCounter 6 = .ok (.lreturn, 1) := by decide +kernel
theorem dX3_belowUnsigned_0 : decode cX3_belowUnsigned 0 = .ok (.lload_n 0, 1) := by decide +kernel
theorem dX3_belowUnsigned_1 : decode cX3_belowUnsigned 1 = .ok (.ldc2_w 143, 3) := by decide +kernel
theorem dX3_belowUnsigned_4 : decode cX3_belowUnsigned 4 = .ok (.lxor, 1) := by decide +kernel
theorem dX3_belowUnsigned_5 : decode cX3_belowUnsigned 5 = .ok (.lload_n 2, 1) := by decide +kernel
theorem dX3_belowUnsigned_6 : decode cX3_belowUnsigned 6 = .ok (.ldc2_w 143, 3) := by decide +kernel
theorem dX3_belowUnsigned_9 : decode cX3_belowUnsigned 9 = .ok (.lxor, 1) := by decide +kernel
theorem dX3_belowUnsigned_10 : decode cX3_belowUnsigned 10 = .ok (.lcmp, 1) := by decide +kernel
theorem dX3_belowUnsigned_11 : decode cX3_belowUnsigned 11 = .ok (.ifCond .ge 7, 3) := by decide +kernel
theorem dX3_belowUnsigned_14 : decode cX3_belowUnsigned 14 = .ok (.iconst 1, 1) := by decide +kernel
theorem dX3_belowUnsigned_15 : decode cX3_belowUnsigned 15 = .ok (.goto 4, 3) := by decide +kernel
theorem dX3_belowUnsigned_18 : decode cX3_belowUnsigned 18 = .ok (.iconst 0, 1) := by decide +kernel
theorem dX3_belowUnsigned_19 : decode cX3_belowUnsigned 19 = .ok (.ireturn, 1) := by decide +kernel
set_option maxRecDepth 20000 in
theorem ggX3_remainderUnsigned_X3_belowUnsigned : GoodIn wsX3_remainderUnsigned wsX3_belowUnsigned := goodIn_r _ [4, 5] (by decide +kernel) (by decide +kernel)
set_option maxRecDepth 20000 in
theorem gX3_remainderUnsigned_X3_belowUnsigned : GoodIn wsX3_remainderUnsigned (va_wsS RX3 145 yX3_belowUnsigned wsX3_belowUnsigned) := goodIn_app (goodIn_of _ (by decide +kernel)) ggX3_remainderUnsigned_X3_belowUnsigned
theorem dX3_remainderUnsigned_0 : decode cX3_remainderUnsigned 0 = .ok (.lload_n 0, 1) := by decide +kernel
theorem dX3_remainderUnsigned_1 : decode cX3_remainderUnsigned 1 = .ok (.iconst 1, 1) := by decide +kernel
theorem dX3_remainderUnsigned_2 : decode cX3_remainderUnsigned 2 = .ok (.lushr, 1) := by decide +kernel
theorem dX3_remainderUnsigned_3 : decode cX3_remainderUnsigned 3 = .ok (.lload_n 2, 1) := by decide +kernel
theorem dX3_remainderUnsigned_4 : decode cX3_remainderUnsigned 4 = .ok (.ldiv, 1) := by decide +kernel
theorem dX3_remainderUnsigned_5 : decode cX3_remainderUnsigned 5 = .ok (.iconst 1, 1) := by decide +kernel
theorem dX3_remainderUnsigned_6 : decode cX3_remainderUnsigned 6 = .ok (.lshl, 1) := by decide +kernel
theorem dX3_remainderUnsigned_7 : decode cX3_remainderUnsigned 7 = .ok (.lstore 4, 2) := by decide +kernel
theorem dX3_remainderUnsigned_9 : decode cX3_remainderUnsigned 9 = .ok (.lload_n 0, 1) := by decide +kernel
theorem dX3_remainderUnsigned_10 : decode cX3_remainderUnsigned 10 = .ok (.lload 4, 2) := by decide +kernel
theorem dX3_remainderUnsigned_12 : decode cX3_remainderUnsigned 12 = .ok (.lload_n 2, 1) := by decide +kernel
theorem dX3_remainderUnsigned_13 : decode cX3_remainderUnsigned 13 = .ok (.lmul, 1) := by decide +kernel
theorem dX3_remainderUnsigned_14 : decode cX3_remainderUnsigned 14 = .ok (.lsub, 1) := by decide +kernel
theorem dX3_remainderUnsigned_15 : decode cX3_remainderUnsigned 15 = .ok (.lstore 6, 2) := by decide +kernel
theorem dX3_remainderUnsigned_17 : decode cX3_remainderUnsigned 17 = .ok (.lload 6, 2) := by decide +kernel
theorem dX3_remainderUnsigned_19 : decode cX3_remainderUnsigned 19 = .ok (.lload_n 2, 1) := by decide +kernel
theorem dX3_remainderUnsigned_20 : decode cX3_remainderUnsigned 20 = .ok (.invokestatic 145, 3) := by decide +kernel
theorem dX3_remainderUnsigned_23 : decode cX3_remainderUnsigned 23 = .ok (.ifCond .eq 8, 3) := by decide +kernel
theorem dX3_remainderUnsigned_26 : decode cX3_remainderUnsigned 26 = .ok (.lload 6, 2) := by decide +kernel
theorem dX3_remainderUnsigned_28 : decode cX3_remainderUnsigned 28 = .ok (.goto 7, 3) := by decide +kernel
theorem dX3_remainderUnsigned_31 : decode cX3_remainderUnsigned 31 = .ok (.lload 6, 2) := by decide +kernel
theorem dX3_remainderUnsigned_33 : decode cX3_remainderUnsigned 33 = .ok (.lload_n 2, 1) := by decide +kernel
theorem dX3_remainderUnsigned_34 : decode cX3_remainderUnsigned 34 = .ok (.lsub, 1) := by decide +kernel
theorem dX3_remainderUnsigned_35 : decode cX3_remainderUnsigned 35 = .ok (.lreturn, 1) := by decide +kernel
set_option maxRecDepth 20000 in
theorem ggX3_drawSpan_X3_baseOf : GoodIn wsX3_drawSpan wsX3_baseOf := goodIn_r _ [7, 8, 9, 10, 11, 12, 13, 6, 14, 15, 16, 31, 32, 33, 34, 35, 36, 37, 38, 39, 40, 41, 42, 43, 44, 45, 46] (by decide +kernel) (by decide +kernel)
set_option maxRecDepth 20000 in
theorem gX3_drawSpan_X3_baseOf : GoodIn wsX3_drawSpan (wsV RX3 67 RX3 yX3_baseOf wsX3_baseOf) := goodIn_app (goodIn_of _ (by decide +kernel)) ggX3_drawSpan_X3_baseOf
set_option maxRecDepth 20000 in
theorem ggX3_drawSpan_X3_firstCounter : GoodIn wsX3_drawSpan wsX3_firstCounter := goodIn_r _ [19, 20] (by decide +kernel) (by decide +kernel)
set_option maxRecDepth 20000 in
theorem gX3_drawSpan_X3_firstCounter : GoodIn wsX3_drawSpan (va_wsS RX3 149 yX3_firstCounter wsX3_firstCounter) := goodIn_app (goodIn_of _ (by decide +kernel)) ggX3_drawSpan_X3_firstCounter
set_option maxRecDepth 20000 in
theorem ggX3_drawSpan_X3_remainderUnsigned : GoodIn wsX3_drawSpan wsX3_remainderUnsigned := goodIn_r _ [23, 24, 25, 6, 26, 27] (by decide +kernel) (by decide +kernel)
set_option maxRecDepth 20000 in
theorem gX3_drawSpan_X3_remainderUnsigned : GoodIn wsX3_drawSpan (va_wsS RX3 153 yX3_remainderUnsigned wsX3_remainderUnsigned) := goodIn_app (goodIn_of _ (by decide +kernel)) ggX3_drawSpan_X3_remainderUnsigned
set_option maxRecDepth 20000 in
theorem ggX3_drawSpan_X3_wordAt : GoodIn wsX3_drawSpan wsX3_wordAt := goodIn_r _ [30, 9, 12, 13, 6, 14, 15, 16] (by decide +kernel) (by decide +kernel)
set_option maxRecDepth 20000 in
theorem gX3_drawSpan_X3_wordAt : GoodIn wsX3_drawSpan (va_wsS RX3 71 yX3_wordAt wsX3_wordAt) := goodIn_app (goodIn_of _ (by decide +kernel)) ggX3_drawSpan_X3_wordAt
set_option maxRecDepth 20000 in
theorem ggX3_drawSpan_X3_belowUnsigned : GoodIn wsX3_drawSpan wsX3_belowUnsigned := goodIn_r _ [26, 27] (by decide +kernel) (by decide +kernel)
set_option maxRecDepth 20000 in
theorem gX3_drawSpan_X3_belowUnsigned : GoodIn wsX3_drawSpan (va_wsS RX3 145 yX3_belowUnsigned wsX3_belowUnsigned) := goodIn_app (goodIn_of _ (by decide +kernel)) ggX3_drawSpan_X3_belowUnsigned
theorem dX3_drawSpan_0 : decode cX3_drawSpan 0 = .ok (.aload_n 0, 1) := by decide +kernel
theorem dX3_drawSpan_1 : decode cX3_drawSpan 1 = .ok (.lload_n 1, 1) := by decide +kernel
theorem dX3_drawSpan_2 : decode cX3_drawSpan 2 = .ok (.iload_n 3, 1) := by decide +kernel
theorem dX3_drawSpan_3 : decode cX3_drawSpan 3 = .ok (.invokevirtual 67, 3) := by decide +kernel
theorem dX3_drawSpan_6 : decode cX3_drawSpan 6 = .ok (.lstore 7, 2) := by decide +kernel
theorem dX3_drawSpan_8 : decode cX3_drawSpan 8 = .ok (.iload 4, 2) := by decide +kernel
theorem dX3_drawSpan_10 : decode cX3_drawSpan 10 = .ok (.invokestatic 149, 3) := by decide +kernel
theorem dX3_drawSpan_13 : decode cX3_drawSpan 13 = .ok (.lstore 9, 2) := by decide +kernel
theorem dX3_drawSpan_15 : decode cX3_drawSpan 15 = .ok (.lload 5, 2) := by decide +kernel
theorem dX3_drawSpan_17 : decode cX3_drawSpan 17 = .ok (.lneg, 1) := by decide +kernel
theorem dX3_drawSpan_18 : decode cX3_drawSpan 18 = .ok (.lload 5, 2) := by decide +kernel
theorem dX3_drawSpan_20 : decode cX3_drawSpan 20 = .ok (.invokestatic 153, 3) := by decide +kernel
theorem dX3_drawSpan_23 : decode cX3_drawSpan 23 = .ok (.lstore 11, 2) := by decide +kernel
theorem dX3_drawSpan_25 : decode cX3_drawSpan 25 = .ok (.iconst 0, 1) := by decide +kernel
theorem dX3_drawSpan_26 : decode cX3_drawSpan 26 = .ok (.istore 13, 2) := by decide +kernel
theorem dX3_drawSpan_28 : decode cX3_drawSpan 28 = .ok (.iload 13, 2) := by decide +kernel
theorem dX3_drawSpan_30 : decode cX3_drawSpan 30 = .ok (.bipush 32, 2) := by decide +kernel
theorem dX3_drawSpan_32 : decode cX3_drawSpan 32 = .ok (.if_icmp .ge 56, 3) := by decide +kernel
theorem dX3_drawSpan_35 : decode cX3_drawSpan 35 = .ok (.lload 7, 2) := by decide +kernel
theorem dX3_drawSpan_37 : decode cX3_drawSpan 37 = .ok (.lload 9, 2) := by decide +kernel
theorem dX3_drawSpan_39 : decode cX3_drawSpan 39 = .ok (.iload 13, 2) := by decide +kernel
theorem dX3_drawSpan_41 : decode cX3_drawSpan 41 = .ok (.i2l, 1) := by decide +kernel
theorem dX3_drawSpan_42 : decode cX3_drawSpan 42 = .ok (.ladd, 1) := by decide +kernel
theorem dX3_drawSpan_43 : decode cX3_drawSpan 43 = .ok (.invokestatic 71, 3) := by decide +kernel
theorem dX3_drawSpan_46 : decode cX3_drawSpan 46 = .ok (.lstore 14, 2) := by decide +kernel
theorem dX3_drawSpan_48 : decode cX3_drawSpan 48 = .ok (.aload_n 0, 1) := by decide +kernel
theorem dX3_drawSpan_49 : decode cX3_drawSpan 49 = .ok (.iload 13, 2) := by decide +kernel
theorem dX3_drawSpan_51 : decode cX3_drawSpan 51 = .ok (.iconst 1, 1) := by decide +kernel
theorem dX3_drawSpan_52 : decode cX3_drawSpan 52 = .ok (.iadd, 1) := by decide +kernel
theorem dX3_drawSpan_53 : decode cX3_drawSpan 53 = .ok (.putfield 46, 3) := by decide +kernel
theorem dX3_drawSpan_56 : decode cX3_drawSpan 56 = .ok (.lload 11, 2) := by decide +kernel
theorem dX3_drawSpan_58 : decode cX3_drawSpan 58 = .ok (.lconst 0, 1) := by decide +kernel
theorem dX3_drawSpan_59 : decode cX3_drawSpan 59 = .ok (.lcmp, 1) := by decide +kernel
theorem dX3_drawSpan_60 : decode cX3_drawSpan 60 = .ok (.ifCond .eq 14, 3) := by decide +kernel
theorem dX3_drawSpan_63 : decode cX3_drawSpan 63 = .ok (.lload 14, 2) := by decide +kernel
theorem dX3_drawSpan_65 : decode cX3_drawSpan 65 = .ok (.lload 11, 2) := by decide +kernel
theorem dX3_drawSpan_67 : decode cX3_drawSpan 67 = .ok (.lneg, 1) := by decide +kernel
theorem dX3_drawSpan_68 : decode cX3_drawSpan 68 = .ok (.invokestatic 145, 3) := by decide +kernel
theorem dX3_drawSpan_71 : decode cX3_drawSpan 71 = .ok (.ifCond .eq 11, 3) := by decide +kernel
theorem dX3_drawSpan_74 : decode cX3_drawSpan 74 = .ok (.lload 14, 2) := by decide +kernel
theorem dX3_drawSpan_76 : decode cX3_drawSpan 76 = .ok (.lload 5, 2) := by decide +kernel
theorem dX3_drawSpan_78 : decode cX3_drawSpan 78 = .ok (.invokestatic 153, 3) := by decide +kernel
theorem dX3_drawSpan_81 : decode cX3_drawSpan 81 = .ok (.lreturn, 1) := by decide +kernel
theorem dX3_drawSpan_82 : decode cX3_drawSpan 82 = .ok (.iinc 13 1, 3) := by decide +kernel
theorem dX3_drawSpan_85 : decode cX3_drawSpan 85 = .ok (.goto (-57), 3) := by decide +kernel
theorem dX3_drawSpan_88 : decode cX3_drawSpan 88 = .ok (.ldc2_w 156, 3) := by decide +kernel
theorem dX3_drawSpan_91 : decode cX3_drawSpan 91 = .ok (.lreturn, 1) := by decide +kernel
set_option maxRecDepth 20000 in
theorem ggX3_drawFraction_X3_baseOf : GoodIn wsX3_drawFraction wsX3_baseOf := goodIn_r _ [6, 7, 8, 9, 10, 11, 12, 5, 13, 14, 15, 23, 24, 25, 26, 27, 28, 29, 30, 31, 32, 33, 34, 35, 36, 37, 38] (by decide +kernel) (by decide +kernel)
set_option maxRecDepth 20000 in
theorem gX3_drawFraction_X3_baseOf : GoodIn wsX3_drawFraction (wsV RX3 67 RX3 yX3_baseOf wsX3_baseOf) := goodIn_app (goodIn_of _ (by decide +kernel)) ggX3_drawFraction_X3_baseOf
set_option maxRecDepth 20000 in
theorem ggX3_drawFraction_X3_firstCounter : GoodIn wsX3_drawFraction wsX3_firstCounter := goodIn_r _ [18, 19] (by decide +kernel) (by decide +kernel)
set_option maxRecDepth 20000 in
theorem gX3_drawFraction_X3_firstCounter : GoodIn wsX3_drawFraction (va_wsS RX3 149 yX3_firstCounter wsX3_firstCounter) := goodIn_app (goodIn_of _ (by decide +kernel)) ggX3_drawFraction_X3_firstCounter
set_option maxRecDepth 20000 in
theorem ggX3_drawFraction_X3_wordAt : GoodIn wsX3_drawFraction wsX3_wordAt := goodIn_r _ [22, 8, 11, 12, 5, 13, 14, 15] (by decide +kernel) (by decide +kernel)
set_option maxRecDepth 20000 in
theorem gX3_drawFraction_X3_wordAt : GoodIn wsX3_drawFraction (va_wsS RX3 71 yX3_wordAt wsX3_wordAt) := goodIn_app (goodIn_of _ (by decide +kernel)) ggX3_drawFraction_X3_wordAt
theorem dX3_drawFraction_0 : decode cX3_drawFraction 0 = .ok (.aload_n 0, 1) := by decide +kernel
theorem dX3_drawFraction_1 : decode cX3_drawFraction 1 = .ok (.iconst 0, 1) := by decide +kernel
theorem dX3_drawFraction_2 : decode cX3_drawFraction 2 = .ok (.putfield 46, 3) := by decide +kernel
end
section
theorem dX3_drawFraction_5 : decode cX3_drawFraction 5 = .ok (.lload 5, 2) := by decide +kernel
theorem dX3_drawFraction_7 : decode cX3_drawFraction 7 = .ok (.lload 7, 2) := by decide +kernel
theorem dX3_drawFraction_9 : decode cX3_drawFraction 9 = .ok (.lcmp, 1) := by decide +kernel
theorem dX3_drawFraction_10 : decode cX3_drawFraction 10 = .ok (.ifCond .ne 5, 3) := by decide +kernel
theorem dX3_drawFraction_13 : decode cX3_drawFraction 13 = .ok (.iconst 1, 1) := by decide +kernel
theorem dX3_drawFraction_14 : decode cX3_drawFraction 14 = .ok (.ireturn, 1) := by decide +kernel
theorem dX3_drawFraction_15 : decode cX3_drawFraction 15 = .ok (.lload 5, 2) := by decide +kernel
theorem dX3_drawFraction_17 : decode cX3_drawFraction 17 = .ok (.lconst 0, 1) := by decide +kernel
theorem dX3_drawFraction_18 : decode cX3_drawFraction 18 = .ok (.lcmp, 1) := by decide +kernel
theorem dX3_drawFraction_19 : decode cX3_drawFraction 19 = .ok (.ifCond .ne 5, 3) := by decide +kernel
theorem dX3_drawFraction_22 : decode cX3_drawFraction 22 = .ok (.iconst 0, 1) := by decide +kernel
theorem dX3_drawFraction_23 : decode cX3_drawFraction 23 = .ok (.ireturn, 1) := by decide +kernel
theorem dX3_drawFraction_24 : decode cX3_drawFraction 24 = .ok (.aload_n 0, 1) := by decide +kernel
theorem dX3_drawFraction_25 : decode cX3_drawFraction 25 = .ok (.lload_n 1, 1) := by decide +kernel
theorem dX3_drawFraction_26 : decode cX3_drawFraction 26 = .ok (.iload_n 3, 1) := by decide +kernel
theorem dX3_drawFraction_27 : decode cX3_drawFraction 27 = .ok (.invokevirtual 67, 3) := by decide +kernel
theorem dX3_drawFraction_30 : decode cX3_drawFraction 30 = .ok (.lstore 9, 2) := by decide +kernel
theorem dX3_drawFraction_32 : decode cX3_drawFraction 32 = .ok (.iload 4, 2) := by decide +kernel
theorem dX3_drawFraction_34 : decode cX3_drawFraction 34 = .ok (.invokestatic 149, 3) := by decide +kernel
theorem dX3_drawFraction_37 : decode cX3_drawFraction 37 = .ok (.lstore 11, 2) := by decide +kernel
theorem dX3_drawFraction_39 : decode cX3_drawFraction 39 = .ok (.lload 5, 2) := by decide +kernel
theorem dX3_drawFraction_41 : decode cX3_drawFraction 41 = .ok (.lstore 13, 2) := by decide +kernel
theorem dX3_drawFraction_43 : decode cX3_drawFraction 43 = .ok (.iconst 0, 1) := by decide +kernel
theorem dX3_drawFraction_44 : decode cX3_drawFraction 44 = .ok (.istore 15, 2) := by decide +kernel
theorem dX3_drawFraction_46 : decode cX3_drawFraction 46 = .ok (.iload 15, 2) := by decide +kernel
theorem dX3_drawFraction_48 : decode cX3_drawFraction 48 = .ok (.bipush 32, 2) := by decide +kernel
theorem dX3_drawFraction_50 : decode cX3_drawFraction 50 = .ok (.if_icmp .ge 134, 3) := by decide +kernel
theorem dX3_drawFraction_53 : decode cX3_drawFraction 53 = .ok (.lload 9, 2) := by decide +kernel
theorem dX3_drawFraction_55 : decode cX3_drawFraction 55 = .ok (.lload 11, 2) := by decide +kernel
theorem dX3_drawFraction_57 : decode cX3_drawFraction 57 = .ok (.iload 15, 2) := by decide +kernel
theorem dX3_drawFraction_59 : decode cX3_drawFraction 59 = .ok (.i2l, 1) := by decide +kernel
theorem dX3_drawFraction_60 : decode cX3_drawFraction 60 = .ok (.ladd, 1) := by decide +kernel
theorem dX3_drawFraction_61 : decode cX3_drawFraction 61 = .ok (.invokestatic 71, 3) := by decide +kernel
theorem dX3_drawFraction_64 : decode cX3_drawFraction 64 = .ok (.lstore 16, 2) := by decide +kernel
theorem dX3_drawFraction_66 : decode cX3_drawFraction 66 = .ok (.bipush 63, 2) := by decide +kernel
theorem dX3_drawFraction_68 : decode cX3_drawFraction 68 = .ok (.istore 18, 2) := by decide +kernel
theorem dX3_drawFraction_70 : decode cX3_drawFraction 70 = .ok (.iload 18, 2) := by decide +kernel
theorem dX3_drawFraction_72 : decode cX3_drawFraction 72 = .ok (.ifCond .lt 106, 3) := by decide +kernel
theorem dX3_drawFraction_75 : decode cX3_drawFraction 75 = .ok (.lload 13, 2) := by decide +kernel
theorem dX3_drawFraction_77 : decode cX3_drawFraction 77 = .ok (.lload 7, 2) := by decide +kernel
theorem dX3_drawFraction_79 : decode cX3_drawFraction 79 = .ok (.lload 13, 2) := by decide +kernel
theorem dX3_drawFraction_81 : decode cX3_drawFraction 81 = .ok (.lsub, 1) := by decide +kernel
theorem dX3_drawFraction_82 : decode cX3_drawFraction 82 = .ok (.lcmp, 1) := by decide +kernel
theorem dX3_drawFraction_83 : decode cX3_drawFraction 83 = .ok (.ifCond .lt 7, 3) := by decide +kernel
theorem dX3_drawFraction_86 : decode cX3_drawFraction 86 = .ok (.iconst 1, 1) := by decide +kernel
theorem dX3_drawFraction_87 : decode cX3_drawFraction 87 = .ok (.goto 4, 3) := by decide +kernel
theorem dX3_drawFraction_90 : decode cX3_drawFraction 90 = .ok (.iconst 0, 1) := by decide +kernel
theorem dX3_drawFraction_91 : decode cX3_drawFraction 91 = .ok (.istore 19, 2) := by decide +kernel
theorem dX3_drawFraction_93 : decode cX3_drawFraction 93 = .ok (.iload 19, 2) := by decide +kernel
theorem dX3_drawFraction_95 : decode cX3_drawFraction 95 = .ok (.ifCond .eq 14, 3) := by decide +kernel
theorem dX3_drawFraction_98 : decode cX3_drawFraction 98 = .ok (.lload 13, 2) := by decide +kernel
theorem dX3_drawFraction_100 : decode cX3_drawFraction 100 = .ok (.lload 7, 2) := by decide +kernel
theorem dX3_drawFraction_102 : decode cX3_drawFraction 102 = .ok (.lload 13, 2) := by decide +kernel
theorem dX3_drawFraction_104 : decode cX3_drawFraction 104 = .ok (.lsub, 1) := by decide +kernel
theorem dX3_drawFraction_105 : decode cX3_drawFraction 105 = .ok (.lsub, 1) := by decide +kernel
theorem dX3_drawFraction_106 : decode cX3_drawFraction 106 = .ok (.goto 8, 3) := by decide +kernel
theorem dX3_drawFraction_109 : decode cX3_drawFraction 109 = .ok (.lload 13, 2) := by decide +kernel
theorem dX3_drawFraction_111 : decode cX3_drawFraction 111 = .ok (.lload 13, 2) := by decide +kernel
theorem dX3_drawFraction_113 : decode cX3_drawFraction 113 = .ok (.ladd, 1) := by decide +kernel
theorem dX3_drawFraction_114 : decode cX3_drawFraction 114 = .ok (.lstore 13, 2) := by decide +kernel
theorem dX3_drawFraction_116 : decode cX3_drawFraction 116 = .ok (.lload 16, 2) := by decide +kernel
theorem dX3_drawFraction_118 : decode cX3_drawFraction 118 = .ok (.iload 18, 2) := by decide +kernel
theorem dX3_drawFraction_120 : decode cX3_drawFraction 120 = .ok (.lushr, 1) := by decide +kernel
theorem dX3_drawFraction_121 : decode cX3_drawFraction 121 = .ok (.lconst 1, 1) := by decide +kernel
theorem dX3_drawFraction_122 : decode cX3_drawFraction 122 = .ok (.land, 1) := by decide +kernel
theorem dX3_drawFraction_123 : decode cX3_drawFraction 123 = .ok (.lconst 1, 1) := by decide +kernel
theorem dX3_drawFraction_124 : decode cX3_drawFraction 124 = .ok (.lcmp, 1) := by decide +kernel
theorem dX3_drawFraction_125 : decode cX3_drawFraction 125 = .ok (.ifCond .ne 7, 3) := by decide +kernel
theorem dX3_drawFraction_128 : decode cX3_drawFraction 128 = .ok (.iconst 1, 1) := by decide +kernel
theorem dX3_drawFraction_129 : decode cX3_drawFraction 129 = .ok (.goto 4, 3) := by decide +kernel
theorem dX3_drawFraction_132 : decode cX3_drawFraction 132 = .ok (.iconst 0, 1) := by decide +kernel
theorem dX3_drawFraction_133 : decode cX3_drawFraction 133 = .ok (.istore 20, 2) := by decide +kernel
theorem dX3_drawFraction_135 : decode cX3_drawFraction 135 = .ok (.aload_n 0, 1) := by decide +kernel
theorem dX3_drawFraction_136 : decode cX3_drawFraction 136 = .ok (.dup, 1) := by decide +kernel
theorem dX3_drawFraction_137 : decode cX3_drawFraction 137 = .ok (.getfield 46, 3) := by decide +kernel
theorem dX3_drawFraction_140 : decode cX3_drawFraction 140 = .ok (.iconst 1, 1) := by decide +kernel
theorem dX3_drawFraction_141 : decode cX3_drawFraction 141 = .ok (.iadd, 1) := by decide +kernel
theorem dX3_drawFraction_142 : decode cX3_drawFraction 142 = .ok (.putfield 46, 3) := by decide +kernel
theorem dX3_drawFraction_145 : decode cX3_drawFraction 145 = .ok (.iload 20, 2) := by decide +kernel
theorem dX3_drawFraction_147 : decode cX3_drawFraction 147 = .ok (.iload 19, 2) := by decide +kernel
theorem dX3_drawFraction_149 : decode cX3_drawFraction 149 = .ok (.if_icmp .eq 14, 3) := by decide +kernel
theorem dX3_drawFraction_152 : decode cX3_drawFraction 152 = .ok (.iload 20, 2) := by decide +kernel
theorem dX3_drawFraction_154 : decode cX3_drawFraction 154 = .ok (.ifCond .eq 7, 3) := by decide +kernel
theorem dX3_drawFraction_157 : decode cX3_drawFraction 157 = .ok (.iconst 0, 1) := by decide +kernel
theorem dX3_drawFraction_158 : decode cX3_drawFraction 158 = .ok (.goto 4, 3) := by decide +kernel
theorem dX3_drawFraction_161 : decode cX3_drawFraction 161 = .ok (.iconst 1, 1) := by decide +kernel
theorem dX3_drawFraction_162 : decode cX3_drawFraction 162 = .ok (.ireturn, 1) := by decide +kernel
theorem dX3_drawFraction_163 : decode cX3_drawFraction 163 = .ok (.lload 13, 2) := by decide +kernel
theorem dX3_drawFraction_165 : decode cX3_drawFraction 165 = .ok (.lconst 0, 1) := by decide +kernel
theorem dX3_drawFraction_166 : decode cX3_drawFraction 166 = .ok (.lcmp, 1) := by decide +kernel
theorem dX3_drawFraction_167 : decode cX3_drawFraction 167 = .ok (.ifCond .ne 5, 3) := by decide +kernel
theorem dX3_drawFraction_170 : decode cX3_drawFraction 170 = .ok (.iconst 0, 1) := by decide +kernel
theorem dX3_drawFraction_171 : decode cX3_drawFraction 171 = .ok (.ireturn, 1) := by decide +kernel
theorem dX3_drawFraction_172 : decode cX3_drawFraction 172 = .ok (.iinc 18 (-1), 3) := by decide +kernel
theorem dX3_drawFraction_175 : decode cX3_drawFraction 175 = .ok (.goto (-105), 3) := by decide +kernel
theorem dX3_drawFraction_178 : decode cX3_drawFraction 178 = .ok (.iinc 15 1, 3) := by decide +kernel
theorem dX3_drawFraction_181 : decode cX3_drawFraction 181 = .ok (.goto (-135), 3) := by decide +kernel
theorem dX3_drawFraction_184 : decode cX3_drawFraction 184 = .ok (.bipush (-3), 2) := by decide +kernel
theorem dX3_drawFraction_186 : decode cX3_drawFraction 186 = .ok (.ireturn, 1) := by decide +kernel
theorem dX3_sumOfWeights_0 : decode cX3_sumOfWeights 0 = .ok (.lconst 0, 1) := by decide +kernel
theorem dX3_sumOfWeights_1 : decode cX3_sumOfWeights 1 = .ok (.lstore_n 1, 1) := by decide +kernel
theorem dX3_sumOfWeights_2 : decode cX3_sumOfWeights 2 = .ok (.iconst 0, 1) := by decide +kernel
theorem dX3_sumOfWeights_3 : decode cX3_sumOfWeights 3 = .ok (.istore_n 3, 1) := by decide +kernel
theorem dX3_sumOfWeights_4 : decode cX3_sumOfWeights 4 = .ok (.iload_n 3, 1) := by decide +kernel
theorem dX3_sumOfWeights_5 : decode cX3_sumOfWeights 5 = .ok (.bipush 10, 2) := by decide +kernel
theorem dX3_sumOfWeights_7 : decode cX3_sumOfWeights 7 = .ok (.if_icmp .ge 28, 3) := by decide +kernel
theorem dX3_sumOfWeights_10 : decode cX3_sumOfWeights 10 = .ok (.lload_n 1, 1) := by decide +kernel
theorem dX3_sumOfWeights_11 : decode cX3_sumOfWeights 11 = .ok (.aload_n 0, 1) := by decide +kernel
theorem dX3_sumOfWeights_12 : decode cX3_sumOfWeights 12 = .ok (.getfield 24, 3) := by decide +kernel
theorem dX3_sumOfWeights_15 : decode cX3_sumOfWeights 15 = .ok (.iload_n 3, 1) := by decide +kernel
theorem dX3_sumOfWeights_16 : decode cX3_sumOfWeights 16 = .ok (.laload, 1) := by decide +kernel
theorem dX3_sumOfWeights_17 : decode cX3_sumOfWeights 17 = .ok (.ladd, 1) := by decide +kernel
theorem dX3_sumOfWeights_18 : decode cX3_sumOfWeights 18 = .ok (.lstore_n 1, 1) := by decide +kernel
theorem dX3_sumOfWeights_19 : decode cX3_sumOfWeights 19 = .ok (.lload_n 1, 1) := by decide +kernel
theorem dX3_sumOfWeights_20 : decode cX3_sumOfWeights 20 = .ok (.lconst 0, 1) := by decide +kernel
theorem dX3_sumOfWeights_21 : decode cX3_sumOfWeights 21 = .ok (.lcmp, 1) := by decide +kernel
theorem dX3_sumOfWeights_22 : decode cX3_sumOfWeights 22 = .ok (.ifCond .ge 7, 3) := by decide +kernel
theorem dX3_sumOfWeights_25 : decode cX3_sumOfWeights 25 = .ok (.ldc2_w 158, 3) := by decide +kernel
theorem dX3_sumOfWeights_28 : decode cX3_sumOfWeights 28 = .ok (.lreturn, 1) := by decide +kernel
theorem dX3_sumOfWeights_29 : decode cX3_sumOfWeights 29 = .ok (.iinc 3 1, 3) := by decide +kernel
theorem dX3_sumOfWeights_32 : decode cX3_sumOfWeights 32 = .ok (.goto (-28), 3) := by decide +kernel
theorem dX3_sumOfWeights_35 : decode cX3_sumOfWeights 35 = .ok (.lload_n 1, 1) := by decide +kernel
theorem dX3_sumOfWeights_36 : decode cX3_sumOfWeights 36 = .ok (.lreturn, 1) := by decide +kernel
set_option maxRecDepth 20000 in
theorem ggX3_drawPick_X3_sumOfWeights : GoodIn wsX3_drawPick wsX3_sumOfWeights := goodIn_r _ [5, 6, 7, 45, 46, 47, 48, 49, 50, 51, 52, 53, 54, 55] (by decide +kernel) (by decide +kernel)
set_option maxRecDepth 20000 in
theorem gX3_drawPick_X3_sumOfWeights : GoodIn wsX3_drawPick (wsV RX3 160 RX3 yX3_sumOfWeights wsX3_sumOfWeights) := goodIn_app (goodIn_of _ (by decide +kernel)) ggX3_drawPick_X3_sumOfWeights
set_option maxRecDepth 20000 in
theorem ggX3_drawPick_X3_drawSpan : GoodIn wsX3_drawPick wsX3_drawSpan := goodIn_r _ [11, 12, 13, 14, 15, 16, 4, 17, 18, 19, 20, 21, 22, 23, 24, 25, 26, 27, 28, 29, 30, 31, 32, 33, 34, 35, 36, 37, 38, 39, 40, 45, 46, 47, 48, 49, 50, 51, 52, 53, 54, 55, 56, 57, 58, 59, 60] (by decide +kernel) (by decide +kernel)
set_option maxRecDepth 20000 in
theorem gX3_drawPick_X3_drawSpan : GoodIn wsX3_drawPick (wsV RX3 79 RX3 yX3_drawSpan wsX3_drawSpan) := goodIn_app (goodIn_of _ (by decide +kernel)) ggX3_drawPick_X3_drawSpan
set_option maxRecDepth 20000 in
theorem ggX3_drawPick_X3_weightReaching : GoodIn wsX3_drawPick wsX3_weightReaching := goodIn_r _ [44, 6, 45, 46, 47, 48, 49, 50, 51, 52, 53, 54, 55] (by decide +kernel) (by decide +kernel)
set_option maxRecDepth 20000 in
theorem gX3_drawPick_X3_weightReaching : GoodIn wsX3_drawPick (wsV RX3 164 RX3 yX3_weightReaching wsX3_weightReaching) := goodIn_app (goodIn_of _ (by decide +kernel)) ggX3_drawPick_X3_weightReaching
theorem dX3_drawPick_0 : decode cX3_drawPick 0 = .ok (.aload_n 0, 1) := by decide +kernel
theorem dX3_drawPick_1 : decode cX3_drawPick 1 = .ok (.invokevirtual 160, 3) := by decide +kernel
theorem dX3_drawPick_4 : decode cX3_drawPick 4 = .ok (.lstore 5, 2) := by decide +kernel
theorem dX3_drawPick_6 : decode cX3_drawPick 6 = .ok (.lload 5, 2) := by decide +kernel
theorem dX3_drawPick_8 : decode cX3_drawPick 8 = .ok (.lconst 0, 1) := by decide +kernel
theorem dX3_drawPick_9 : decode cX3_drawPick 9 = .ok (.lcmp, 1) := by decide +kernel
theorem dX3_drawPick_10 : decode cX3_drawPick 10 = .ok (.ifCond .ne 6, 3) := by decide +kernel
theorem dX3_drawPick_13 : decode cX3_drawPick 13 = .ok (.bipush (-4), 2) := by decide +kernel
theorem dX3_drawPick_15 : decode cX3_drawPick 15 = .ok (.ireturn, 1) := by decide +kernel
theorem dX3_drawPick_16 : decode cX3_drawPick 16 = .ok (.lload 5, 2) := by decide +kernel
theorem dX3_drawPick_18 : decode cX3_drawPick 18 = .ok (.lconst 0, 1) := by decide +kernel
theorem dX3_drawPick_19 : decode cX3_drawPick 19 = .ok (.lcmp, 1) := by decide +kernel
theorem dX3_drawPick_20 : decode cX3_drawPick 20 = .ok (.ifCond .ge 6, 3) := by decide +kernel
theorem dX3_drawPick_23 : decode cX3_drawPick 23 = .ok (.bipush (-5), 2) := by decide +kernel
theorem dX3_drawPick_25 : decode cX3_drawPick 25 = .ok (.ireturn, 1) := by decide +kernel
theorem dX3_drawPick_26 : decode cX3_drawPick 26 = .ok (.aload_n 0, 1) := by decide +kernel
theorem dX3_drawPick_27 : decode cX3_drawPick 27 = .ok (.lload_n 1, 1) := by decide +kernel
theorem dX3_drawPick_28 : decode cX3_drawPick 28 = .ok (.iload_n 3, 1) := by decide +kernel
theorem dX3_drawPick_29 : decode cX3_drawPick 29 = .ok (.iload 4, 2) := by decide +kernel
theorem dX3_drawPick_31 : decode cX3_drawPick 31 = .ok (.lload 5, 2) := by decide +kernel
theorem dX3_drawPick_33 : decode cX3_drawPick 33 = .ok (.invokevirtual 79, 3) := by decide +kernel
theorem dX3_drawPick_36 : decode cX3_drawPick 36 = .ok (.lstore 7, 2) := by decide +kernel
theorem dX3_drawPick_38 : decode cX3_drawPick 38 = .ok (.lload 7, 2) := by decide +kernel
theorem dX3_drawPick_40 : decode cX3_drawPick 40 = .ok (.lconst 0, 1) := by decide +kernel
theorem dX3_drawPick_41 : decode cX3_drawPick 41 = .ok (.lcmp, 1) := by decide +kernel
theorem dX3_drawPick_42 : decode cX3_drawPick 42 = .ok (.ifCond .ge 8, 3) := by decide +kernel
theorem dX3_drawPick_45 : decode cX3_drawPick 45 = .ok (.bipush (-3), 2) := by decide +kernel
theorem dX3_drawPick_47 : decode cX3_drawPick 47 = .ok (.goto 9, 3) := by decide +kernel
theorem dX3_drawPick_50 : decode cX3_drawPick 50 = .ok (.aload_n 0, 1) := by decide +kernel
theorem dX3_drawPick_51 : decode cX3_drawPick 51 = .ok (.lload 7, 2) := by decide +kernel
theorem dX3_drawPick_53 : decode cX3_drawPick 53 = .ok (.invokevirtual 164, 3) := by decide +kernel
theorem dX3_drawPick_56 : decode cX3_drawPick 56 = .ok (.ireturn, 1) := by decide +kernel
theorem dX3_weightReaching_0 : decode cX3_weightReaching 0 = .ok (.lload_n 1, 1) := by decide +kernel
theorem dX3_weightReaching_1 : decode cX3_weightReaching 1 = .ok (.lstore_n 3, 1) := by decide +kernel
theorem dX3_weightReaching_2 : decode cX3_weightReaching 2 = .ok (.iconst 0, 1) := by decide +kernel
theorem dX3_weightReaching_3 : decode cX3_weightReaching 3 = .ok (.istore 5, 2) := by decide +kernel
theorem dX3_weightReaching_5 : decode cX3_weightReaching 5 = .ok (.iload 5, 2) := by decide +kernel
theorem dX3_weightReaching_7 : decode cX3_weightReaching 7 = .ok (.bipush 9, 2) := by decide +kernel
theorem dX3_weightReaching_9 : decode cX3_weightReaching 9 = .ok (.if_icmp .ge 31, 3) := by decide +kernel
theorem dX3_weightReaching_12 : decode cX3_weightReaching 12 = .ok (.lload_n 3, 1) := by decide +kernel
theorem dX3_weightReaching_13 : decode cX3_weightReaching 13 = .ok (.aload_n 0, 1) := by decide +kernel
theorem dX3_weightReaching_14 : decode cX3_weightReaching 14 = .ok (.getfield 24, 3) := by decide +kernel
theorem dX3_weightReaching_17 : decode cX3_weightReaching 17 = .ok (.iload 5, 2) := by decide +kernel
theorem dX3_weightReaching_19 : decode cX3_weightReaching 19 = .ok (.laload, 1) := by decide +kernel
theorem dX3_weightReaching_20 : decode cX3_weightReaching 20 = .ok (.lcmp, 1) := by decide +kernel
theorem dX3_weightReaching_21 : decode cX3_weightReaching 21 = .ok (.ifCond .lt 19, 3) := by decide +kernel
theorem dX3_weightReaching_24 : decode cX3_weightReaching 24 = .ok (.lload_n 3, 1) := by decide +kernel
theorem dX3_weightReaching_25 : decode cX3_weightReaching 25 = .ok (.aload_n 0, 1) := by decide +kernel
theorem dX3_weightReaching_26 : decode cX3_weightReaching 26 = .ok (.getfield 24, 3) := by decide +kernel
theorem dX3_weightReaching_29 : decode cX3_weightReaching 29 = .ok (.iload 5, 2) := by decide +kernel
theorem dX3_weightReaching_31 : decode cX3_weightReaching 31 = .ok (.laload, 1) := by decide +kernel
theorem dX3_weightReaching_32 : decode cX3_weightReaching 32 = .ok (.lsub, 1) := by decide +kernel
theorem dX3_weightReaching_33 : decode cX3_weightReaching 33 = .ok (.lstore_n 3, 1) := by decide +kernel
theorem dX3_weightReaching_34 : decode cX3_weightReaching 34 = .ok (.iinc 5 1, 3) := by decide +kernel
theorem dX3_weightReaching_37 : decode cX3_weightReaching 37 = .ok (.goto (-32), 3) := by decide +kernel
theorem dX3_weightReaching_40 : decode cX3_weightReaching 40 = .ok (.iload 5, 2) := by decide +kernel
theorem dX3_weightReaching_42 : decode cX3_weightReaching 42 = .ok (.ireturn, 1) := by decide +kernel
set_option maxRecDepth 20000 in
theorem ggX3_drawPermutation_X3_drawSpan : GoodIn wsX3_drawPermutation wsX3_drawSpan := goodIn_r _ [6, 7, 8, 9, 10, 11, 5, 12, 13, 14, 15, 16, 17, 18, 19, 20, 21, 22, 23, 24, 25, 26, 27, 28, 29, 30, 31, 32, 33, 34, 35, 36, 37, 38, 39, 40, 41, 42, 43, 44, 45, 46, 47, 48, 49, 50, 51] (by decide +kernel) (by decide +kernel)
set_option maxRecDepth 20000 in
theorem gX3_drawPermutation_X3_drawSpan : GoodIn wsX3_drawPermutation (wsV RX3 79 RX3 yX3_drawSpan wsX3_drawSpan) := goodIn_app (goodIn_of _ (by decide +kernel)) ggX3_drawPermutation_X3_drawSpan
theorem dX3_drawPermutation_0 : decode cX3_drawPermutation 0 = .ok (.iconst 0, 1) := by decide +kernel
theorem dX3_drawPermutation_1 : decode cX3_drawPermutation 1 = .ok (.istore 6, 2) := by decide +kernel
theorem dX3_drawPermutation_3 : decode cX3_drawPermutation 3 = .ok (.iload 6, 2) := by decide +kernel
theorem dX3_drawPermutation_5 : decode cX3_drawPermutation 5 = .ok (.iload 5, 2) := by decide +kernel
theorem dX3_drawPermutation_7 : decode cX3_drawPermutation 7 = .ok (.if_icmp .ge 18, 3) := by decide +kernel
theorem dX3_drawPermutation_10 : decode cX3_drawPermutation 10 = .ok (.aload_n 0, 1) := by decide +kernel
theorem dX3_drawPermutation_11 : decode cX3_drawPermutation 11 = .ok (.getfield 27, 3) := by decide +kernel
theorem dX3_drawPermutation_14 : decode cX3_drawPermutation 14 = .ok (.iload 6, 2) := by decide +kernel
theorem dX3_drawPermutation_16 : decode cX3_drawPermutation 16 = .ok (.iload 6, 2) := by decide +kernel
theorem dX3_drawPermutation_18 : decode cX3_drawPermutation 18 = .ok (.iastore, 1) := by decide +kernel
theorem dX3_drawPermutation_19 : decode cX3_drawPermutation 19 = .ok (.iinc 6 1, 3) := by decide +kernel
theorem dX3_drawPermutation_22 : decode cX3_drawPermutation 22 = .ok (.goto (-19), 3) := by decide +kernel
theorem dX3_drawPermutation_25 : decode cX3_drawPermutation 25 = .ok (.iload 5, 2) := by decide +kernel
theorem dX3_drawPermutation_27 : decode cX3_drawPermutation 27 = .ok (.iconst 1, 1) := by decide +kernel
theorem dX3_drawPermutation_28 : decode cX3_drawPermutation 28 = .ok (.isub, 1) := by decide +kernel
theorem dX3_drawPermutation_29 : decode cX3_drawPermutation 29 = .ok (.istore 6, 2) := by decide +kernel
theorem dX3_drawPermutation_31 : decode cX3_drawPermutation 31 = .ok (.iload 6, 2) := by decide +kernel
theorem dX3_drawPermutation_33 : decode cX3_drawPermutation 33 = .ok (.iconst 1, 1) := by decide +kernel
theorem dX3_drawPermutation_34 : decode cX3_drawPermutation 34 = .ok (.if_icmp .lt 73, 3) := by decide +kernel
theorem dX3_drawPermutation_37 : decode cX3_drawPermutation 37 = .ok (.aload_n 0, 1) := by decide +kernel
theorem dX3_drawPermutation_38 : decode cX3_drawPermutation 38 = .ok (.lload_n 1, 1) := by decide +kernel
theorem dX3_drawPermutation_39 : decode cX3_drawPermutation 39 = .ok (.iload_n 3, 1) := by decide +kernel
theorem dX3_drawPermutation_40 : decode cX3_drawPermutation 40 = .ok (.iload 4, 2) := by decide +kernel
theorem dX3_drawPermutation_42 : decode cX3_drawPermutation 42 = .ok (.iload 6, 2) := by decide +kernel
theorem dX3_drawPermutation_44 : decode cX3_drawPermutation 44 = .ok (.iadd, 1) := by decide +kernel
theorem dX3_drawPermutation_45 : decode cX3_drawPermutation 45 = .ok (.iload 6, 2) := by decide +kernel
theorem dX3_drawPermutation_47 : decode cX3_drawPermutation 47 = .ok (.iconst 1, 1) := by decide +kernel
theorem dX3_drawPermutation_48 : decode cX3_drawPermutation 48 = .ok (.iadd, 1) := by decide +kernel
theorem dX3_drawPermutation_49 : decode cX3_drawPermutation 49 = .ok (.i2l, 1) := by decide +kernel
theorem dX3_drawPermutation_50 : decode cX3_drawPermutation 50 = .ok (.invokevirtual 79, 3) := by decide +kernel
theorem dX3_drawPermutation_53 : decode cX3_drawPermutation 53 = .ok (.lstore 7, 2) := by decide +kernel
theorem dX3_drawPermutation_55 : decode cX3_drawPermutation 55 = .ok (.lload 7, 2) := by decide +kernel
theorem dX3_drawPermutation_57 : decode cX3_drawPermutation 57 = .ok (.lconst 0, 1) := by decide +kernel
theorem dX3_drawPermutation_58 : decode cX3_drawPermutation 58 = .ok (.lcmp, 1) := by decide +kernel
theorem dX3_drawPermutation_59 : decode cX3_drawPermutation 59 = .ok (.ifCond .ge 5, 3) := by decide +kernel
theorem dX3_drawPermutation_62 : decode cX3_drawPermutation 62 = .ok (.iconst 0, 1) := by decide +kernel
theorem dX3_drawPermutation_63 : decode cX3_drawPermutation 63 = .ok (.ireturn, 1) := by decide +kernel
theorem dX3_drawPermutation_64 : decode cX3_drawPermutation 64 = .ok (.lload 7, 2) := by decide +kernel
theorem dX3_drawPermutation_66 : decode cX3_drawPermutation 66 = .ok (.l2i, 1) := by decide +kernel
theorem dX3_drawPermutation_67 : decode cX3_drawPermutation 67 = .ok (.istore 9, 2) := by decide +kernel
theorem dX3_drawPermutation_69 : decode cX3_drawPermutation 69 = .ok (.aload_n 0, 1) := by decide +kernel
theorem dX3_drawPermutation_70 : decode cX3_drawPermutation 70 = .ok (.getfield 27, 3) := by decide +kernel
theorem dX3_drawPermutation_73 : decode cX3_drawPermutation 73 = .ok (.iload 6, 2) := by decide +kernel
theorem dX3_drawPermutation_75 : decode cX3_drawPermutation 75 = .ok (.iaload, 1) := by decide +kernel
theorem dX3_drawPermutation_76 : decode cX3_drawPermutation 76 = .ok (.istore 10, 2) := by decide +kernel
theorem dX3_drawPermutation_78 : decode cX3_drawPermutation 78 = .ok (.aload_n 0, 1) := by decide +kernel
theorem dX3_drawPermutation_79 : decode cX3_drawPermutation 79 = .ok (.getfield 27, 3) := by decide +kernel
theorem dX3_drawPermutation_82 : decode cX3_drawPermutation 82 = .ok (.iload 6, 2) := by decide +kernel
theorem dX3_drawPermutation_84 : decode cX3_drawPermutation 84 = .ok (.aload_n 0, 1) := by decide +kernel
theorem dX3_drawPermutation_85 : decode cX3_drawPermutation 85 = .ok (.getfield 27, 3) := by decide +kernel
theorem dX3_drawPermutation_88 : decode cX3_drawPermutation 88 = .ok (.iload 9, 2) := by decide +kernel
theorem dX3_drawPermutation_90 : decode cX3_drawPermutation 90 = .ok (.iaload, 1) := by decide +kernel
theorem dX3_drawPermutation_91 : decode cX3_drawPermutation 91 = .ok (.iastore, 1) := by decide +kernel
theorem dX3_drawPermutation_92 : decode cX3_drawPermutation 92 = .ok (.aload_n 0, 1) := by decide +kernel
theorem dX3_drawPermutation_93 : decode cX3_drawPermutation 93 = .ok (.getfield 27, 3) := by decide +kernel
theorem dX3_drawPermutation_96 : decode cX3_drawPermutation 96 = .ok (.iload 9, 2) := by decide +kernel
theorem dX3_drawPermutation_98 : decode cX3_drawPermutation 98 = .ok (.iload 10, 2) := by decide +kernel
theorem dX3_drawPermutation_100 : decode cX3_drawPermutation 100 = .ok (.iastore, 1) := by decide +kernel
theorem dX3_drawPermutation_101 : decode cX3_drawPermutation 101 = .ok (.iinc 6 (-1), 3) := by decide +kernel
theorem dX3_drawPermutation_104 : decode cX3_drawPermutation 104 = .ok (.goto (-73), 3) := by decide +kernel
theorem dX3_drawPermutation_107 : decode cX3_drawPermutation 107 = .ok (.iconst 1, 1) := by decide +kernel
theorem dX3_drawPermutation_108 : decode cX3_drawPermutation 108 = .ok (.ireturn, 1) := by decide +kernel
theorem dX3_streamAt_0 : decode cX3_streamAt 0 = .ok (.iload_n 1, 1) := by decide +kernel
theorem dX3_streamAt_1 : decode cX3_streamAt 1 = .ok (.ifCond .lt 11, 3) := by decide +kernel
theorem dX3_streamAt_4 : decode cX3_streamAt 4 = .ok (.iload_n 1, 1) := by decide +kernel
theorem dX3_streamAt_5 : decode cX3_streamAt 5 = .ok (.aload_n 0, 1) := by decide +kernel
theorem dX3_streamAt_6 : decode cX3_streamAt 6 = .ok (.getfield 37, 3) := by decide +kernel
theorem dX3_streamAt_9 : decode cX3_streamAt 9 = .ok (.if_icmp .lt 7, 3) := by decide +kernel
theorem dX3_streamAt_12 : decode cX3_streamAt 12 = .ok (.aconst_null, 1) := by decide +kernel
theorem dX3_streamAt_13 : decode cX3_streamAt 13 = .ok (.goto 9, 3) := by decide +kernel
theorem dX3_streamAt_16 : decode cX3_streamAt 16 = .ok (.aload_n 0, 1) := by decide +kernel
theorem dX3_streamAt_17 : decode cX3_streamAt 17 = .ok (.getfield 33, 3) := by decide +kernel
theorem dX3_streamAt_20 : decode cX3_streamAt 20 = .ok (.iload_n 1, 1) := by decide +kernel
theorem dX3_streamAt_21 : decode cX3_streamAt 21 = .ok (.aaload, 1) := by decide +kernel
theorem dX3_streamAt_22 : decode cX3_streamAt 22 = .ok (.areturn, 1) := by decide +kernel
set_option maxRecDepth 20000 in
theorem ggX3_addStream_X2_init : GoodIn wsX3_addStream wsX2_init := goodIn_r _ [8, 9, 10, 11, 12, 13, 14, 15, 27, 28, 29, 30] (by decide +kernel) (by decide +kernel)
set_option maxRecDepth 20000 in
theorem gX3_addStream_X2_init : GoodIn wsX3_addStream (wsX2_init) := ggX3_addStream_X2_init
theorem dX3_addStream_0 : decode cX3_addStream 0 = .ok (.aload_n 0, 1) := by decide +kernel
theorem dX3_addStream_1 : decode cX3_addStream 1 = .ok (.getfield 37, 3) := by decide +kernel
theorem dX3_addStream_4 : decode cX3_addStream 4 = .ok (.istore 4, 2) := by decide +kernel
theorem dX3_addStream_6 : decode cX3_addStream 6 = .ok (.aload_n 0, 1) := by decide +kernel
theorem dX3_addStream_7 : decode cX3_addStream 7 = .ok (.getfield 33, 3) := by decide +kernel
theorem dX3_addStream_10 : decode cX3_addStream 10 = .ok (.iload 4, 2) := by decide +kernel
theorem dX3_addStream_12 : decode cX3_addStream 12 = .ok (.new 31, 3) := by decide +kernel
theorem dX3_addStream_15 : decode cX3_addStream 15 = .ok (.dup, 1) := by decide +kernel
theorem dX3_addStream_16 : decode cX3_addStream 16 = .ok (.lload_n 1, 1) := by decide +kernel
theorem dX3_addStream_17 : decode cX3_addStream 17 = .ok (.iload_n 3, 1) := by decide +kernel
theorem dX3_addStream_18 : decode cX3_addStream 18 = .ok (.invokespecial 168, 3) := by decide +kernel
theorem dX3_addStream_21 : decode cX3_addStream 21 = .ok (.aastore, 1) := by decide +kernel
theorem dX3_addStream_22 : decode cX3_addStream 22 = .ok (.aload_n 0, 1) := by decide +kernel
theorem dX3_addStream_23 : decode cX3_addStream 23 = .ok (.dup, 1) := by decide +kernel
theorem dX3_addStream_24 : decode cX3_addStream 24 = .ok (.getfield 37, 3) := by decide +kernel
theorem dX3_addStream_27 : decode cX3_addStream 27 = .ok (.iconst 1, 1) := by decide +kernel
theorem dX3_addStream_28 : decode cX3_addStream 28 = .ok (.iadd, 1) := by decide +kernel
theorem dX3_addStream_29 : decode cX3_addStream 29 = .ok (.putfield 37, 3) := by decide +kernel
theorem dX3_addStream_32 : decode cX3_addStream 32 = .ok (.iload 4, 2) := by decide +kernel
theorem dX3_addStream_34 : decode cX3_addStream 34 = .ok (.ireturn, 1) := by decide +kernel
end
section
theorem dX4_init_0 : decode cX4_init 0 = .ok (.aload_n 0, 1) := by decide +kernel
theorem dX4_init_1 : decode cX4_init 1 = .ok (.invokespecial 1, 3) := by decide +kernel
theorem dX4_init_4 : decode cX4_init 4 = .ok (.aload_n 0, 1) := by decide +kernel
theorem dX4_init_5 : decode cX4_init 5 = .ok (.bipush 96, 2) := by decide +kernel
theorem dX4_init_7 : decode cX4_init 7 = .ok (.newarray .long, 2) := by decide +kernel
theorem dX4_init_9 : decode cX4_init 9 = .ok (.putfield 7, 3) := by decide +kernel
theorem dX4_init_12 : decode cX4_init 12 = .ok (.aload_n 0, 1) := by decide +kernel
theorem dX4_init_13 : decode cX4_init 13 = .ok (.bipush 24, 2) := by decide +kernel
theorem dX4_init_15 : decode cX4_init 15 = .ok (.newarray .int, 2) := by decide +kernel
theorem dX4_init_17 : decode cX4_init 17 = .ok (.putfield 13, 3) := by decide +kernel
theorem dX4_init_20 : decode cX4_init 20 = .ok (.aload_n 0, 1) := by decide +kernel
theorem dX4_init_21 : decode cX4_init 21 = .ok (.iconst 4, 1) := by decide +kernel
theorem dX4_init_22 : decode cX4_init 22 = .ok (.newarray .long, 2) := by decide +kernel
theorem dX4_init_24 : decode cX4_init 24 = .ok (.putfield 17, 3) := by decide +kernel
theorem dX4_init_27 : decode cX4_init 27 = .ok (.aload_n 0, 1) := by decide +kernel
theorem dX4_init_28 : decode cX4_init 28 = .ok (.bipush 10, 2) := by decide +kernel
theorem dX4_init_30 : decode cX4_init 30 = .ok (.newarray .long, 2) := by decide +kernel
theorem dX4_init_32 : decode cX4_init 32 = .ok (.putfield 20, 3) := by decide +kernel
theorem dX4_init_35 : decode cX4_init 35 = .ok (.aload_n 0, 1) := by decide +kernel
theorem dX4_init_36 : decode cX4_init 36 = .ok (.bipush 8, 2) := by decide +kernel
theorem dX4_init_38 : decode cX4_init 38 = .ok (.newarray .long, 2) := by decide +kernel
theorem dX4_init_40 : decode cX4_init 40 = .ok (.putfield 23, 3) := by decide +kernel
theorem dX4_init_43 : decode cX4_init 43 = .ok (.aload_n 0, 1) := by decide +kernel
theorem dX4_init_44 : decode cX4_init 44 = .ok (.bipush 8, 2) := by decide +kernel
theorem dX4_init_46 : decode cX4_init 46 = .ok (.newarray .int, 2) := by decide +kernel
theorem dX4_init_48 : decode cX4_init 48 = .ok (.putfield 26, 3) := by decide +kernel
theorem dX4_init_51 : decode cX4_init 51 = .ok (.aload_n 0, 1) := by decide +kernel
theorem dX4_init_52 : decode cX4_init 52 = .ok (.bipush 8, 2) := by decide +kernel
theorem dX4_init_54 : decode cX4_init 54 = .ok (.newarray .int, 2) := by decide +kernel
theorem dX4_init_56 : decode cX4_init 56 = .ok (.putfield 29, 3) := by decide +kernel
theorem dX4_init_59 : decode cX4_init 59 = .ok (.aload_n 0, 1) := by decide +kernel
theorem dX4_init_60 : decode cX4_init 60 = .ok (.bipush 8, 2) := by decide +kernel
theorem dX4_init_62 : decode cX4_init 62 = .ok (.newarray .int, 2) := by decide +kernel
theorem dX4_init_64 : decode cX4_init 64 = .ok (.putfield 32, 3) := by decide +kernel
theorem dX4_init_67 : decode cX4_init 67 = .ok (.aload_n 0, 1) := by decide +kernel
theorem dX4_init_68 : decode cX4_init 68 = .ok (.iconst 4, 1) := by decide +kernel
theorem dX4_init_69 : decode cX4_init 69 = .ok (.newarray .int, 2) := by decide +kernel
theorem dX4_init_71 : decode cX4_init 71 = .ok (.putfield 35, 3) := by decide +kernel
theorem dX4_init_74 : decode cX4_init 74 = .ok (.aload_n 0, 1) := by decide +kernel
theorem dX4_init_75 : decode cX4_init 75 = .ok (.iconst 4, 1) := by decide +kernel
theorem dX4_init_76 : decode cX4_init 76 = .ok (.newarray .int, 2) := by decide +kernel
theorem dX4_init_78 : decode cX4_init 78 = .ok (.putfield 38, 3) := by decide +kernel
theorem dX4_init_81 : decode cX4_init 81 = .ok (.aload_n 0, 1) := by decide +kernel
theorem dX4_init_82 : decode cX4_init 82 = .ok (.iconst 4, 1) := by decide +kernel
theorem dX4_init_83 : decode cX4_init 83 = .ok (.newarray .int, 2) := by decide +kernel
theorem dX4_init_85 : decode cX4_init 85 = .ok (.putfield 41, 3) := by decide +kernel
theorem dX4_init_88 : decode cX4_init 88 = .ok (.aload_n 0, 1) := by decide +kernel
theorem dX4_init_89 : decode cX4_init 89 = .ok (.iconst 4, 1) := by decide +kernel
theorem dX4_init_90 : decode cX4_init 90 = .ok (.newarray .boolean, 2) := by decide +kernel
theorem dX4_init_92 : decode cX4_init 92 = .ok (.putfield 44, 3) := by decide +kernel
theorem dX4_init_95 : decode cX4_init 95 = .ok (.aload_n 0, 1) := by decide +kernel
theorem dX4_init_96 : decode cX4_init 96 = .ok (.bipush 40, 2) := by decide +kernel
theorem dX4_init_98 : decode cX4_init 98 = .ok (.newarray .int, 2) := by decide +kernel
theorem dX4_init_100 : decode cX4_init 100 = .ok (.putfield 48, 3) := by decide +kernel
theorem dX4_init_103 : decode cX4_init 103 = .ok (.aload_n 0, 1) := by decide +kernel
theorem dX4_init_104 : decode cX4_init 104 = .ok (.iconst 4, 1) := by decide +kernel
theorem dX4_init_105 : decode cX4_init 105 = .ok (.newarray .long, 2) := by decide +kernel
theorem dX4_init_107 : decode cX4_init 107 = .ok (.putfield 51, 3) := by decide +kernel
theorem dX4_init_110 : decode cX4_init 110 = .ok (.aload_n 0, 1) := by decide +kernel
theorem dX4_init_111 : decode cX4_init 111 = .ok (.lload_n 1, 1) := by decide +kernel
theorem dX4_init_112 : decode cX4_init 112 = .ok (.putfield 54, 3) := by decide +kernel
theorem dX4_init_115 : decode cX4_init 115 = .ok (.return_, 1) := by decide +kernel
theorem dX4_in_0 : decode cX4_in 0 = .ok (.lload_n 0, 1) := by decide +kernel
theorem dX4_in_1 : decode cX4_in 1 = .ok (.lload_n 2, 1) := by decide +kernel
theorem dX4_in_2 : decode cX4_in 2 = .ok (.lcmp, 1) := by decide +kernel
theorem dX4_in_3 : decode cX4_in 3 = .ok (.ifCond .lt 14, 3) := by decide +kernel
theorem dX4_in_6 : decode cX4_in 6 = .ok (.lload_n 0, 1) := by decide +kernel
theorem dX4_in_7 : decode cX4_in 7 = .ok (.lload 4, 2) := by decide +kernel
theorem dX4_in_9 : decode cX4_in 9 = .ok (.lcmp, 1) := by decide +kernel
theorem dX4_in_10 : decode cX4_in 10 = .ok (.ifCond .gt 7, 3) := by decide +kernel
theorem dX4_in_13 : decode cX4_in 13 = .ok (.iconst 1, 1) := by decide +kernel
theorem dX4_in_14 : decode cX4_in 14 = .ok (.goto 4, 3) := by decide +kernel
theorem dX4_in_17 : decode cX4_in 17 = .ok (.iconst 0, 1) := by decide +kernel
theorem dX4_in_18 : decode cX4_in 18 = .ok (.ireturn, 1) := by decide +kernel
theorem dX4_mix_0 : decode cX4_mix 0 = .ok (.lload_n 0, 1) := by decide +kernel
theorem dX4_mix_1 : decode cX4_mix 1 = .ok (.lstore_n 2, 1) := by decide +kernel
theorem dX4_mix_2 : decode cX4_mix 2 = .ok (.lload_n 2, 1) := by decide +kernel
theorem dX4_mix_3 : decode cX4_mix 3 = .ok (.lload_n 2, 1) := by decide +kernel
theorem dX4_mix_4 : decode cX4_mix 4 = .ok (.bipush 30, 2) := by decide +kernel
theorem dX4_mix_6 : decode cX4_mix 6 = .ok (.lushr, 1) := by decide +kernel
theorem dX4_mix_7 : decode cX4_mix 7 = .ok (.lxor, 1) := by decide +kernel
theorem dX4_mix_8 : decode cX4_mix 8 = .ok (.ldc2_w 58, 3) := by decide +kernel
theorem dX4_mix_11 : decode cX4_mix 11 = .ok (.lmul, 1) := by decide +kernel
theorem dX4_mix_12 : decode cX4_mix 12 = .ok (.lstore_n 2, 1) := by decide +kernel
theorem dX4_mix_13 : decode cX4_mix 13 = .ok (.lload_n 2, 1) := by decide +kernel
theorem dX4_mix_14 : decode cX4_mix 14 = .ok (.lload_n 2, 1) := by decide +kernel
theorem dX4_mix_15 : decode cX4_mix 15 = .ok (.bipush 27, 2) := by decide +kernel
theorem dX4_mix_17 : decode cX4_mix 17 = .ok (.lushr, 1) := by decide +kernel
theorem dX4_mix_18 : decode cX4_mix 18 = .ok (.lxor, 1) := by decide +kernel
theorem dX4_mix_19 : decode cX4_mix 19 = .ok (.ldc2_w 60, 3) := by decide +kernel
theorem dX4_mix_22 : decode cX4_mix 22 = .ok (.lmul, 1) := by decide +kernel
theorem dX4_mix_23 : decode cX4_mix 23 = .ok (.lstore_n 2, 1) := by decide +kernel
theorem dX4_mix_24 : decode cX4_mix 24 = .ok (.lload_n 2, 1) := by decide +kernel
theorem dX4_mix_25 : decode cX4_mix 25 = .ok (.lload_n 2, 1) := by decide +kernel
theorem dX4_mix_26 : decode cX4_mix 26 = .ok (.bipush 31, 2) := by decide +kernel
theorem dX4_mix_28 : decode cX4_mix 28 = .ok (.lushr, 1) := by decide +kernel
theorem dX4_mix_29 : decode cX4_mix 29 = .ok (.lxor, 1) := by decide +kernel
theorem dX4_mix_30 : decode cX4_mix 30 = .ok (.lreturn, 1) := by decide +kernel
theorem dX4_isBelow_0 : decode cX4_isBelow 0 = .ok (.lload_n 0, 1) := by decide +kernel
theorem dX4_isBelow_1 : decode cX4_isBelow 1 = .ok (.ldc2_w 62, 3) := by decide +kernel
theorem dX4_isBelow_4 : decode cX4_isBelow 4 = .ok (.lxor, 1) := by decide +kernel
theorem dX4_isBelow_5 : decode cX4_isBelow 5 = .ok (.lload_n 2, 1) := by decide +kernel
theorem dX4_isBelow_6 : decode cX4_isBelow 6 = .ok (.ldc2_w 62, 3) := by decide +kernel
theorem dX4_isBelow_9 : decode cX4_isBelow 9 = .ok (.lxor, 1) := by decide +kernel
theorem dX4_isBelow_10 : decode cX4_isBelow 10 = .ok (.lcmp, 1) := by decide +kernel
theorem dX4_isBelow_11 : decode cX4_isBelow 11 = .ok (.ifCond .ge 7, 3) := by decide +kernel
theorem dX4_isBelow_14 : decode cX4_isBelow 14 = .ok (.iconst 1, 1) := by decide +kernel
theorem dX4_isBelow_15 : decode cX4_isBelow 15 = .ok (.goto 4, 3) := by decide +kernel
theorem dX4_isBelow_18 : decode cX4_isBelow 18 = .ok (.iconst 0, 1) := by decide +kernel
theorem dX4_isBelow_19 : decode cX4_isBelow 19 = .ok (.ireturn, 1) := by decide +kernel
set_option maxRecDepth 20000 in
theorem ggX4_rest_X4_isBelow : GoodIn wsX4_rest wsX4_isBelow := goodIn_r _ [4, 5] (by decide +kernel) (by decide +kernel)
set_option maxRecDepth 20000 in
theorem gX4_rest_X4_isBelow : GoodIn wsX4_rest (va_wsS RX4 64 yX4_isBelow wsX4_isBelow) := goodIn_app (goodIn_of _ (by decide +kernel)) ggX4_rest_X4_isBelow
theorem dX4_rest_0 : decode cX4_rest 0 = .ok (.lload_n 0, 1) := by decide +kernel
theorem dX4_rest_1 : decode cX4_rest 1 = .ok (.lconst 0, 1) := by decide +kernel
theorem dX4_rest_2 : decode cX4_rest 2 = .ok (.lcmp, 1) := by decide +kernel
theorem dX4_rest_3 : decode cX4_rest 3 = .ok (.ifCond .lt 7, 3) := by decide +kernel
theorem dX4_rest_6 : decode cX4_rest 6 = .ok (.lload_n 0, 1) := by decide +kernel
theorem dX4_rest_7 : decode cX4_rest 7 = .ok (.lload_n 2, 1) := by decide +kernel
theorem dX4_rest_8 : decode cX4_rest 8 = .ok (.lrem, 1) := by decide +kernel
theorem dX4_rest_9 : decode cX4_rest 9 = .ok (.lreturn, 1) := by decide +kernel
theorem dX4_rest_10 : decode cX4_rest 10 = .ok (.lload_n 0, 1) := by decide +kernel
theorem dX4_rest_11 : decode cX4_rest 11 = .ok (.iconst 1, 1) := by decide +kernel
theorem dX4_rest_12 : decode cX4_rest 12 = .ok (.lushr, 1) := by decide +kernel
theorem dX4_rest_13 : decode cX4_rest 13 = .ok (.lload_n 2, 1) := by decide +kernel
theorem dX4_rest_14 : decode cX4_rest 14 = .ok (.ldiv, 1) := by decide +kernel
theorem dX4_rest_15 : decode cX4_rest 15 = .ok (.iconst 1, 1) := by decide +kernel
theorem dX4_rest_16 : decode cX4_rest 16 = .ok (.lshl, 1) := by decide +kernel
theorem dX4_rest_17 : decode cX4_rest 17 = .ok (.lstore 4, 2) := by decide +kernel
theorem dX4_rest_19 : decode cX4_rest 19 = .ok (.lload_n 0, 1) := by decide +kernel
theorem dX4_rest_20 : decode cX4_rest 20 = .ok (.lload 4, 2) := by decide +kernel
theorem dX4_rest_22 : decode cX4_rest 22 = .ok (.lload_n 2, 1) := by decide +kernel
theorem dX4_rest_23 : decode cX4_rest 23 = .ok (.lmul, 1) := by decide +kernel
theorem dX4_rest_24 : decode cX4_rest 24 = .ok (.lsub, 1) := by decide +kernel
theorem dX4_rest_25 : decode cX4_rest 25 = .ok (.lstore 6, 2) := by decide +kernel
theorem dX4_rest_27 : decode cX4_rest 27 = .ok (.lload 6, 2) := by decide +kernel
theorem dX4_rest_29 : decode cX4_rest 29 = .ok (.lload_n 2, 1) := by decide +kernel
theorem dX4_rest_30 : decode cX4_rest 30 = .ok (.invokestatic 64, 3) := by decide +kernel
theorem dX4_rest_33 : decode cX4_rest 33 = .ok (.ifCond .eq 8, 3) := by decide +kernel
theorem dX4_rest_36 : decode cX4_rest 36 = .ok (.lload 6, 2) := by decide +kernel
theorem dX4_rest_38 : decode cX4_rest 38 = .ok (.goto 7, 3) := by decide +kernel
theorem dX4_rest_41 : decode cX4_rest 41 = .ok (.lload 6, 2) := by decide +kernel
theorem dX4_rest_43 : decode cX4_rest 43 = .ok (.lload_n 2, 1) := by decide +kernel
theorem dX4_rest_44 : decode cX4_rest 44 = .ok (.lsub, 1) := by decide +kernel
theorem dX4_rest_45 : decode cX4_rest 45 = .ok (.lreturn, 1) := by decide +kernel
theorem dX4_part_0 : decode cX4_part 0 = .ok (.aload_n 0, 1) := by decide +kernel
theorem dX4_part_1 : decode cX4_part 1 = .ok (.getfield 68, 3) := by decide +kernel
theorem dX4_part_4 : decode cX4_part 4 = .ok (.iconst 4, 1) := by decide +kernel
theorem dX4_part_5 : decode cX4_part 5 = .ok (.if_icmp .ne 6, 3) := by decide +kernel
theorem dX4_part_8 : decode cX4_part 8 = .ok (.bipush (-2), 2) := by decide +kernel
theorem dX4_part_10 : decode cX4_part 10 = .ok (.ireturn, 1) := by decide +kernel
theorem dX4_part_11 : decode cX4_part 11 = .ok (.aload_n 0, 1) := by decide +kernel
theorem dX4_part_12 : decode cX4_part 12 = .ok (.getfield 17, 3) := by decide +kernel
theorem dX4_part_15 : decode cX4_part 15 = .ok (.aload_n 0, 1) := by decide +kernel
theorem dX4_part_16 : decode cX4_part 16 = .ok (.getfield 68, 3) := by decide +kernel
theorem dX4_part_19 : decode cX4_part 19 = .ok (.lload_n 1, 1) := by decide +kernel
theorem dX4_part_20 : decode cX4_part 20 = .ok (.lastore, 1) := by decide +kernel
theorem dX4_part_21 : decode cX4_part 21 = .ok (.aload_n 0, 1) := by decide +kernel
theorem dX4_part_22 : decode cX4_part 22 = .ok (.dup, 1) := by decide +kernel
theorem dX4_part_23 : decode cX4_part 23 = .ok (.getfield 68, 3) := by decide +kernel
theorem dX4_part_26 : decode cX4_part 26 = .ok (.iconst 1, 1) := by decide +kernel
theorem dX4_part_27 : decode cX4_part 27 = .ok (.iadd, 1) := by decide +kernel
theorem dX4_part_28 : decode cX4_part 28 = .ok (.putfield 68, 3) := by decide +kernel
theorem dX4_part_31 : decode cX4_part 31 = .ok (.aload_n 0, 1) := by decide +kernel
theorem dX4_part_32 : decode cX4_part 32 = .ok (.getfield 68, 3) := by decide +kernel
theorem dX4_part_35 : decode cX4_part 35 = .ok (.ireturn, 1) := by decide +kernel
theorem dX4_likePath_0 : decode cX4_likePath 0 = .ok (.iconst 0, 1) := by decide +kernel
theorem dX4_likePath_1 : decode cX4_likePath 1 = .ok (.istore_n 1, 1) := by decide +kernel
theorem dX4_likePath_2 : decode cX4_likePath 2 = .ok (.iload_n 1, 1) := by decide +kernel
theorem dX4_likePath_3 : decode cX4_likePath 3 = .ok (.aload_n 0, 1) := by decide +kernel
theorem dX4_likePath_4 : decode cX4_likePath 4 = .ok (.getfield 72, 3) := by decide +kernel
theorem dX4_likePath_7 : decode cX4_likePath 7 = .ok (.if_icmp .ge 80, 3) := by decide +kernel
theorem dX4_likePath_10 : decode cX4_likePath 10 = .ok (.aload_n 0, 1) := by decide +kernel
theorem dX4_likePath_11 : decode cX4_likePath 11 = .ok (.getfield 13, 3) := by decide +kernel
theorem dX4_likePath_14 : decode cX4_likePath 14 = .ok (.iload_n 1, 1) := by decide +kernel
theorem dX4_likePath_15 : decode cX4_likePath 15 = .ok (.iaload, 1) := by decide +kernel
theorem dX4_likePath_16 : decode cX4_likePath 16 = .ok (.aload_n 0, 1) := by decide +kernel
theorem dX4_likePath_17 : decode cX4_likePath 17 = .ok (.getfield 68, 3) := by decide +kernel
theorem dX4_likePath_20 : decode cX4_likePath 20 = .ok (.if_icmp .ne 7, 3) := by decide +kernel
theorem dX4_likePath_23 : decode cX4_likePath 23 = .ok (.iconst 1, 1) := by decide +kernel
theorem dX4_likePath_24 : decode cX4_likePath 24 = .ok (.goto 4, 3) := by decide +kernel
theorem dX4_likePath_27 : decode cX4_likePath 27 = .ok (.iconst 0, 1) := by decide +kernel
theorem dX4_likePath_28 : decode cX4_likePath 28 = .ok (.istore_n 2, 1) := by decide +kernel
theorem dX4_likePath_29 : decode cX4_likePath 29 = .ok (.iconst 0, 1) := by decide +kernel
theorem dX4_likePath_30 : decode cX4_likePath 30 = .ok (.istore_n 3, 1) := by decide +kernel
theorem dX4_likePath_31 : decode cX4_likePath 31 = .ok (.iload_n 3, 1) := by decide +kernel
theorem dX4_likePath_32 : decode cX4_likePath 32 = .ok (.aload_n 0, 1) := by decide +kernel
theorem dX4_likePath_33 : decode cX4_likePath 33 = .ok (.getfield 68, 3) := by decide +kernel
theorem dX4_likePath_36 : decode cX4_likePath 36 = .ok (.if_icmp .ge 39, 3) := by decide +kernel
theorem dX4_likePath_39 : decode cX4_likePath 39 = .ok (.iload_n 2, 1) := by decide +kernel
theorem dX4_likePath_40 : decode cX4_likePath 40 = .ok (.ifCond .eq 27, 3) := by decide +kernel
theorem dX4_likePath_43 : decode cX4_likePath 43 = .ok (.aload_n 0, 1) := by decide +kernel
theorem dX4_likePath_44 : decode cX4_likePath 44 = .ok (.getfield 7, 3) := by decide +kernel
theorem dX4_likePath_47 : decode cX4_likePath 47 = .ok (.iconst 4, 1) := by decide +kernel
theorem dX4_likePath_48 : decode cX4_likePath 48 = .ok (.iload_n 1, 1) := by decide +kernel
theorem dX4_likePath_49 : decode cX4_likePath 49 = .ok (.imul, 1) := by decide +kernel
theorem dX4_likePath_50 : decode cX4_likePath 50 = .ok (.iload_n 3, 1) := by decide +kernel
theorem dX4_likePath_51 : decode cX4_likePath 51 = .ok (.iadd, 1) := by decide +kernel
theorem dX4_likePath_52 : decode cX4_likePath 52 = .ok (.laload, 1) := by decide +kernel
theorem dX4_likePath_53 : decode cX4_likePath 53 = .ok (.aload_n 0, 1) := by decide +kernel
theorem dX4_likePath_54 : decode cX4_likePath 54 = .ok (.getfield 17, 3) := by decide +kernel
theorem dX4_likePath_57 : decode cX4_likePath 57 = .ok (.iload_n 3, 1) := by decide +kernel
theorem dX4_likePath_58 : decode cX4_likePath 58 = .ok (.laload, 1) := by decide +kernel
theorem dX4_likePath_59 : decode cX4_likePath 59 = .ok (.lcmp, 1) := by decide +kernel
theorem dX4_likePath_60 : decode cX4_likePath 60 = .ok (.ifCond .ne 7, 3) := by decide +kernel
theorem dX4_likePath_63 : decode cX4_likePath 63 = .ok (.iconst 1, 1) := by decide +kernel
theorem dX4_likePath_64 : decode cX4_likePath 64 = .ok (.goto 4, 3) := by decide +kernel
theorem dX4_likePath_67 : decode cX4_likePath 67 = .ok (.iconst 0, 1) := by decide +kernel
theorem dX4_likePath_68 : decode cX4_likePath 68 = .ok (.istore_n 2, 1) := by decide +kernel
theorem dX4_likePath_69 : decode cX4_likePath 69 = .ok (.iinc 3 1, 3) := by decide +kernel
theorem dX4_likePath_72 : decode cX4_likePath 72 = .ok (.goto (-41), 3) := by decide +kernel
theorem dX4_likePath_75 : decode cX4_likePath 75 = .ok (.iload_n 2, 1) := by decide +kernel
theorem dX4_likePath_76 : decode cX4_likePath 76 = .ok (.ifCond .eq 5, 3) := by decide +kernel
theorem dX4_likePath_79 : decode cX4_likePath 79 = .ok (.iload_n 1, 1) := by decide +kernel
theorem dX4_likePath_80 : decode cX4_likePath 80 = .ok (.ireturn, 1) := by decide +kernel
theorem dX4_likePath_81 : decode cX4_likePath 81 = .ok (.iinc 1 1, 3) := by decide +kernel
theorem dX4_likePath_84 : decode cX4_likePath 84 = .ok (.goto (-82), 3) := by decide +kernel
theorem dX4_likePath_87 : decode cX4_likePath 87 = .ok (.aload_n 0, 1) := by decide +kernel
theorem dX4_likePath_88 : decode cX4_likePath 88 = .ok (.getfield 72, 3) := by decide +kernel
theorem dX4_likePath_91 : decode cX4_likePath 91 = .ok (.ireturn, 1) := by decide +kernel
set_option maxRecDepth 20000 in
theorem ggX4_takePath_X4_likePath : GoodIn wsX4_takePath wsX4_likePath := goodIn_r _ [10, 1, 2, 3, 4, 5, 11, 12, 13, 14, 15, 16, 17, 18, 19, 20, 21, 22, 23, 24, 25, 26, 27, 28, 29, 30, 31] (by decide +kernel) (by decide +kernel)
set_option maxRecDepth 20000 in
theorem gX4_takePath_X4_likePath : GoodIn wsX4_takePath (wsV RX4 75 RX4 yX4_likePath wsX4_likePath) := goodIn_app (goodIn_of _ (by decide +kernel)) ggX4_takePath_X4_likePath
theorem dX4_takePath_0 : decode cX4_takePath 0 = .ok (.aload_n 0, 1) := by decide +kernel
theorem dX4_takePath_1 : decode cX4_takePath 1 = .ok (.invokevirtual 75, 3) := by decide +kernel
theorem dX4_takePath_4 : decode cX4_takePath 4 = .ok (.istore_n 1, 1) := by decide +kernel
theorem dX4_takePath_5 : decode cX4_takePath 5 = .ok (.iload_n 1, 1) := by decide +kernel
theorem dX4_takePath_6 : decode cX4_takePath 6 = .ok (.bipush 24, 2) := by decide +kernel
theorem dX4_takePath_8 : decode cX4_takePath 8 = .ok (.if_icmp .ne 6, 3) := by decide +kernel
theorem dX4_takePath_11 : decode cX4_takePath 11 = .ok (.bipush (-2), 2) := by decide +kernel
theorem dX4_takePath_13 : decode cX4_takePath 13 = .ok (.ireturn, 1) := by decide +kernel
theorem dX4_takePath_14 : decode cX4_takePath 14 = .ok (.iload_n 1, 1) := by decide +kernel
theorem dX4_takePath_15 : decode cX4_takePath 15 = .ok (.aload_n 0, 1) := by decide +kernel
theorem dX4_takePath_16 : decode cX4_takePath 16 = .ok (.getfield 72, 3) := by decide +kernel
theorem dX4_takePath_19 : decode cX4_takePath 19 = .ok (.if_icmp .ne 55, 3) := by decide +kernel
theorem dX4_takePath_22 : decode cX4_takePath 22 = .ok (.aload_n 0, 1) := by decide +kernel
theorem dX4_takePath_23 : decode cX4_takePath 23 = .ok (.getfield 13, 3) := by decide +kernel
theorem dX4_takePath_26 : decode cX4_takePath 26 = .ok (.iload_n 1, 1) := by decide +kernel
theorem dX4_takePath_27 : decode cX4_takePath 27 = .ok (.aload_n 0, 1) := by decide +kernel
theorem dX4_takePath_28 : decode cX4_takePath 28 = .ok (.getfield 68, 3) := by decide +kernel
theorem dX4_takePath_31 : decode cX4_takePath 31 = .ok (.iastore, 1) := by decide +kernel
theorem dX4_takePath_32 : decode cX4_takePath 32 = .ok (.iconst 0, 1) := by decide +kernel
theorem dX4_takePath_33 : decode cX4_takePath 33 = .ok (.istore_n 2, 1) := by decide +kernel
theorem dX4_takePath_34 : decode cX4_takePath 34 = .ok (.iload_n 2, 1) := by decide +kernel
theorem dX4_takePath_35 : decode cX4_takePath 35 = .ok (.aload_n 0, 1) := by decide +kernel
theorem dX4_takePath_36 : decode cX4_takePath 36 = .ok (.getfield 68, 3) := by decide +kernel
theorem dX4_takePath_39 : decode cX4_takePath 39 = .ok (.if_icmp .ge 25, 3) := by decide +kernel
theorem dX4_takePath_42 : decode cX4_takePath 42 = .ok (.aload_n 0, 1) := by decide +kernel
theorem dX4_takePath_43 : decode cX4_takePath 43 = .ok (.getfield 7, 3) := by decide +kernel
theorem dX4_takePath_46 : decode cX4_takePath 46 = .ok (.iconst 4, 1) := by decide +kernel
theorem dX4_takePath_47 : decode cX4_takePath 47 = .ok (.iload_n 1, 1) := by decide +kernel
theorem dX4_takePath_48 : decode cX4_takePath 48 = .ok (.imul, 1) := by decide +kernel
theorem dX4_takePath_49 : decode cX4_takePath 49 = .ok (.iload_n 2, 1) := by decide +kernel
theorem dX4_takePath_50 : decode cX4_takePath 50 = .ok (.iadd, 1) := by decide +kernel
theorem dX4_takePath_51 : decode cX4_takePath 51 = .ok (.aload_n 0, 1) := by decide +kernel
theorem dX4_takePath_52 : decode cX4_takePath 52 = .ok (.getfield 17, 3) := by decide +kernel
theorem dX4_takePath_55 : decode cX4_takePath 55 = .ok (.iload_n 2, 1) := by decide +kernel
theorem dX4_takePath_56 : decode cX4_takePath 56 = .ok (.laload, 1) := by decide +kernel
theorem dX4_takePath_57 : decode cX4_takePath 57 = .ok (.lastore, 1) := by decide +kernel
theorem dX4_takePath_58 : decode cX4_takePath 58 = .ok (.iinc 2 1, 3) := by decide +kernel
theorem dX4_takePath_61 : decode cX4_takePath 61 = .ok (.goto (-27), 3) := by decide +kernel
theorem dX4_takePath_64 : decode cX4_takePath 64 = .ok (.aload_n 0, 1) := by decide +kernel
theorem dX4_takePath_65 : decode cX4_takePath 65 = .ok (.dup, 1) := by decide +kernel
theorem dX4_takePath_66 : decode cX4_takePath 66 = .ok (.getfield 72, 3) := by decide +kernel
theorem dX4_takePath_69 : decode cX4_takePath 69 = .ok (.iconst 1, 1) := by decide +kernel
theorem dX4_takePath_70 : decode cX4_takePath 70 = .ok (.iadd, 1) := by decide +kernel
theorem dX4_takePath_71 : decode cX4_takePath 71 = .ok (.putfield 72, 3) := by decide +kernel
theorem dX4_takePath_74 : decode cX4_takePath 74 = .ok (.iload_n 1, 1) := by decide +kernel
theorem dX4_takePath_75 : decode cX4_takePath 75 = .ok (.ireturn, 1) := by decide +kernel
set_option maxRecDepth 20000 in
theorem ggX4_path_X4_takePath : GoodIn wsX4_path wsX4_takePath := goodIn_r _ [6, 7, 8, 1, 9, 10, 11, 12, 13, 5, 14, 15, 16, 17, 18, 19, 20, 21, 22, 23, 24, 25, 26, 27, 28, 29, 30, 31, 32, 33, 34, 35] (by decide +kernel) (by decide +kernel)
set_option maxRecDepth 20000 in
theorem gX4_path_X4_takePath : GoodIn wsX4_path (wsV RX4 79 RX4 yX4_takePath wsX4_takePath) := goodIn_app (goodIn_of _ (by decide +kernel)) ggX4_path_X4_takePath
theorem dX4_path_0 : decode cX4_path 0 = .ok (.aload_n 0, 1) := by decide +kernel
theorem dX4_path_1 : decode cX4_path 1 = .ok (.getfield 68, 3) := by decide +kernel
theorem dX4_path_4 : decode cX4_path 4 = .ok (.ifCond .ne 5, 3) := by decide +kernel
theorem dX4_path_7 : decode cX4_path 7 = .ok (.iconst (-1), 1) := by decide +kernel
theorem dX4_path_8 : decode cX4_path 8 = .ok (.ireturn, 1) := by decide +kernel
theorem dX4_path_9 : decode cX4_path 9 = .ok (.aload_n 0, 1) := by decide +kernel
theorem dX4_path_10 : decode cX4_path 10 = .ok (.invokevirtual 79, 3) := by decide +kernel
theorem dX4_path_13 : decode cX4_path 13 = .ok (.istore_n 1, 1) := by decide +kernel
theorem dX4_path_14 : decode cX4_path 14 = .ok (.aload_n 0, 1) := by decide +kernel
theorem dX4_path_15 : decode cX4_path 15 = .ok (.iload_n 1, 1) := by decide +kernel
theorem dX4_path_16 : decode cX4_path 16 = .ok (.ifCond .ge 10, 3) := by decide +kernel
theorem dX4_path_19 : decode cX4_path 19 = .ok (.aload_n 0, 1) := by decide +kernel
theorem dX4_path_20 : decode cX4_path 20 = .ok (.getfield 68, 3) := by decide +kernel
theorem dX4_path_23 : decode cX4_path 23 = .ok (.goto 4, 3) := by decide +kernel
theorem dX4_path_26 : decode cX4_path 26 = .ok (.iconst 0, 1) := by decide +kernel
theorem dX4_path_27 : decode cX4_path 27 = .ok (.putfield 68, 3) := by decide +kernel
theorem dX4_path_30 : decode cX4_path 30 = .ok (.iload_n 1, 1) := by decide +kernel
theorem dX4_path_31 : decode cX4_path 31 = .ok (.ireturn, 1) := by decide +kernel
set_option maxRecDepth 20000 in
theorem ggX4_isPath_X4_in : GoodIn wsX4_isPath wsX4_in := goodIn_r _ [5] (by decide +kernel) (by decide +kernel)
set_option maxRecDepth 20000 in
theorem gX4_isPath_X4_in : GoodIn wsX4_isPath (va_wsS RX4 82 yX4_in wsX4_in) := goodIn_app (goodIn_of _ (by decide +kernel)) ggX4_isPath_X4_in
theorem dX4_isPath_0 : decode cX4_isPath 0 = .ok (.iload_n 1, 1) := by decide +kernel
theorem dX4_isPath_1 : decode cX4_isPath 1 = .ok (.i2l, 1) := by decide +kernel
theorem dX4_isPath_2 : decode cX4_isPath 2 = .ok (.lconst 0, 1) := by decide +kernel
theorem dX4_isPath_3 : decode cX4_isPath 3 = .ok (.aload_n 0, 1) := by decide +kernel
theorem dX4_isPath_4 : decode cX4_isPath 4 = .ok (.getfield 72, 3) := by decide +kernel
theorem dX4_isPath_7 : decode cX4_isPath 7 = .ok (.iconst 1, 1) := by decide +kernel
theorem dX4_isPath_8 : decode cX4_isPath 8 = .ok (.isub, 1) := by decide +kernel
theorem dX4_isPath_9 : decode cX4_isPath 9 = .ok (.i2l, 1) := by decide +kernel
theorem dX4_isPath_10 : decode cX4_isPath 10 = .ok (.invokestatic 82, 3) := by decide +kernel
theorem dX4_isPath_13 : decode cX4_isPath 13 = .ok (.ireturn, 1) := by decide +kernel
set_option maxRecDepth 20000 in
theorem ggX4_keyOf_X4_mix : GoodIn wsX4_keyOf wsX4_mix := goodIn_r _ [7, 8, 9] (by decide +kernel) (by decide +kernel)
set_option maxRecDepth 20000 in
theorem gX4_keyOf_X4_mix : GoodIn wsX4_keyOf (va_wsS RX4 88 yX4_mix wsX4_mix) := goodIn_app (goodIn_of _ (by decide +kernel)) ggX4_keyOf_X4_mix
theorem dX4_keyOf_0 : decode cX4_keyOf 0 = .ok (.lconst 0, 1) := by decide +kernel
theorem dX4_keyOf_1 : decode cX4_keyOf 1 = .ok (.lstore_n 2, 1) := by decide +kernel
theorem dX4_keyOf_2 : decode cX4_keyOf 2 = .ok (.iconst 0, 1) := by decide +kernel
theorem dX4_keyOf_3 : decode cX4_keyOf 3 = .ok (.istore 4, 2) := by decide +kernel
theorem dX4_keyOf_5 : decode cX4_keyOf 5 = .ok (.iload 4, 2) := by decide +kernel
theorem dX4_keyOf_7 : decode cX4_keyOf 7 = .ok (.aload_n 0, 1) := by decide +kernel
theorem dX4_keyOf_8 : decode cX4_keyOf 8 = .ok (.getfield 13, 3) := by decide +kernel
theorem dX4_keyOf_11 : decode cX4_keyOf 11 = .ok (.iload_n 1, 1) := by decide +kernel
theorem dX4_keyOf_12 : decode cX4_keyOf 12 = .ok (.iaload, 1) := by decide +kernel
theorem dX4_keyOf_13 : decode cX4_keyOf 13 = .ok (.if_icmp .ge 30, 3) := by decide +kernel
theorem dX4_keyOf_16 : decode cX4_keyOf 16 = .ok (.lload_n 2, 1) := by decide +kernel
theorem dX4_keyOf_17 : decode cX4_keyOf 17 = .ok (.ldc2_w 86, 3) := by decide +kernel
theorem dX4_keyOf_20 : decode cX4_keyOf 20 = .ok (.ladd, 1) := by decide +kernel
theorem dX4_keyOf_21 : decode cX4_keyOf 21 = .ok (.aload_n 0, 1) := by decide +kernel
theorem dX4_keyOf_22 : decode cX4_keyOf 22 = .ok (.getfield 7, 3) := by decide +kernel
theorem dX4_keyOf_25 : decode cX4_keyOf 25 = .ok (.iconst 4, 1) := by decide +kernel
theorem dX4_keyOf_26 : decode cX4_keyOf 26 = .ok (.iload_n 1, 1) := by decide +kernel
theorem dX4_keyOf_27 : decode cX4_keyOf 27 = .ok (.imul, 1) := by decide +kernel
theorem dX4_keyOf_28 : decode cX4_keyOf 28 = .ok (.iload 4, 2) := by decide +kernel
theorem dX4_keyOf_30 : decode cX4_keyOf 30 = .ok (.iadd, 1) := by decide +kernel
theorem dX4_keyOf_31 : decode cX4_keyOf 31 = .ok (.laload, 1) := by decide +kernel
theorem dX4_keyOf_32 : decode cX4_keyOf 32 = .ok (.lxor, 1) := by decide +kernel
theorem dX4_keyOf_33 : decode cX4_keyOf 33 = .ok (.invokestatic 88, 3) := by decide +kernel
theorem dX4_keyOf_36 : decode cX4_keyOf 36 = .ok (.lstore_n 2, 1) := by decide +kernel
theorem dX4_keyOf_37 : decode cX4_keyOf 37 = .ok (.iinc 4 1, 3) := by decide +kernel
theorem dX4_keyOf_40 : decode cX4_keyOf 40 = .ok (.goto (-35), 3) := by decide +kernel
theorem dX4_keyOf_43 : decode cX4_keyOf 43 = .ok (.lload_n 2, 1) := by decide +kernel
theorem dX4_keyOf_44 : decode cX4_keyOf 44 = .ok (.lreturn, 1) := by decide +kernel
set_option maxRecDepth 20000 in
theorem ggX4_key_X4_isPath : GoodIn wsX4_key wsX4_isPath := goodIn_r _ [6, 7, 8, 9, 5, 10, 23, 24, 25, 26, 27, 28, 29, 30, 31, 32, 33, 34, 35, 36, 37, 38, 39, 40, 41, 42, 43] (by decide +kernel) (by decide +kernel)
set_option maxRecDepth 20000 in
theorem gX4_key_X4_isPath : GoodIn wsX4_key (wsV RX4 92 RX4 yX4_isPath wsX4_isPath) := goodIn_app (goodIn_of _ (by decide +kernel)) ggX4_key_X4_isPath
set_option maxRecDepth 20000 in
theorem ggX4_key_X4_keyOf : GoodIn wsX4_key wsX4_keyOf := goodIn_r _ [14, 15, 16, 17, 18, 19, 5, 20, 21, 22, 23, 24, 25, 26, 27, 28, 29, 30, 31, 32, 33, 34, 35, 36, 37, 38, 39, 40, 41, 42, 43] (by decide +kernel) (by decide +kernel)
set_option maxRecDepth 20000 in
theorem gX4_key_X4_keyOf : GoodIn wsX4_key (wsV RX4 99 RX4 yX4_keyOf wsX4_keyOf) := goodIn_app (goodIn_of _ (by decide +kernel)) ggX4_key_X4_keyOf
theorem dX4_key_0 : decode cX4_key 0 = .ok (.aload_n 0, 1) := by decide +kernel
theorem dX4_key_1 : decode cX4_key 1 = .ok (.aload_n 0, 1) := by decide +kernel
theorem dX4_key_2 : decode cX4_key 2 = .ok (.iload_n 1, 1) := by decide +kernel
theorem dX4_key_3 : decode cX4_key 3 = .ok (.invokevirtual 92, 3) := by decide +kernel
theorem dX4_key_6 : decode cX4_key 6 = .ok (.ifCond .eq 7, 3) := by decide +kernel
theorem dX4_key_9 : decode cX4_key 9 = .ok (.iconst 0, 1) := by decide +kernel
theorem dX4_key_10 : decode cX4_key 10 = .ok (.goto 4, 3) := by decide +kernel
theorem dX4_key_13 : decode cX4_key 13 = .ok (.iconst (-1), 1) := by decide +kernel
theorem dX4_key_14 : decode cX4_key 14 = .ok (.putfield 96, 3) := by decide +kernel
theorem dX4_key_17 : decode cX4_key 17 = .ok (.aload_n 0, 1) := by decide +kernel
theorem dX4_key_18 : decode cX4_key 18 = .ok (.getfield 96, 3) := by decide +kernel
theorem dX4_key_21 : decode cX4_key 21 = .ok (.ifCond .ge 7, 3) := by decide +kernel
theorem dX4_key_24 : decode cX4_key 24 = .ok (.lconst 0, 1) := by decide +kernel
theorem dX4_key_25 : decode cX4_key 25 = .ok (.goto 8, 3) := by decide +kernel
theorem dX4_key_28 : decode cX4_key 28 = .ok (.aload_n 0, 1) := by decide +kernel
theorem dX4_key_29 : decode cX4_key 29 = .ok (.iload_n 1, 1) := by decide +kernel
theorem dX4_key_30 : decode cX4_key 30 = .ok (.invokevirtual 99, 3) := by decide +kernel
theorem dX4_key_33 : decode cX4_key 33 = .ok (.lreturn, 1) := by decide +kernel
set_option maxRecDepth 20000 in
theorem ggX4_wordOf_X4_keyOf : GoodIn wsX4_wordOf wsX4_keyOf := goodIn_r _ [7, 8, 2, 9, 10, 11, 6, 12, 13, 14, 15, 16, 17, 18, 19, 20, 21, 22, 23, 24, 25, 26, 27, 28, 29, 30, 31, 32, 33, 34, 35] (by decide +kernel) (by decide +kernel)
set_option maxRecDepth 20000 in
theorem gX4_wordOf_X4_keyOf : GoodIn wsX4_wordOf (wsV RX4 99 RX4 yX4_keyOf wsX4_keyOf) := goodIn_app (goodIn_of _ (by decide +kernel)) ggX4_wordOf_X4_keyOf
set_option maxRecDepth 20000 in
theorem ggX4_wordOf_X4_mix : GoodIn wsX4_wordOf wsX4_mix := goodIn_r _ [12, 13, 14] (by decide +kernel) (by decide +kernel)
set_option maxRecDepth 20000 in
theorem gX4_wordOf_X4_mix : GoodIn wsX4_wordOf (va_wsS RX4 88 yX4_mix wsX4_mix) := goodIn_app (goodIn_of _ (by decide +kernel)) ggX4_wordOf_X4_mix
theorem dX4_wordOf_0 : decode cX4_wordOf 0 = .ok (.aload_n 0, 1) := by decide +kernel
theorem dX4_wordOf_1 : decode cX4_wordOf 1 = .ok (.getfield 54, 3) := by decide +kernel
theorem dX4_wordOf_4 : decode cX4_wordOf 4 = .ok (.ldc2_w 86, 3) := by decide +kernel
theorem dX4_wordOf_7 : decode cX4_wordOf 7 = .ok (.lload_n 1, 1) := by decide +kernel
theorem dX4_wordOf_8 : decode cX4_wordOf 8 = .ok (.lconst 1, 1) := by decide +kernel
theorem dX4_wordOf_9 : decode cX4_wordOf 9 = .ok (.ladd, 1) := by decide +kernel
theorem dX4_wordOf_10 : decode cX4_wordOf 10 = .ok (.lmul, 1) := by decide +kernel
theorem dX4_wordOf_11 : decode cX4_wordOf 11 = .ok (.ladd, 1) := by decide +kernel
theorem dX4_wordOf_12 : decode cX4_wordOf 12 = .ok (.aload_n 0, 1) := by decide +kernel
theorem dX4_wordOf_13 : decode cX4_wordOf 13 = .ok (.iload_n 3, 1) := by decide +kernel
theorem dX4_wordOf_14 : decode cX4_wordOf 14 = .ok (.invokevirtual 99, 3) := by decide +kernel
theorem dX4_wordOf_17 : decode cX4_wordOf 17 = .ok (.lxor, 1) := by decide +kernel
theorem dX4_wordOf_18 : decode cX4_wordOf 18 = .ok (.invokestatic 88, 3) := by decide +kernel
theorem dX4_wordOf_21 : decode cX4_wordOf 21 = .ok (.lstore 6, 2) := by decide +kernel
theorem dX4_wordOf_23 : decode cX4_wordOf 23 = .ok (.lload 6, 2) := by decide +kernel
theorem dX4_wordOf_25 : decode cX4_wordOf 25 = .ok (.ldc2_w 86, 3) := by decide +kernel
theorem dX4_wordOf_28 : decode cX4_wordOf 28 = .ok (.lload 4, 2) := by decide +kernel
theorem dX4_wordOf_30 : decode cX4_wordOf 30 = .ok (.lconst 1, 1) := by decide +kernel
theorem dX4_wordOf_31 : decode cX4_wordOf 31 = .ok (.ladd, 1) := by decide +kernel
theorem dX4_wordOf_32 : decode cX4_wordOf 32 = .ok (.lmul, 1) := by decide +kernel
theorem dX4_wordOf_33 : decode cX4_wordOf 33 = .ok (.ladd, 1) := by decide +kernel
theorem dX4_wordOf_34 : decode cX4_wordOf 34 = .ok (.invokestatic 88, 3) := by decide +kernel
theorem dX4_wordOf_37 : decode cX4_wordOf 37 = .ok (.lreturn, 1) := by decide +kernel
set_option maxRecDepth 20000 in
theorem ggX4_word_X4_isPath : GoodIn wsX4_word wsX4_isPath := goodIn_r _ [6, 7, 8, 9, 5, 10, 28, 29, 30, 31, 32, 33, 34, 35, 36, 37, 38, 39, 40, 41, 42, 43, 44, 45, 46, 47, 48] (by decide +kernel) (by decide +kernel)
set_option maxRecDepth 20000 in
theorem gX4_word_X4_isPath : GoodIn wsX4_word (wsV RX4 92 RX4 yX4_isPath wsX4_isPath) := goodIn_app (goodIn_of _ (by decide +kernel)) ggX4_word_X4_isPath
set_option maxRecDepth 20000 in
theorem ggX4_word_X4_wordOf : GoodIn wsX4_word wsX4_wordOf := goodIn_r _ [14, 15, 16, 17, 18, 19, 5, 20, 21, 22, 23, 24, 25, 26, 27, 28, 29, 30, 31, 32, 33, 34, 35, 36, 37, 38, 39, 40, 41, 42, 43, 44, 45, 46, 47, 48] (by decide +kernel) (by decide +kernel)
set_option maxRecDepth 20000 in
theorem gX4_word_X4_wordOf : GoodIn wsX4_word (wsV RX4 103 RX4 yX4_wordOf wsX4_wordOf) := goodIn_app (goodIn_of _ (by decide +kernel)) ggX4_word_X4_wordOf
theorem dX4_word_0 : decode cX4_word 0 = .ok (.aload_n 0, 1) := by decide +kernel
theorem dX4_word_1 : decode cX4_word 1 = .ok (.aload_n 0, 1) := by decide +kernel
theorem dX4_word_2 : decode cX4_word 2 = .ok (.iload_n 3, 1) := by decide +kernel
theorem dX4_word_3 : decode cX4_word 3 = .ok (.invokevirtual 92, 3) := by decide +kernel
theorem dX4_word_6 : decode cX4_word 6 = .ok (.ifCond .eq 7, 3) := by decide +kernel
theorem dX4_word_9 : decode cX4_word 9 = .ok (.iconst 0, 1) := by decide +kernel
theorem dX4_word_10 : decode cX4_word 10 = .ok (.goto 4, 3) := by decide +kernel
theorem dX4_word_13 : decode cX4_word 13 = .ok (.iconst (-1), 1) := by decide +kernel
theorem dX4_word_14 : decode cX4_word 14 = .ok (.putfield 96, 3) := by decide +kernel
theorem dX4_word_17 : decode cX4_word 17 = .ok (.aload_n 0, 1) := by decide +kernel
theorem dX4_word_18 : decode cX4_word 18 = .ok (.getfield 96, 3) := by decide +kernel
theorem dX4_word_21 : decode cX4_word 21 = .ok (.ifCond .ge 7, 3) := by decide +kernel
theorem dX4_word_24 : decode cX4_word 24 = .ok (.lconst 0, 1) := by decide +kernel
theorem dX4_word_25 : decode cX4_word 25 = .ok (.goto 11, 3) := by decide +kernel
theorem dX4_word_28 : decode cX4_word 28 = .ok (.aload_n 0, 1) := by decide +kernel
theorem dX4_word_29 : decode cX4_word 29 = .ok (.lload_n 1, 1) := by decide +kernel
theorem dX4_word_30 : decode cX4_word 30 = .ok (.iload_n 3, 1) := by decide +kernel
theorem dX4_word_31 : decode cX4_word 31 = .ok (.lload 4, 2) := by decide +kernel
theorem dX4_word_33 : decode cX4_word 33 = .ok (.invokevirtual 103, 3) := by decide +kernel
theorem dX4_word_36 : decode cX4_word 36 = .ok (.lreturn, 1) := by decide +kernel
set_option maxRecDepth 20000 in
theorem ggX4_draw_X4_rest : GoodIn wsX4_draw wsX4_rest := goodIn_r _ [7, 8, 9, 6, 10, 11] (by decide +kernel) (by decide +kernel)
set_option maxRecDepth 20000 in
theorem gX4_draw_X4_rest : GoodIn wsX4_draw (va_wsS RX4 107 yX4_rest wsX4_rest) := goodIn_app (goodIn_of _ (by decide +kernel)) ggX4_draw_X4_rest
set_option maxRecDepth 20000 in
theorem ggX4_draw_X4_wordOf : GoodIn wsX4_draw wsX4_wordOf := goodIn_r _ [15, 16, 17, 18, 19, 20, 6, 21, 22, 23, 24, 25, 26, 27, 28, 29, 30, 31, 32, 33, 34, 35, 36, 37, 38, 39, 40, 41, 42, 43, 44, 45, 46, 47, 48, 49] (by decide +kernel) (by decide +kernel)
set_option maxRecDepth 20000 in
theorem gX4_draw_X4_wordOf : GoodIn wsX4_draw (wsV RX4 103 RX4 yX4_wordOf wsX4_wordOf) := goodIn_app (goodIn_of _ (by decide +kernel)) ggX4_draw_X4_wordOf
set_option maxRecDepth 20000 in
theorem ggX4_draw_X4_isBelow : GoodIn wsX4_draw wsX4_isBelow := goodIn_r _ [10, 11] (by decide +kernel) (by decide +kernel)
set_option maxRecDepth 20000 in
theorem gX4_draw_X4_isBelow : GoodIn wsX4_draw (va_wsS RX4 64 yX4_isBelow wsX4_isBelow) := goodIn_app (goodIn_of _ (by decide +kernel)) ggX4_draw_X4_isBelow
theorem dX4_draw_0 : decode cX4_draw 0 = .ok (.lload 5, 2) := by decide +kernel
theorem dX4_draw_2 : decode cX4_draw 2 = .ok (.lneg, 1) := by decide +kernel
theorem dX4_draw_3 : decode cX4_draw 3 = .ok (.lload 5, 2) := by decide +kernel
theorem dX4_draw_5 : decode cX4_draw 5 = .ok (.invokestatic 107, 3) := by decide +kernel
theorem dX4_draw_8 : decode cX4_draw 8 = .ok (.lstore 7, 2) := by decide +kernel
theorem dX4_draw_10 : decode cX4_draw 10 = .ok (.iconst 0, 1) := by decide +kernel
theorem dX4_draw_11 : decode cX4_draw 11 = .ok (.istore 9, 2) := by decide +kernel
theorem dX4_draw_13 : decode cX4_draw 13 = .ok (.iload 9, 2) := by decide +kernel
theorem dX4_draw_15 : decode cX4_draw 15 = .ok (.bipush 32, 2) := by decide +kernel
theorem dX4_draw_17 : decode cX4_draw 17 = .ok (.if_icmp .ge 62, 3) := by decide +kernel
theorem dX4_draw_20 : decode cX4_draw 20 = .ok (.aload_n 0, 1) := by decide +kernel
theorem dX4_draw_21 : decode cX4_draw 21 = .ok (.lload_n 1, 1) := by decide +kernel
theorem dX4_draw_22 : decode cX4_draw 22 = .ok (.iload_n 3, 1) := by decide +kernel
theorem dX4_draw_23 : decode cX4_draw 23 = .ok (.ldc2_w 111, 3) := by decide +kernel
theorem dX4_draw_26 : decode cX4_draw 26 = .ok (.iload 4, 2) := by decide +kernel
theorem dX4_draw_28 : decode cX4_draw 28 = .ok (.i2l, 1) := by decide +kernel
theorem dX4_draw_29 : decode cX4_draw 29 = .ok (.lmul, 1) := by decide +kernel
theorem dX4_draw_30 : decode cX4_draw 30 = .ok (.iload 9, 2) := by decide +kernel
theorem dX4_draw_32 : decode cX4_draw 32 = .ok (.i2l, 1) := by decide +kernel
theorem dX4_draw_33 : decode cX4_draw 33 = .ok (.ladd, 1) := by decide +kernel
theorem dX4_draw_34 : decode cX4_draw 34 = .ok (.invokevirtual 103, 3) := by decide +kernel
theorem dX4_draw_37 : decode cX4_draw 37 = .ok (.lstore 10, 2) := by decide +kernel
theorem dX4_draw_39 : decode cX4_draw 39 = .ok (.aload_n 0, 1) := by decide +kernel
theorem dX4_draw_40 : decode cX4_draw 40 = .ok (.iload 9, 2) := by decide +kernel
theorem dX4_draw_42 : decode cX4_draw 42 = .ok (.iconst 1, 1) := by decide +kernel
theorem dX4_draw_43 : decode cX4_draw 43 = .ok (.iadd, 1) := by decide +kernel
theorem dX4_draw_44 : decode cX4_draw 44 = .ok (.putfield 113, 3) := by decide +kernel
theorem dX4_draw_47 : decode cX4_draw 47 = .ok (.lload 7, 2) := by decide +kernel
theorem dX4_draw_49 : decode cX4_draw 49 = .ok (.lconst 0, 1) := by decide +kernel
theorem dX4_draw_50 : decode cX4_draw 50 = .ok (.lcmp, 1) := by decide +kernel
theorem dX4_draw_51 : decode cX4_draw 51 = .ok (.ifCond .eq 14, 3) := by decide +kernel
theorem dX4_draw_54 : decode cX4_draw 54 = .ok (.lload 10, 2) := by decide +kernel
theorem dX4_draw_56 : decode cX4_draw 56 = .ok (.lload 7, 2) := by decide +kernel
theorem dX4_draw_58 : decode cX4_draw 58 = .ok (.lneg, 1) := by decide +kernel
theorem dX4_draw_59 : decode cX4_draw 59 = .ok (.invokestatic 64, 3) := by decide +kernel
theorem dX4_draw_62 : decode cX4_draw 62 = .ok (.ifCond .eq 11, 3) := by decide +kernel
theorem dX4_draw_65 : decode cX4_draw 65 = .ok (.lload 10, 2) := by decide +kernel
theorem dX4_draw_67 : decode cX4_draw 67 = .ok (.lload 5, 2) := by decide +kernel
theorem dX4_draw_69 : decode cX4_draw 69 = .ok (.invokestatic 107, 3) := by decide +kernel
theorem dX4_draw_72 : decode cX4_draw 72 = .ok (.lreturn, 1) := by decide +kernel
theorem dX4_draw_73 : decode cX4_draw 73 = .ok (.iinc 9 1, 3) := by decide +kernel
theorem dX4_draw_76 : decode cX4_draw 76 = .ok (.goto (-63), 3) := by decide +kernel
theorem dX4_draw_79 : decode cX4_draw 79 = .ok (.ldc2_w 116, 3) := by decide +kernel
theorem dX4_draw_82 : decode cX4_draw 82 = .ok (.lreturn, 1) := by decide +kernel
set_option maxRecDepth 20000 in
theorem ggX4_span_X4_isPath : GoodIn wsX4_span wsX4_isPath := goodIn_r _ [7, 8, 9, 10, 6, 11, 43, 44, 45, 46, 47, 48, 49, 50, 51, 52, 53, 54, 55, 56, 57, 58, 59, 60, 61, 62, 63] (by decide +kernel) (by decide +kernel)
set_option maxRecDepth 20000 in
theorem gX4_span_X4_isPath : GoodIn wsX4_span (wsV RX4 92 RX4 yX4_isPath wsX4_isPath) := goodIn_app (goodIn_of _ (by decide +kernel)) ggX4_span_X4_isPath
set_option maxRecDepth 20000 in
theorem ggX4_span_X4_draw : GoodIn wsX4_span wsX4_draw := goodIn_r _ [15, 16, 17, 18, 19, 20, 6, 21, 22, 23, 24, 25, 26, 27, 28, 29, 30, 31, 32, 33, 34, 35, 36, 37, 38, 39, 40, 41, 42, 43, 44, 45, 46, 47, 48, 49, 50, 51, 52, 53, 54, 55, 56, 57, 58, 59, 60, 61, 62, 63] (by decide +kernel) (by decide +kernel)
set_option maxRecDepth 20000 in
theorem gX4_span_X4_draw : GoodIn wsX4_span (wsV RX4 122 RX4 yX4_draw wsX4_draw) := goodIn_app (goodIn_of _ (by decide +kernel)) ggX4_span_X4_draw
theorem dX4_span_0 : decode cX4_span 0 = .ok (.aload_n 0, 1) := by decide +kernel
theorem dX4_span_1 : decode cX4_span 1 = .ok (.iload_n 3, 1) := by decide +kernel
theorem dX4_span_2 : decode cX4_span 2 = .ok (.invokevirtual 92, 3) := by decide +kernel
theorem dX4_span_5 : decode cX4_span 5 = .ok (.ifCond .eq 15, 3) := by decide +kernel
theorem dX4_span_8 : decode cX4_span 8 = .ok (.iload 4, 2) := by decide +kernel
theorem dX4_span_10 : decode cX4_span 10 = .ok (.ifCond .lt 10, 3) := by decide +kernel
theorem dX4_span_13 : decode cX4_span 13 = .ok (.lload 5, 2) := by decide +kernel
theorem dX4_span_15 : decode cX4_span 15 = .ok (.lconst 0, 1) := by decide +kernel
theorem dX4_span_16 : decode cX4_span 16 = .ok (.lcmp, 1) := by decide +kernel
theorem dX4_span_17 : decode cX4_span 17 = .ok (.ifCond .ge 7, 3) := by decide +kernel
theorem dX4_span_20 : decode cX4_span 20 = .ok (.ldc2_w 118, 3) := by decide +kernel
theorem dX4_span_23 : decode cX4_span 23 = .ok (.lreturn, 1) := by decide +kernel
theorem dX4_span_24 : decode cX4_span 24 = .ok (.lload 5, 2) := by decide +kernel
theorem dX4_span_26 : decode cX4_span 26 = .ok (.lconst 0, 1) := by decide +kernel
theorem dX4_span_27 : decode cX4_span 27 = .ok (.lcmp, 1) := by decide +kernel
theorem dX4_span_28 : decode cX4_span 28 = .ok (.ifCond .ne 9, 3) := by decide +kernel
theorem dX4_span_31 : decode cX4_span 31 = .ok (.ldc2_w 120, 3) := by decide +kernel
theorem dX4_span_34 : decode cX4_span 34 = .ok (.goto 13, 3) := by decide +kernel
theorem dX4_span_37 : decode cX4_span 37 = .ok (.aload_n 0, 1) := by decide +kernel
theorem dX4_span_38 : decode cX4_span 38 = .ok (.lload_n 1, 1) := by decide +kernel
theorem dX4_span_39 : decode cX4_span 39 = .ok (.iload_n 3, 1) := by decide +kernel
theorem dX4_span_40 : decode cX4_span 40 = .ok (.iload 4, 2) := by decide +kernel
theorem dX4_span_42 : decode cX4_span 42 = .ok (.lload 5, 2) := by decide +kernel
theorem dX4_span_44 : decode cX4_span 44 = .ok (.invokevirtual 122, 3) := by decide +kernel
theorem dX4_span_47 : decode cX4_span 47 = .ok (.lreturn, 1) := by decide +kernel
set_option maxRecDepth 20000 in
theorem ggX4_fraction_X4_isPath : GoodIn wsX4_fraction wsX4_isPath := goodIn_r _ [8, 9, 10, 11, 7, 12, 30, 31, 32, 33, 34, 35, 36, 37, 38, 39, 40, 41, 42, 43, 44, 45, 46, 47, 48, 49, 50] (by decide +kernel) (by decide +kernel)
set_option maxRecDepth 20000 in
theorem gX4_fraction_X4_isPath : GoodIn wsX4_fraction (wsV RX4 92 RX4 yX4_isPath wsX4_isPath) := goodIn_app (goodIn_of _ (by decide +kernel)) ggX4_fraction_X4_isPath
set_option maxRecDepth 20000 in
theorem ggX4_fraction_X4_in : GoodIn wsX4_fraction wsX4_in := goodIn_r _ [12] (by decide +kernel) (by decide +kernel)
set_option maxRecDepth 20000 in
theorem gX4_fraction_X4_in : GoodIn wsX4_fraction (va_wsS RX4 82 yX4_in wsX4_in) := goodIn_app (goodIn_of _ (by decide +kernel)) ggX4_fraction_X4_in
set_option maxRecDepth 20000 in
theorem ggX4_fraction_X4_wordOf : GoodIn wsX4_fraction wsX4_wordOf := goodIn_r _ [16, 17, 18, 19, 20, 21, 7, 22, 23, 24, 25, 26, 27, 28, 29, 30, 31, 32, 33, 34, 35, 36, 37, 38, 39, 40, 41, 42, 43, 44, 45, 46, 47, 48, 49, 50] (by decide +kernel) (by decide +kernel)
set_option maxRecDepth 20000 in
theorem gX4_fraction_X4_wordOf : GoodIn wsX4_fraction (wsV RX4 103 RX4 yX4_wordOf wsX4_wordOf) := goodIn_app (goodIn_of _ (by decide +kernel)) ggX4_fraction_X4_wordOf
theorem dX4_fraction_0 : decode cX4_fraction 0 = .ok (.aload_n 0, 1) := by decide +kernel
theorem dX4_fraction_1 : decode cX4_fraction 1 = .ok (.iload_n 3, 1) := by decide +kernel
theorem dX4_fraction_2 : decode cX4_fraction 2 = .ok (.invokevirtual 92, 3) := by decide +kernel
theorem dX4_fraction_5 : decode cX4_fraction 5 = .ok (.ifCond .eq 26, 3) := by decide +kernel
theorem dX4_fraction_8 : decode cX4_fraction 8 = .ok (.iload 4, 2) := by decide +kernel
theorem dX4_fraction_10 : decode cX4_fraction 10 = .ok (.ifCond .lt 21, 3) := by decide +kernel
theorem dX4_fraction_13 : decode cX4_fraction 13 = .ok (.lload 7, 2) := by decide +kernel
theorem dX4_fraction_15 : decode cX4_fraction 15 = .ok (.lconst 0, 1) := by decide +kernel
theorem dX4_fraction_16 : decode cX4_fraction 16 = .ok (.lcmp, 1) := by decide +kernel
theorem dX4_fraction_17 : decode cX4_fraction 17 = .ok (.ifCond .lt 14, 3) := by decide +kernel
theorem dX4_fraction_20 : decode cX4_fraction 20 = .ok (.lload 5, 2) := by decide +kernel
theorem dX4_fraction_22 : decode cX4_fraction 22 = .ok (.lconst 0, 1) := by decide +kernel
theorem dX4_fraction_23 : decode cX4_fraction 23 = .ok (.lload 7, 2) := by decide +kernel
end
section
theorem dX4_fraction_25 : decode cX4_fraction 25 = .ok (.invokestatic 82, 3) := by decide +kernel
theorem dX4_fraction_28 : decode cX4_fraction 28 = .ok (.ifCond .ne 5, 3) := by decide +kernel
theorem dX4_fraction_31 : decode cX4_fraction 31 = .ok (.iconst (-1), 1) := by decide +kernel
theorem dX4_fraction_32 : decode cX4_fraction 32 = .ok (.ireturn, 1) := by decide +kernel
theorem dX4_fraction_33 : decode cX4_fraction 33 = .ok (.lload 7, 2) := by decide +kernel
theorem dX4_fraction_35 : decode cX4_fraction 35 = .ok (.lconst 0, 1) := by decide +kernel
theorem dX4_fraction_36 : decode cX4_fraction 36 = .ok (.lcmp, 1) := by decide +kernel
theorem dX4_fraction_37 : decode cX4_fraction 37 = .ok (.ifCond .ne 6, 3) := by decide +kernel
theorem dX4_fraction_40 : decode cX4_fraction 40 = .ok (.bipush (-4), 2) := by decide +kernel
theorem dX4_fraction_42 : decode cX4_fraction 42 = .ok (.ireturn, 1) := by decide +kernel
theorem dX4_fraction_43 : decode cX4_fraction 43 = .ok (.aload_n 0, 1) := by decide +kernel
theorem dX4_fraction_44 : decode cX4_fraction 44 = .ok (.iconst 0, 1) := by decide +kernel
theorem dX4_fraction_45 : decode cX4_fraction 45 = .ok (.putfield 113, 3) := by decide +kernel
theorem dX4_fraction_48 : decode cX4_fraction 48 = .ok (.lload 5, 2) := by decide +kernel
theorem dX4_fraction_50 : decode cX4_fraction 50 = .ok (.lconst 0, 1) := by decide +kernel
theorem dX4_fraction_51 : decode cX4_fraction 51 = .ok (.lcmp, 1) := by decide +kernel
theorem dX4_fraction_52 : decode cX4_fraction 52 = .ok (.ifCond .eq 11, 3) := by decide +kernel
theorem dX4_fraction_55 : decode cX4_fraction 55 = .ok (.lload 5, 2) := by decide +kernel
theorem dX4_fraction_57 : decode cX4_fraction 57 = .ok (.lload 7, 2) := by decide +kernel
theorem dX4_fraction_59 : decode cX4_fraction 59 = .ok (.lcmp, 1) := by decide +kernel
theorem dX4_fraction_60 : decode cX4_fraction 60 = .ok (.ifCond .ne 16, 3) := by decide +kernel
theorem dX4_fraction_63 : decode cX4_fraction 63 = .ok (.lload 5, 2) := by decide +kernel
theorem dX4_fraction_65 : decode cX4_fraction 65 = .ok (.lconst 0, 1) := by decide +kernel
theorem dX4_fraction_66 : decode cX4_fraction 66 = .ok (.lcmp, 1) := by decide +kernel
theorem dX4_fraction_67 : decode cX4_fraction 67 = .ok (.ifCond .ne 7, 3) := by decide +kernel
theorem dX4_fraction_70 : decode cX4_fraction 70 = .ok (.iconst 0, 1) := by decide +kernel
theorem dX4_fraction_71 : decode cX4_fraction 71 = .ok (.goto 4, 3) := by decide +kernel
theorem dX4_fraction_74 : decode cX4_fraction 74 = .ok (.iconst 1, 1) := by decide +kernel
theorem dX4_fraction_75 : decode cX4_fraction 75 = .ok (.ireturn, 1) := by decide +kernel
theorem dX4_fraction_76 : decode cX4_fraction 76 = .ok (.lload 5, 2) := by decide +kernel
theorem dX4_fraction_78 : decode cX4_fraction 78 = .ok (.lstore 9, 2) := by decide +kernel
theorem dX4_fraction_80 : decode cX4_fraction 80 = .ok (.lconst 0, 1) := by decide +kernel
theorem dX4_fraction_81 : decode cX4_fraction 81 = .ok (.lstore 11, 2) := by decide +kernel
theorem dX4_fraction_83 : decode cX4_fraction 83 = .ok (.aload_n 0, 1) := by decide +kernel
theorem dX4_fraction_84 : decode cX4_fraction 84 = .ok (.getfield 113, 3) := by decide +kernel
theorem dX4_fraction_87 : decode cX4_fraction 87 = .ok (.sipush 2048, 3) := by decide +kernel
theorem dX4_fraction_90 : decode cX4_fraction 90 = .ok (.if_icmp .ge 139, 3) := by decide +kernel
theorem dX4_fraction_93 : decode cX4_fraction 93 = .ok (.aload_n 0, 1) := by decide +kernel
theorem dX4_fraction_94 : decode cX4_fraction 94 = .ok (.getfield 113, 3) := by decide +kernel
theorem dX4_fraction_97 : decode cX4_fraction 97 = .ok (.bipush 64, 2) := by decide +kernel
theorem dX4_fraction_99 : decode cX4_fraction 99 = .ok (.irem, 1) := by decide +kernel
theorem dX4_fraction_100 : decode cX4_fraction 100 = .ok (.ifCond .ne 27, 3) := by decide +kernel
theorem dX4_fraction_103 : decode cX4_fraction 103 = .ok (.aload_n 0, 1) := by decide +kernel
theorem dX4_fraction_104 : decode cX4_fraction 104 = .ok (.lload_n 1, 1) := by decide +kernel
theorem dX4_fraction_105 : decode cX4_fraction 105 = .ok (.iload_n 3, 1) := by decide +kernel
theorem dX4_fraction_106 : decode cX4_fraction 106 = .ok (.ldc2_w 111, 3) := by decide +kernel
theorem dX4_fraction_109 : decode cX4_fraction 109 = .ok (.iload 4, 2) := by decide +kernel
theorem dX4_fraction_111 : decode cX4_fraction 111 = .ok (.i2l, 1) := by decide +kernel
theorem dX4_fraction_112 : decode cX4_fraction 112 = .ok (.lmul, 1) := by decide +kernel
theorem dX4_fraction_113 : decode cX4_fraction 113 = .ok (.aload_n 0, 1) := by decide +kernel
theorem dX4_fraction_114 : decode cX4_fraction 114 = .ok (.getfield 113, 3) := by decide +kernel
theorem dX4_fraction_117 : decode cX4_fraction 117 = .ok (.bipush 64, 2) := by decide +kernel
theorem dX4_fraction_119 : decode cX4_fraction 119 = .ok (.idiv, 1) := by decide +kernel
theorem dX4_fraction_120 : decode cX4_fraction 120 = .ok (.i2l, 1) := by decide +kernel
theorem dX4_fraction_121 : decode cX4_fraction 121 = .ok (.ladd, 1) := by decide +kernel
theorem dX4_fraction_122 : decode cX4_fraction 122 = .ok (.invokevirtual 103, 3) := by decide +kernel
theorem dX4_fraction_125 : decode cX4_fraction 125 = .ok (.lstore 11, 2) := by decide +kernel
theorem dX4_fraction_127 : decode cX4_fraction 127 = .ok (.lload 11, 2) := by decide +kernel
theorem dX4_fraction_129 : decode cX4_fraction 129 = .ok (.lconst 0, 1) := by decide +kernel
theorem dX4_fraction_130 : decode cX4_fraction 130 = .ok (.lcmp, 1) := by decide +kernel
theorem dX4_fraction_131 : decode cX4_fraction 131 = .ok (.ifCond .ge 7, 3) := by decide +kernel
theorem dX4_fraction_134 : decode cX4_fraction 134 = .ok (.iconst 1, 1) := by decide +kernel
theorem dX4_fraction_135 : decode cX4_fraction 135 = .ok (.goto 4, 3) := by decide +kernel
theorem dX4_fraction_138 : decode cX4_fraction 138 = .ok (.iconst 0, 1) := by decide +kernel
theorem dX4_fraction_139 : decode cX4_fraction 139 = .ok (.istore 13, 2) := by decide +kernel
theorem dX4_fraction_141 : decode cX4_fraction 141 = .ok (.lload 11, 2) := by decide +kernel
theorem dX4_fraction_143 : decode cX4_fraction 143 = .ok (.iconst 1, 1) := by decide +kernel
theorem dX4_fraction_144 : decode cX4_fraction 144 = .ok (.lshl, 1) := by decide +kernel
theorem dX4_fraction_145 : decode cX4_fraction 145 = .ok (.lstore 11, 2) := by decide +kernel
theorem dX4_fraction_147 : decode cX4_fraction 147 = .ok (.aload_n 0, 1) := by decide +kernel
theorem dX4_fraction_148 : decode cX4_fraction 148 = .ok (.dup, 1) := by decide +kernel
theorem dX4_fraction_149 : decode cX4_fraction 149 = .ok (.getfield 113, 3) := by decide +kernel
theorem dX4_fraction_152 : decode cX4_fraction 152 = .ok (.iconst 1, 1) := by decide +kernel
theorem dX4_fraction_153 : decode cX4_fraction 153 = .ok (.iadd, 1) := by decide +kernel
theorem dX4_fraction_154 : decode cX4_fraction 154 = .ok (.putfield 113, 3) := by decide +kernel
theorem dX4_fraction_157 : decode cX4_fraction 157 = .ok (.lload 9, 2) := by decide +kernel
theorem dX4_fraction_159 : decode cX4_fraction 159 = .ok (.lload 7, 2) := by decide +kernel
theorem dX4_fraction_161 : decode cX4_fraction 161 = .ok (.lload 9, 2) := by decide +kernel
theorem dX4_fraction_163 : decode cX4_fraction 163 = .ok (.lsub, 1) := by decide +kernel
theorem dX4_fraction_164 : decode cX4_fraction 164 = .ok (.lcmp, 1) := by decide +kernel
theorem dX4_fraction_165 : decode cX4_fraction 165 = .ok (.ifCond .lt 7, 3) := by decide +kernel
theorem dX4_fraction_168 : decode cX4_fraction 168 = .ok (.iconst 1, 1) := by decide +kernel
theorem dX4_fraction_169 : decode cX4_fraction 169 = .ok (.goto 4, 3) := by decide +kernel
theorem dX4_fraction_172 : decode cX4_fraction 172 = .ok (.iconst 0, 1) := by decide +kernel
theorem dX4_fraction_173 : decode cX4_fraction 173 = .ok (.istore 14, 2) := by decide +kernel
theorem dX4_fraction_175 : decode cX4_fraction 175 = .ok (.iload 14, 2) := by decide +kernel
theorem dX4_fraction_177 : decode cX4_fraction 177 = .ok (.ifCond .eq 14, 3) := by decide +kernel
theorem dX4_fraction_180 : decode cX4_fraction 180 = .ok (.lload 9, 2) := by decide +kernel
theorem dX4_fraction_182 : decode cX4_fraction 182 = .ok (.lload 7, 2) := by decide +kernel
theorem dX4_fraction_184 : decode cX4_fraction 184 = .ok (.lload 9, 2) := by decide +kernel
theorem dX4_fraction_186 : decode cX4_fraction 186 = .ok (.lsub, 1) := by decide +kernel
theorem dX4_fraction_187 : decode cX4_fraction 187 = .ok (.lsub, 1) := by decide +kernel
theorem dX4_fraction_188 : decode cX4_fraction 188 = .ok (.goto 9, 3) := by decide +kernel
theorem dX4_fraction_191 : decode cX4_fraction 191 = .ok (.ldc2_w 126, 3) := by decide +kernel
theorem dX4_fraction_194 : decode cX4_fraction 194 = .ok (.lload 9, 2) := by decide +kernel
theorem dX4_fraction_196 : decode cX4_fraction 196 = .ok (.lmul, 1) := by decide +kernel
theorem dX4_fraction_197 : decode cX4_fraction 197 = .ok (.lstore 9, 2) := by decide +kernel
theorem dX4_fraction_199 : decode cX4_fraction 199 = .ok (.iload 13, 2) := by decide +kernel
theorem dX4_fraction_201 : decode cX4_fraction 201 = .ok (.iload 14, 2) := by decide +kernel
theorem dX4_fraction_203 : decode cX4_fraction 203 = .ok (.if_icmp .eq 14, 3) := by decide +kernel
theorem dX4_fraction_206 : decode cX4_fraction 206 = .ok (.iload 14, 2) := by decide +kernel
theorem dX4_fraction_208 : decode cX4_fraction 208 = .ok (.ifCond .eq 7, 3) := by decide +kernel
theorem dX4_fraction_211 : decode cX4_fraction 211 = .ok (.iconst 1, 1) := by decide +kernel
theorem dX4_fraction_212 : decode cX4_fraction 212 = .ok (.goto 4, 3) := by decide +kernel
theorem dX4_fraction_215 : decode cX4_fraction 215 = .ok (.iconst 0, 1) := by decide +kernel
theorem dX4_fraction_216 : decode cX4_fraction 216 = .ok (.ireturn, 1) := by decide +kernel
theorem dX4_fraction_217 : decode cX4_fraction 217 = .ok (.lload 9, 2) := by decide +kernel
theorem dX4_fraction_219 : decode cX4_fraction 219 = .ok (.lconst 0, 1) := by decide +kernel
theorem dX4_fraction_220 : decode cX4_fraction 220 = .ok (.lcmp, 1) := by decide +kernel
theorem dX4_fraction_221 : decode cX4_fraction 221 = .ok (.ifCond .ne 5, 3) := by decide +kernel
theorem dX4_fraction_224 : decode cX4_fraction 224 = .ok (.iconst 0, 1) := by decide +kernel
theorem dX4_fraction_225 : decode cX4_fraction 225 = .ok (.ireturn, 1) := by decide +kernel
theorem dX4_fraction_226 : decode cX4_fraction 226 = .ok (.goto (-143), 3) := by decide +kernel
theorem dX4_fraction_229 : decode cX4_fraction 229 = .ok (.bipush (-3), 2) := by decide +kernel
theorem dX4_fraction_231 : decode cX4_fraction 231 = .ok (.ireturn, 1) := by decide +kernel
set_option maxRecDepth 20000 in
theorem ggX4_weight_X4_in : GoodIn wsX4_weight wsX4_in := goodIn_r _ [6] (by decide +kernel) (by decide +kernel)
set_option maxRecDepth 20000 in
theorem gX4_weight_X4_in : GoodIn wsX4_weight (va_wsS RX4 82 yX4_in wsX4_in) := goodIn_app (goodIn_of _ (by decide +kernel)) ggX4_weight_X4_in
theorem dX4_weight_0 : decode cX4_weight 0 = .ok (.iload_n 1, 1) := by decide +kernel
theorem dX4_weight_1 : decode cX4_weight 1 = .ok (.i2l, 1) := by decide +kernel
theorem dX4_weight_2 : decode cX4_weight 2 = .ok (.lconst 0, 1) := by decide +kernel
theorem dX4_weight_3 : decode cX4_weight 3 = .ok (.ldc2_w 128, 3) := by decide +kernel
theorem dX4_weight_6 : decode cX4_weight 6 = .ok (.invokestatic 82, 3) := by decide +kernel
theorem dX4_weight_9 : decode cX4_weight 9 = .ok (.ifCond .eq 9, 3) := by decide +kernel
theorem dX4_weight_12 : decode cX4_weight 12 = .ok (.lload_n 2, 1) := by decide +kernel
theorem dX4_weight_13 : decode cX4_weight 13 = .ok (.lconst 0, 1) := by decide +kernel
theorem dX4_weight_14 : decode cX4_weight 14 = .ok (.lcmp, 1) := by decide +kernel
theorem dX4_weight_15 : decode cX4_weight 15 = .ok (.ifCond .ge 5, 3) := by decide +kernel
theorem dX4_weight_18 : decode cX4_weight 18 = .ok (.iconst (-1), 1) := by decide +kernel
theorem dX4_weight_19 : decode cX4_weight 19 = .ok (.ireturn, 1) := by decide +kernel
theorem dX4_weight_20 : decode cX4_weight 20 = .ok (.aload_n 0, 1) := by decide +kernel
theorem dX4_weight_21 : decode cX4_weight 21 = .ok (.getfield 20, 3) := by decide +kernel
theorem dX4_weight_24 : decode cX4_weight 24 = .ok (.iload_n 1, 1) := by decide +kernel
theorem dX4_weight_25 : decode cX4_weight 25 = .ok (.lload_n 2, 1) := by decide +kernel
theorem dX4_weight_26 : decode cX4_weight 26 = .ok (.lastore, 1) := by decide +kernel
theorem dX4_weight_27 : decode cX4_weight 27 = .ok (.iconst 1, 1) := by decide +kernel
theorem dX4_weight_28 : decode cX4_weight 28 = .ok (.ireturn, 1) := by decide +kernel
theorem dX4_sum_0 : decode cX4_sum 0 = .ok (.lconst 0, 1) := by decide +kernel
theorem dX4_sum_1 : decode cX4_sum 1 = .ok (.lstore_n 1, 1) := by decide +kernel
theorem dX4_sum_2 : decode cX4_sum 2 = .ok (.aload_n 0, 1) := by decide +kernel
theorem dX4_sum_3 : decode cX4_sum 3 = .ok (.iconst 0, 1) := by decide +kernel
theorem dX4_sum_4 : decode cX4_sum 4 = .ok (.putfield 130, 3) := by decide +kernel
theorem dX4_sum_7 : decode cX4_sum 7 = .ok (.iconst 0, 1) := by decide +kernel
theorem dX4_sum_8 : decode cX4_sum 8 = .ok (.istore_n 3, 1) := by decide +kernel
theorem dX4_sum_9 : decode cX4_sum 9 = .ok (.iload_n 3, 1) := by decide +kernel
theorem dX4_sum_10 : decode cX4_sum 10 = .ok (.bipush 10, 2) := by decide +kernel
theorem dX4_sum_12 : decode cX4_sum 12 = .ok (.if_icmp .ge 58, 3) := by decide +kernel
theorem dX4_sum_15 : decode cX4_sum 15 = .ok (.aload_n 0, 1) := by decide +kernel
theorem dX4_sum_16 : decode cX4_sum 16 = .ok (.aload_n 0, 1) := by decide +kernel
theorem dX4_sum_17 : decode cX4_sum 17 = .ok (.getfield 130, 3) := by decide +kernel
theorem dX4_sum_20 : decode cX4_sum 20 = .ok (.ifCond .ne 16, 3) := by decide +kernel
theorem dX4_sum_23 : decode cX4_sum 23 = .ok (.lload_n 1, 1) := by decide +kernel
theorem dX4_sum_24 : decode cX4_sum 24 = .ok (.aload_n 0, 1) := by decide +kernel
theorem dX4_sum_25 : decode cX4_sum 25 = .ok (.getfield 20, 3) := by decide +kernel
theorem dX4_sum_28 : decode cX4_sum 28 = .ok (.iload_n 3, 1) := by decide +kernel
theorem dX4_sum_29 : decode cX4_sum 29 = .ok (.laload, 1) := by decide +kernel
theorem dX4_sum_30 : decode cX4_sum 30 = .ok (.ladd, 1) := by decide +kernel
theorem dX4_sum_31 : decode cX4_sum 31 = .ok (.lconst 0, 1) := by decide +kernel
theorem dX4_sum_32 : decode cX4_sum 32 = .ok (.lcmp, 1) := by decide +kernel
theorem dX4_sum_33 : decode cX4_sum 33 = .ok (.ifCond .ge 7, 3) := by decide +kernel
theorem dX4_sum_36 : decode cX4_sum 36 = .ok (.iconst 1, 1) := by decide +kernel
theorem dX4_sum_37 : decode cX4_sum 37 = .ok (.goto 4, 3) := by decide +kernel
theorem dX4_sum_40 : decode cX4_sum 40 = .ok (.iconst 0, 1) := by decide +kernel
theorem dX4_sum_41 : decode cX4_sum 41 = .ok (.putfield 130, 3) := by decide +kernel
theorem dX4_sum_44 : decode cX4_sum 44 = .ok (.aload_n 0, 1) := by decide +kernel
theorem dX4_sum_45 : decode cX4_sum 45 = .ok (.getfield 130, 3) := by decide +kernel
theorem dX4_sum_48 : decode cX4_sum 48 = .ok (.ifCond .eq 7, 3) := by decide +kernel
theorem dX4_sum_51 : decode cX4_sum 51 = .ok (.lconst 0, 1) := by decide +kernel
theorem dX4_sum_52 : decode cX4_sum 52 = .ok (.goto 11, 3) := by decide +kernel
theorem dX4_sum_55 : decode cX4_sum 55 = .ok (.lload_n 1, 1) := by decide +kernel
theorem dX4_sum_56 : decode cX4_sum 56 = .ok (.aload_n 0, 1) := by decide +kernel
theorem dX4_sum_57 : decode cX4_sum 57 = .ok (.getfield 20, 3) := by decide +kernel
theorem dX4_sum_60 : decode cX4_sum 60 = .ok (.iload_n 3, 1) := by decide +kernel
theorem dX4_sum_61 : decode cX4_sum 61 = .ok (.laload, 1) := by decide +kernel
theorem dX4_sum_62 : decode cX4_sum 62 = .ok (.ladd, 1) := by decide +kernel
theorem dX4_sum_63 : decode cX4_sum 63 = .ok (.lstore_n 1, 1) := by decide +kernel
theorem dX4_sum_64 : decode cX4_sum 64 = .ok (.iinc 3 1, 3) := by decide +kernel
theorem dX4_sum_67 : decode cX4_sum 67 = .ok (.goto (-58), 3) := by decide +kernel
theorem dX4_sum_70 : decode cX4_sum 70 = .ok (.lload_n 1, 1) := by decide +kernel
theorem dX4_sum_71 : decode cX4_sum 71 = .ok (.lreturn, 1) := by decide +kernel
set_option maxRecDepth 20000 in
theorem ggX4_picked_X4_draw : GoodIn wsX4_picked wsX4_draw := goodIn_r _ [6, 7, 8, 9, 10, 11, 5, 12, 13, 14, 15, 16, 17, 18, 19, 20, 21, 22, 23, 24, 25, 26, 27, 28, 29, 30, 31, 32, 33, 34, 35, 36, 37, 38, 39, 40, 41, 42, 43, 44, 45, 46, 47, 48, 49, 50, 51, 52, 53, 54] (by decide +kernel) (by decide +kernel)
set_option maxRecDepth 20000 in
theorem gX4_picked_X4_draw : GoodIn wsX4_picked (wsV RX4 122 RX4 yX4_draw wsX4_draw) := goodIn_app (goodIn_of _ (by decide +kernel)) ggX4_picked_X4_draw
theorem dX4_picked_0 : decode cX4_picked 0 = .ok (.aload_n 0, 1) := by decide +kernel
theorem dX4_picked_1 : decode cX4_picked 1 = .ok (.lload_n 1, 1) := by decide +kernel
theorem dX4_picked_2 : decode cX4_picked 2 = .ok (.iload_n 3, 1) := by decide +kernel
theorem dX4_picked_3 : decode cX4_picked 3 = .ok (.iload 4, 2) := by decide +kernel
theorem dX4_picked_5 : decode cX4_picked 5 = .ok (.lload 5, 2) := by decide +kernel
theorem dX4_picked_7 : decode cX4_picked 7 = .ok (.invokevirtual 122, 3) := by decide +kernel
theorem dX4_picked_10 : decode cX4_picked 10 = .ok (.lstore 7, 2) := by decide +kernel
theorem dX4_picked_12 : decode cX4_picked 12 = .ok (.lload 7, 2) := by decide +kernel
theorem dX4_picked_14 : decode cX4_picked 14 = .ok (.lconst 0, 1) := by decide +kernel
theorem dX4_picked_15 : decode cX4_picked 15 = .ok (.lcmp, 1) := by decide +kernel
theorem dX4_picked_16 : decode cX4_picked 16 = .ok (.ifCond .ge 6, 3) := by decide +kernel
theorem dX4_picked_19 : decode cX4_picked 19 = .ok (.bipush (-3), 2) := by decide +kernel
theorem dX4_picked_21 : decode cX4_picked 21 = .ok (.ireturn, 1) := by decide +kernel
theorem dX4_picked_22 : decode cX4_picked 22 = .ok (.iconst 0, 1) := by decide +kernel
theorem dX4_picked_23 : decode cX4_picked 23 = .ok (.istore 9, 2) := by decide +kernel
theorem dX4_picked_25 : decode cX4_picked 25 = .ok (.aload_n 0, 1) := by decide +kernel
theorem dX4_picked_26 : decode cX4_picked 26 = .ok (.getfield 20, 3) := by decide +kernel
theorem dX4_picked_29 : decode cX4_picked 29 = .ok (.iconst 0, 1) := by decide +kernel
theorem dX4_picked_30 : decode cX4_picked 30 = .ok (.laload, 1) := by decide +kernel
theorem dX4_picked_31 : decode cX4_picked 31 = .ok (.lstore 10, 2) := by decide +kernel
theorem dX4_picked_33 : decode cX4_picked 33 = .ok (.lload 10, 2) := by decide +kernel
theorem dX4_picked_35 : decode cX4_picked 35 = .ok (.lload 7, 2) := by decide +kernel
theorem dX4_picked_37 : decode cX4_picked 37 = .ok (.lcmp, 1) := by decide +kernel
theorem dX4_picked_38 : decode cX4_picked 38 = .ok (.ifCond .gt 21, 3) := by decide +kernel
theorem dX4_picked_41 : decode cX4_picked 41 = .ok (.iinc 9 1, 3) := by decide +kernel
theorem dX4_picked_44 : decode cX4_picked 44 = .ok (.lload 10, 2) := by decide +kernel
theorem dX4_picked_46 : decode cX4_picked 46 = .ok (.aload_n 0, 1) := by decide +kernel
theorem dX4_picked_47 : decode cX4_picked 47 = .ok (.getfield 20, 3) := by decide +kernel
theorem dX4_picked_50 : decode cX4_picked 50 = .ok (.iload 9, 2) := by decide +kernel
theorem dX4_picked_52 : decode cX4_picked 52 = .ok (.laload, 1) := by decide +kernel
theorem dX4_picked_53 : decode cX4_picked 53 = .ok (.ladd, 1) := by decide +kernel
theorem dX4_picked_54 : decode cX4_picked 54 = .ok (.lstore 10, 2) := by decide +kernel
theorem dX4_picked_56 : decode cX4_picked 56 = .ok (.goto (-23), 3) := by decide +kernel
theorem dX4_picked_59 : decode cX4_picked 59 = .ok (.iload 9, 2) := by decide +kernel
theorem dX4_picked_61 : decode cX4_picked 61 = .ok (.ireturn, 1) := by decide +kernel
set_option maxRecDepth 20000 in
theorem ggX4_pick_X4_isPath : GoodIn wsX4_pick wsX4_isPath := goodIn_r _ [6, 7, 8, 9, 5, 10, 51, 52, 53, 54, 55, 56, 57, 58, 59, 60, 61, 62, 63, 64, 65, 66, 67, 68, 69, 70, 71] (by decide +kernel) (by decide +kernel)
set_option maxRecDepth 20000 in
theorem gX4_pick_X4_isPath : GoodIn wsX4_pick (wsV RX4 92 RX4 yX4_isPath wsX4_isPath) := goodIn_app (goodIn_of _ (by decide +kernel)) ggX4_pick_X4_isPath
set_option maxRecDepth 20000 in
theorem ggX4_pick_X4_sum : GoodIn wsX4_pick wsX4_sum := goodIn_r _ [14, 1, 15, 51, 52, 53, 54, 55, 56, 57, 58, 59, 60, 61, 62, 63, 64, 65, 66, 67, 68, 69, 70, 71] (by decide +kernel) (by decide +kernel)
set_option maxRecDepth 20000 in
theorem gX4_pick_X4_sum : GoodIn wsX4_pick (wsV RX4 134 RX4 yX4_sum wsX4_sum) := goodIn_app (goodIn_of _ (by decide +kernel)) ggX4_pick_X4_sum
set_option maxRecDepth 20000 in
theorem ggX4_pick_X4_picked : GoodIn wsX4_pick wsX4_picked := goodIn_r _ [19, 15, 20, 21, 22, 5, 23, 24, 25, 26, 27, 28, 29, 30, 31, 32, 33, 34, 35, 36, 37, 38, 39, 40, 41, 42, 43, 44, 45, 46, 47, 48, 49, 50, 51, 52, 53, 54, 55, 56, 57, 58, 59, 60, 61, 62, 63, 64, 65, 66, 67, 68, 69, 70, 71] (by decide +kernel) (by decide +kernel)
set_option maxRecDepth 20000 in
theorem gX4_pick_X4_picked : GoodIn wsX4_pick (wsV RX4 138 RX4 yX4_picked wsX4_picked) := goodIn_app (goodIn_of _ (by decide +kernel)) ggX4_pick_X4_picked
theorem dX4_pick_0 : decode cX4_pick 0 = .ok (.aload_n 0, 1) := by decide +kernel
theorem dX4_pick_1 : decode cX4_pick 1 = .ok (.iload_n 3, 1) := by decide +kernel
theorem dX4_pick_2 : decode cX4_pick 2 = .ok (.invokevirtual 92, 3) := by decide +kernel
theorem dX4_pick_5 : decode cX4_pick 5 = .ok (.ifCond .eq 8, 3) := by decide +kernel
theorem dX4_pick_8 : decode cX4_pick 8 = .ok (.iload 4, 2) := by decide +kernel
theorem dX4_pick_10 : decode cX4_pick 10 = .ok (.ifCond .ge 5, 3) := by decide +kernel
theorem dX4_pick_13 : decode cX4_pick 13 = .ok (.iconst (-1), 1) := by decide +kernel
theorem dX4_pick_14 : decode cX4_pick 14 = .ok (.ireturn, 1) := by decide +kernel
theorem dX4_pick_15 : decode cX4_pick 15 = .ok (.aload_n 0, 1) := by decide +kernel
theorem dX4_pick_16 : decode cX4_pick 16 = .ok (.invokevirtual 134, 3) := by decide +kernel
theorem dX4_pick_19 : decode cX4_pick 19 = .ok (.lstore 5, 2) := by decide +kernel
theorem dX4_pick_21 : decode cX4_pick 21 = .ok (.aload_n 0, 1) := by decide +kernel
theorem dX4_pick_22 : decode cX4_pick 22 = .ok (.getfield 130, 3) := by decide +kernel
theorem dX4_pick_25 : decode cX4_pick 25 = .ok (.ifCond .eq 8, 3) := by decide +kernel
theorem dX4_pick_28 : decode cX4_pick 28 = .ok (.bipush (-5), 2) := by decide +kernel
theorem dX4_pick_30 : decode cX4_pick 30 = .ok (.goto 25, 3) := by decide +kernel
theorem dX4_pick_33 : decode cX4_pick 33 = .ok (.lload 5, 2) := by decide +kernel
theorem dX4_pick_35 : decode cX4_pick 35 = .ok (.lconst 0, 1) := by decide +kernel
theorem dX4_pick_36 : decode cX4_pick 36 = .ok (.lcmp, 1) := by decide +kernel
theorem dX4_pick_37 : decode cX4_pick 37 = .ok (.ifCond .ne 8, 3) := by decide +kernel
theorem dX4_pick_40 : decode cX4_pick 40 = .ok (.bipush (-4), 2) := by decide +kernel
theorem dX4_pick_42 : decode cX4_pick 42 = .ok (.goto 13, 3) := by decide +kernel
theorem dX4_pick_45 : decode cX4_pick 45 = .ok (.aload_n 0, 1) := by decide +kernel
theorem dX4_pick_46 : decode cX4_pick 46 = .ok (.lload_n 1, 1) := by decide +kernel
theorem dX4_pick_47 : decode cX4_pick 47 = .ok (.iload_n 3, 1) := by decide +kernel
theorem dX4_pick_48 : decode cX4_pick 48 = .ok (.iload 4, 2) := by decide +kernel
theorem dX4_pick_50 : decode cX4_pick 50 = .ok (.lload 5, 2) := by decide +kernel
theorem dX4_pick_52 : decode cX4_pick 52 = .ok (.invokevirtual 138, 3) := by decide +kernel
theorem dX4_pick_55 : decode cX4_pick 55 = .ok (.ireturn, 1) := by decide +kernel
set_option maxRecDepth 20000 in
theorem ggX4_permuted_X4_isPath : GoodIn wsX4_permuted wsX4_isPath := goodIn_r _ [8, 9, 10, 11, 7, 12, 44, 45, 46, 47, 48, 49, 50, 51, 52, 53, 54, 55, 56, 57, 58, 59, 60, 61, 62, 63, 64] (by decide +kernel) (by decide +kernel)
set_option maxRecDepth 20000 in
theorem gX4_permuted_X4_isPath : GoodIn wsX4_permuted (wsV RX4 92 RX4 yX4_isPath wsX4_isPath) := goodIn_app (goodIn_of _ (by decide +kernel)) ggX4_permuted_X4_isPath
set_option maxRecDepth 20000 in
theorem ggX4_permuted_X4_in : GoodIn wsX4_permuted wsX4_in := goodIn_r _ [12] (by decide +kernel) (by decide +kernel)
set_option maxRecDepth 20000 in
theorem gX4_permuted_X4_in : GoodIn wsX4_permuted (va_wsS RX4 82 yX4_in wsX4_in) := goodIn_app (goodIn_of _ (by decide +kernel)) ggX4_permuted_X4_in
set_option maxRecDepth 20000 in
theorem ggX4_permuted_X4_draw : GoodIn wsX4_permuted wsX4_draw := goodIn_r _ [16, 17, 18, 19, 20, 21, 7, 22, 23, 24, 25, 26, 27, 28, 29, 30, 31, 32, 33, 34, 35, 36, 37, 38, 39, 40, 41, 42, 43, 44, 45, 46, 47, 48, 49, 50, 51, 52, 53, 54, 55, 56, 57, 58, 59, 60, 61, 62, 63, 64] (by decide +kernel) (by decide +kernel)
set_option maxRecDepth 20000 in
theorem gX4_permuted_X4_draw : GoodIn wsX4_permuted (wsV RX4 122 RX4 yX4_draw wsX4_draw) := goodIn_app (goodIn_of _ (by decide +kernel)) ggX4_permuted_X4_draw
theorem dX4_permuted_0 : decode cX4_permuted 0 = .ok (.aload_n 0, 1) := by decide +kernel
theorem dX4_permuted_1 : decode cX4_permuted 1 = .ok (.iload_n 3, 1) := by decide +kernel
theorem dX4_permuted_2 : decode cX4_permuted 2 = .ok (.invokevirtual 92, 3) := by decide +kernel
theorem dX4_permuted_5 : decode cX4_permuted 5 = .ok (.ifCond .eq 50, 3) := by decide +kernel
theorem dX4_permuted_8 : decode cX4_permuted 8 = .ok (.iload 4, 2) := by decide +kernel
theorem dX4_permuted_10 : decode cX4_permuted 10 = .ok (.ifCond .lt 45, 3) := by decide +kernel
theorem dX4_permuted_13 : decode cX4_permuted 13 = .ok (.iload 5, 2) := by decide +kernel
theorem dX4_permuted_15 : decode cX4_permuted 15 = .ok (.i2l, 1) := by decide +kernel
theorem dX4_permuted_16 : decode cX4_permuted 16 = .ok (.lconst 0, 1) := by decide +kernel
theorem dX4_permuted_17 : decode cX4_permuted 17 = .ok (.ldc2_w 142, 3) := by decide +kernel
theorem dX4_permuted_20 : decode cX4_permuted 20 = .ok (.invokestatic 82, 3) := by decide +kernel
theorem dX4_permuted_23 : decode cX4_permuted 23 = .ok (.ifCond .eq 32, 3) := by decide +kernel
theorem dX4_permuted_26 : decode cX4_permuted 26 = .ok (.iload 4, 2) := by decide +kernel
theorem dX4_permuted_28 : decode cX4_permuted 28 = .ok (.i2l, 1) := by decide +kernel
theorem dX4_permuted_29 : decode cX4_permuted 29 = .ok (.iload 5, 2) := by decide +kernel
theorem dX4_permuted_31 : decode cX4_permuted 31 = .ok (.i2l, 1) := by decide +kernel
theorem dX4_permuted_32 : decode cX4_permuted 32 = .ok (.ladd, 1) := by decide +kernel
theorem dX4_permuted_33 : decode cX4_permuted 33 = .ok (.ldc2_w 144, 3) := by decide +kernel
theorem dX4_permuted_36 : decode cX4_permuted 36 = .ok (.lcmp, 1) := by decide +kernel
theorem dX4_permuted_37 : decode cX4_permuted 37 = .ok (.ifCond .gt 18, 3) := by decide +kernel
theorem dX4_permuted_40 : decode cX4_permuted 40 = .ok (.iload 6, 2) := by decide +kernel
theorem dX4_permuted_42 : decode cX4_permuted 42 = .ok (.i2l, 1) := by decide +kernel
theorem dX4_permuted_43 : decode cX4_permuted 43 = .ok (.lconst 0, 1) := by decide +kernel
theorem dX4_permuted_44 : decode cX4_permuted 44 = .ok (.iload 5, 2) := by decide +kernel
theorem dX4_permuted_46 : decode cX4_permuted 46 = .ok (.iconst 1, 1) := by decide +kernel
theorem dX4_permuted_47 : decode cX4_permuted 47 = .ok (.isub, 1) := by decide +kernel
theorem dX4_permuted_48 : decode cX4_permuted 48 = .ok (.i2l, 1) := by decide +kernel
theorem dX4_permuted_49 : decode cX4_permuted 49 = .ok (.invokestatic 82, 3) := by decide +kernel
theorem dX4_permuted_52 : decode cX4_permuted 52 = .ok (.ifCond .ne 5, 3) := by decide +kernel
theorem dX4_permuted_55 : decode cX4_permuted 55 = .ok (.iconst (-1), 1) := by decide +kernel
theorem dX4_permuted_56 : decode cX4_permuted 56 = .ok (.ireturn, 1) := by decide +kernel
theorem dX4_permuted_57 : decode cX4_permuted 57 = .ok (.iconst 0, 1) := by decide +kernel
theorem dX4_permuted_58 : decode cX4_permuted 58 = .ok (.istore 7, 2) := by decide +kernel
theorem dX4_permuted_60 : decode cX4_permuted 60 = .ok (.iload 7, 2) := by decide +kernel
theorem dX4_permuted_62 : decode cX4_permuted 62 = .ok (.iload 5, 2) := by decide +kernel
theorem dX4_permuted_64 : decode cX4_permuted 64 = .ok (.if_icmp .ge 18, 3) := by decide +kernel
theorem dX4_permuted_67 : decode cX4_permuted 67 = .ok (.aload_n 0, 1) := by decide +kernel
theorem dX4_permuted_68 : decode cX4_permuted 68 = .ok (.getfield 48, 3) := by decide +kernel
theorem dX4_permuted_71 : decode cX4_permuted 71 = .ok (.iload 7, 2) := by decide +kernel
theorem dX4_permuted_73 : decode cX4_permuted 73 = .ok (.iload 7, 2) := by decide +kernel
theorem dX4_permuted_75 : decode cX4_permuted 75 = .ok (.iastore, 1) := by decide +kernel
theorem dX4_permuted_76 : decode cX4_permuted 76 = .ok (.iinc 7 1, 3) := by decide +kernel
theorem dX4_permuted_79 : decode cX4_permuted 79 = .ok (.goto (-19), 3) := by decide +kernel
theorem dX4_permuted_82 : decode cX4_permuted 82 = .ok (.iload 5, 2) := by decide +kernel
theorem dX4_permuted_84 : decode cX4_permuted 84 = .ok (.iconst 1, 1) := by decide +kernel
theorem dX4_permuted_85 : decode cX4_permuted 85 = .ok (.isub, 1) := by decide +kernel
theorem dX4_permuted_86 : decode cX4_permuted 86 = .ok (.istore 7, 2) := by decide +kernel
theorem dX4_permuted_88 : decode cX4_permuted 88 = .ok (.iload 7, 2) := by decide +kernel
theorem dX4_permuted_90 : decode cX4_permuted 90 = .ok (.ifCond .le 71, 3) := by decide +kernel
theorem dX4_permuted_93 : decode cX4_permuted 93 = .ok (.aload_n 0, 1) := by decide +kernel
theorem dX4_permuted_94 : decode cX4_permuted 94 = .ok (.lload_n 1, 1) := by decide +kernel
theorem dX4_permuted_95 : decode cX4_permuted 95 = .ok (.iload_n 3, 1) := by decide +kernel
theorem dX4_permuted_96 : decode cX4_permuted 96 = .ok (.iload 4, 2) := by decide +kernel
theorem dX4_permuted_98 : decode cX4_permuted 98 = .ok (.iload 7, 2) := by decide +kernel
theorem dX4_permuted_100 : decode cX4_permuted 100 = .ok (.iadd, 1) := by decide +kernel
theorem dX4_permuted_101 : decode cX4_permuted 101 = .ok (.iload 7, 2) := by decide +kernel
theorem dX4_permuted_103 : decode cX4_permuted 103 = .ok (.i2l, 1) := by decide +kernel
theorem dX4_permuted_104 : decode cX4_permuted 104 = .ok (.lconst 1, 1) := by decide +kernel
theorem dX4_permuted_105 : decode cX4_permuted 105 = .ok (.ladd, 1) := by decide +kernel
theorem dX4_permuted_106 : decode cX4_permuted 106 = .ok (.invokevirtual 122, 3) := by decide +kernel
theorem dX4_permuted_109 : decode cX4_permuted 109 = .ok (.lstore 8, 2) := by decide +kernel
theorem dX4_permuted_111 : decode cX4_permuted 111 = .ok (.lload 8, 2) := by decide +kernel
theorem dX4_permuted_113 : decode cX4_permuted 113 = .ok (.lconst 0, 1) := by decide +kernel
theorem dX4_permuted_114 : decode cX4_permuted 114 = .ok (.lcmp, 1) := by decide +kernel
theorem dX4_permuted_115 : decode cX4_permuted 115 = .ok (.ifCond .ge 6, 3) := by decide +kernel
theorem dX4_permuted_118 : decode cX4_permuted 118 = .ok (.bipush (-3), 2) := by decide +kernel
theorem dX4_permuted_120 : decode cX4_permuted 120 = .ok (.ireturn, 1) := by decide +kernel
theorem dX4_permuted_121 : decode cX4_permuted 121 = .ok (.aload_n 0, 1) := by decide +kernel
theorem dX4_permuted_122 : decode cX4_permuted 122 = .ok (.getfield 48, 3) := by decide +kernel
theorem dX4_permuted_125 : decode cX4_permuted 125 = .ok (.iload 7, 2) := by decide +kernel
theorem dX4_permuted_127 : decode cX4_permuted 127 = .ok (.iaload, 1) := by decide +kernel
theorem dX4_permuted_128 : decode cX4_permuted 128 = .ok (.istore 10, 2) := by decide +kernel
theorem dX4_permuted_130 : decode cX4_permuted 130 = .ok (.aload_n 0, 1) := by decide +kernel
theorem dX4_permuted_131 : decode cX4_permuted 131 = .ok (.getfield 48, 3) := by decide +kernel
theorem dX4_permuted_134 : decode cX4_permuted 134 = .ok (.iload 7, 2) := by decide +kernel
theorem dX4_permuted_136 : decode cX4_permuted 136 = .ok (.aload_n 0, 1) := by decide +kernel
theorem dX4_permuted_137 : decode cX4_permuted 137 = .ok (.getfield 48, 3) := by decide +kernel
theorem dX4_permuted_140 : decode cX4_permuted 140 = .ok (.lload 8, 2) := by decide +kernel
theorem dX4_permuted_142 : decode cX4_permuted 142 = .ok (.l2i, 1) := by decide +kernel
theorem dX4_permuted_143 : decode cX4_permuted 143 = .ok (.iaload, 1) := by decide +kernel
theorem dX4_permuted_144 : decode cX4_permuted 144 = .ok (.iastore, 1) := by decide +kernel
theorem dX4_permuted_145 : decode cX4_permuted 145 = .ok (.aload_n 0, 1) := by decide +kernel
theorem dX4_permuted_146 : decode cX4_permuted 146 = .ok (.getfield 48, 3) := by decide +kernel
theorem dX4_permuted_149 : decode cX4_permuted 149 = .ok (.lload 8, 2) := by decide +kernel
theorem dX4_permuted_151 : decode cX4_permuted 151 = .ok (.l2i, 1) := by decide +kernel
theorem dX4_permuted_152 : decode cX4_permuted 152 = .ok (.iload 10, 2) := by decide +kernel
theorem dX4_permuted_154 : decode cX4_permuted 154 = .ok (.iastore, 1) := by decide +kernel
theorem dX4_permuted_155 : decode cX4_permuted 155 = .ok (.iinc 7 (-1), 3) := by decide +kernel
theorem dX4_permuted_158 : decode cX4_permuted 158 = .ok (.goto (-70), 3) := by decide +kernel
theorem dX4_permuted_161 : decode cX4_permuted 161 = .ok (.aload_n 0, 1) := by decide +kernel
theorem dX4_permuted_162 : decode cX4_permuted 162 = .ok (.getfield 48, 3) := by decide +kernel
theorem dX4_permuted_165 : decode cX4_permuted 165 = .ok (.iload 6, 2) := by decide +kernel
theorem dX4_permuted_167 : decode cX4_permuted 167 = .ok (.iaload, 1) := by decide +kernel
theorem dX4_permuted_168 : decode cX4_permuted 168 = .ok (.ireturn, 1) := by decide +kernel
theorem dX4_tries_0 : decode cX4_tries 0 = .ok (.aload_n 0, 1) := by decide +kernel
theorem dX4_tries_1 : decode cX4_tries 1 = .ok (.getfield 113, 3) := by decide +kernel
theorem dX4_tries_4 : decode cX4_tries 4 = .ok (.ireturn, 1) := by decide +kernel
theorem dX4_status_0 : decode cX4_status 0 = .ok (.aload_n 0, 1) := by decide +kernel
theorem dX4_status_1 : decode cX4_status 1 = .ok (.getfield 96, 3) := by decide +kernel
theorem dX4_status_4 : decode cX4_status 4 = .ok (.ireturn, 1) := by decide +kernel
set_option maxRecDepth 20000 in
theorem ggX4_isStream_X4_in : GoodIn wsX4_isStream wsX4_in := goodIn_r _ [5] (by decide +kernel) (by decide +kernel)
set_option maxRecDepth 20000 in
theorem gX4_isStream_X4_in : GoodIn wsX4_isStream (va_wsS RX4 82 yX4_in wsX4_in) := goodIn_app (goodIn_of _ (by decide +kernel)) ggX4_isStream_X4_in
theorem dX4_isStream_0 : decode cX4_isStream 0 = .ok (.iload_n 1, 1) := by decide +kernel
theorem dX4_isStream_1 : decode cX4_isStream 1 = .ok (.i2l, 1) := by decide +kernel
theorem dX4_isStream_2 : decode cX4_isStream 2 = .ok (.lconst 0, 1) := by decide +kernel
theorem dX4_isStream_3 : decode cX4_isStream 3 = .ok (.aload_n 0, 1) := by decide +kernel
theorem dX4_isStream_4 : decode cX4_isStream 4 = .ok (.getfield 146, 3) := by decide +kernel
theorem dX4_isStream_7 : decode cX4_isStream 7 = .ok (.iconst 1, 1) := by decide +kernel
theorem dX4_isStream_8 : decode cX4_isStream 8 = .ok (.isub, 1) := by decide +kernel
theorem dX4_isStream_9 : decode cX4_isStream 9 = .ok (.i2l, 1) := by decide +kernel
theorem dX4_isStream_10 : decode cX4_isStream 10 = .ok (.invokestatic 82, 3) := by decide +kernel
theorem dX4_isStream_13 : decode cX4_isStream 13 = .ok (.ireturn, 1) := by decide +kernel
theorem dX4_begin_0 : decode cX4_begin 0 = .ok (.aload_n 0, 1) := by decide +kernel
theorem dX4_begin_1 : decode cX4_begin 1 = .ok (.getfield 23, 3) := by decide +kernel
theorem dX4_begin_4 : decode cX4_begin 4 = .ok (.aload_n 0, 1) := by decide +kernel
theorem dX4_begin_5 : decode cX4_begin 5 = .ok (.getfield 146, 3) := by decide +kernel
theorem dX4_begin_8 : decode cX4_begin 8 = .ok (.lload_n 1, 1) := by decide +kernel
theorem dX4_begin_9 : decode cX4_begin 9 = .ok (.lastore, 1) := by decide +kernel
theorem dX4_begin_10 : decode cX4_begin 10 = .ok (.aload_n 0, 1) := by decide +kernel
theorem dX4_begin_11 : decode cX4_begin 11 = .ok (.getfield 26, 3) := by decide +kernel
theorem dX4_begin_14 : decode cX4_begin 14 = .ok (.aload_n 0, 1) := by decide +kernel
theorem dX4_begin_15 : decode cX4_begin 15 = .ok (.getfield 146, 3) := by decide +kernel
theorem dX4_begin_18 : decode cX4_begin 18 = .ok (.iload_n 3, 1) := by decide +kernel
theorem dX4_begin_19 : decode cX4_begin 19 = .ok (.iastore, 1) := by decide +kernel
theorem dX4_begin_20 : decode cX4_begin 20 = .ok (.aload_n 0, 1) := by decide +kernel
theorem dX4_begin_21 : decode cX4_begin 21 = .ok (.getfield 29, 3) := by decide +kernel
theorem dX4_begin_24 : decode cX4_begin 24 = .ok (.aload_n 0, 1) := by decide +kernel
theorem dX4_begin_25 : decode cX4_begin 25 = .ok (.getfield 146, 3) := by decide +kernel
theorem dX4_begin_28 : decode cX4_begin 28 = .ok (.iconst 0, 1) := by decide +kernel
theorem dX4_begin_29 : decode cX4_begin 29 = .ok (.iastore, 1) := by decide +kernel
theorem dX4_begin_30 : decode cX4_begin 30 = .ok (.aload_n 0, 1) := by decide +kernel
theorem dX4_begin_31 : decode cX4_begin 31 = .ok (.getfield 32, 3) := by decide +kernel
theorem dX4_begin_34 : decode cX4_begin 34 = .ok (.aload_n 0, 1) := by decide +kernel
theorem dX4_begin_35 : decode cX4_begin 35 = .ok (.getfield 146, 3) := by decide +kernel
theorem dX4_begin_38 : decode cX4_begin 38 = .ok (.iconst 0, 1) := by decide +kernel
theorem dX4_begin_39 : decode cX4_begin 39 = .ok (.iastore, 1) := by decide +kernel
theorem dX4_begin_40 : decode cX4_begin 40 = .ok (.aload_n 0, 1) := by decide +kernel
theorem dX4_begin_41 : decode cX4_begin 41 = .ok (.dup, 1) := by decide +kernel
theorem dX4_begin_42 : decode cX4_begin 42 = .ok (.getfield 146, 3) := by decide +kernel
theorem dX4_begin_45 : decode cX4_begin 45 = .ok (.iconst 1, 1) := by decide +kernel
theorem dX4_begin_46 : decode cX4_begin 46 = .ok (.iadd, 1) := by decide +kernel
theorem dX4_begin_47 : decode cX4_begin 47 = .ok (.putfield 146, 3) := by decide +kernel
theorem dX4_begin_50 : decode cX4_begin 50 = .ok (.aload_n 0, 1) := by decide +kernel
theorem dX4_begin_51 : decode cX4_begin 51 = .ok (.getfield 146, 3) := by decide +kernel
theorem dX4_begin_54 : decode cX4_begin 54 = .ok (.iconst 1, 1) := by decide +kernel
theorem dX4_begin_55 : decode cX4_begin 55 = .ok (.isub, 1) := by decide +kernel
theorem dX4_begin_56 : decode cX4_begin 56 = .ok (.ireturn, 1) := by decide +kernel
set_option maxRecDepth 20000 in
theorem ggX4_open_X4_isPath : GoodIn wsX4_open wsX4_isPath := goodIn_r _ [6, 7, 8, 9, 5, 10, 19, 20, 21, 22, 23, 24, 25, 26, 27, 28, 29, 30, 31, 32, 33, 34, 35, 36, 37, 38, 39] (by decide +kernel) (by decide +kernel)
set_option maxRecDepth 20000 in
theorem gX4_open_X4_isPath : GoodIn wsX4_open (wsV RX4 92 RX4 yX4_isPath wsX4_isPath) := goodIn_app (goodIn_of _ (by decide +kernel)) ggX4_open_X4_isPath
set_option maxRecDepth 20000 in
theorem ggX4_open_X4_begin : GoodIn wsX4_open wsX4_begin := goodIn_r _ [14, 15, 1, 16, 17, 18, 19, 20, 21, 22, 23, 24, 25, 26, 27, 28, 29, 30, 31, 32, 33, 34, 35, 36, 37, 38, 39] (by decide +kernel) (by decide +kernel)
set_option maxRecDepth 20000 in
theorem gX4_open_X4_begin : GoodIn wsX4_open (wsV RX4 149 RX4 yX4_begin wsX4_begin) := goodIn_app (goodIn_of _ (by decide +kernel)) ggX4_open_X4_begin
theorem dX4_open_0 : decode cX4_open 0 = .ok (.aload_n 0, 1) := by decide +kernel
theorem dX4_open_1 : decode cX4_open 1 = .ok (.iload_n 3, 1) := by decide +kernel
theorem dX4_open_2 : decode cX4_open 2 = .ok (.invokevirtual 92, 3) := by decide +kernel
theorem dX4_open_5 : decode cX4_open 5 = .ok (.ifCond .ne 5, 3) := by decide +kernel
theorem dX4_open_8 : decode cX4_open 8 = .ok (.iconst (-1), 1) := by decide +kernel
theorem dX4_open_9 : decode cX4_open 9 = .ok (.ireturn, 1) := by decide +kernel
theorem dX4_open_10 : decode cX4_open 10 = .ok (.aload_n 0, 1) := by decide +kernel
theorem dX4_open_11 : decode cX4_open 11 = .ok (.getfield 146, 3) := by decide +kernel
theorem dX4_open_14 : decode cX4_open 14 = .ok (.bipush 8, 2) := by decide +kernel
theorem dX4_open_16 : decode cX4_open 16 = .ok (.if_icmp .ne 8, 3) := by decide +kernel
theorem dX4_open_19 : decode cX4_open 19 = .ok (.bipush (-2), 2) := by decide +kernel
theorem dX4_open_21 : decode cX4_open 21 = .ok (.goto 9, 3) := by decide +kernel
theorem dX4_open_24 : decode cX4_open 24 = .ok (.aload_n 0, 1) := by decide +kernel
theorem dX4_open_25 : decode cX4_open 25 = .ok (.lload_n 1, 1) := by decide +kernel
theorem dX4_open_26 : decode cX4_open 26 = .ok (.iload_n 3, 1) := by decide +kernel
theorem dX4_open_27 : decode cX4_open 27 = .ok (.invokevirtual 149, 3) := by decide +kernel
theorem dX4_open_30 : decode cX4_open 30 = .ok (.ireturn, 1) := by decide +kernel
set_option maxRecDepth 20000 in
theorem ggX4_next_X4_isStream : GoodIn wsX4_next wsX4_isStream := goodIn_r _ [11, 12, 13, 14, 10, 15, 47, 48, 49, 50, 51, 52, 53, 54, 55, 56, 57, 58, 59, 60, 61, 62, 63, 64, 65, 66, 67] (by decide +kernel) (by decide +kernel)
set_option maxRecDepth 20000 in
theorem gX4_next_X4_isStream : GoodIn wsX4_next (wsV RX4 153 RX4 yX4_isStream wsX4_isStream) := goodIn_app (goodIn_of _ (by decide +kernel)) ggX4_next_X4_isStream
set_option maxRecDepth 20000 in
theorem ggX4_next_X4_draw : GoodIn wsX4_next wsX4_draw := goodIn_r _ [19, 20, 21, 22, 23, 24, 10, 25, 26, 27, 28, 29, 30, 31, 32, 33, 34, 35, 36, 37, 38, 39, 40, 41, 42, 43, 44, 45, 46, 47, 48, 49, 50, 51, 52, 53, 54, 55, 56, 57, 58, 59, 60, 61, 62, 63, 64, 65, 66, 67] (by decide +kernel) (by decide +kernel)
set_option maxRecDepth 20000 in
theorem gX4_next_X4_draw : GoodIn wsX4_next (wsV RX4 122 RX4 yX4_draw wsX4_draw) := goodIn_app (goodIn_of _ (by decide +kernel)) ggX4_next_X4_draw
theorem dX4_next_0 : decode cX4_next 0 = .ok (.lload_n 2, 1) := by decide +kernel
theorem dX4_next_1 : decode cX4_next 1 = .ok (.lconst 0, 1) := by decide +kernel
theorem dX4_next_2 : decode cX4_next 2 = .ok (.lcmp, 1) := by decide +kernel
theorem dX4_next_3 : decode cX4_next 3 = .ok (.ifCond .lt 22, 3) := by decide +kernel
theorem dX4_next_6 : decode cX4_next 6 = .ok (.aload_n 0, 1) := by decide +kernel
theorem dX4_next_7 : decode cX4_next 7 = .ok (.iload_n 1, 1) := by decide +kernel
theorem dX4_next_8 : decode cX4_next 8 = .ok (.invokevirtual 153, 3) := by decide +kernel
theorem dX4_next_11 : decode cX4_next 11 = .ok (.ifCond .eq 14, 3) := by decide +kernel
theorem dX4_next_14 : decode cX4_next 14 = .ok (.aload_n 0, 1) := by decide +kernel
theorem dX4_next_15 : decode cX4_next 15 = .ok (.getfield 29, 3) := by decide +kernel
theorem dX4_next_18 : decode cX4_next 18 = .ok (.iload_n 1, 1) := by decide +kernel
theorem dX4_next_19 : decode cX4_next 19 = .ok (.iaload, 1) := by decide +kernel
theorem dX4_next_20 : decode cX4_next 20 = .ok (.ldc 156, 2) := by decide +kernel
theorem dX4_next_22 : decode cX4_next 22 = .ok (.if_icmp .ne 7, 3) := by decide +kernel
theorem dX4_next_25 : decode cX4_next 25 = .ok (.ldc2_w 118, 3) := by decide +kernel
theorem dX4_next_28 : decode cX4_next 28 = .ok (.lreturn, 1) := by decide +kernel
theorem dX4_next_29 : decode cX4_next 29 = .ok (.lload_n 2, 1) := by decide +kernel
theorem dX4_next_30 : decode cX4_next 30 = .ok (.lconst 0, 1) := by decide +kernel
theorem dX4_next_31 : decode cX4_next 31 = .ok (.lcmp, 1) := by decide +kernel
theorem dX4_next_32 : decode cX4_next 32 = .ok (.ifCond .ne 7, 3) := by decide +kernel
theorem dX4_next_35 : decode cX4_next 35 = .ok (.ldc2_w 120, 3) := by decide +kernel
theorem dX4_next_38 : decode cX4_next 38 = .ok (.lreturn, 1) := by decide +kernel
theorem dX4_next_39 : decode cX4_next 39 = .ok (.aload_n 0, 1) := by decide +kernel
theorem dX4_next_40 : decode cX4_next 40 = .ok (.aload_n 0, 1) := by decide +kernel
theorem dX4_next_41 : decode cX4_next 41 = .ok (.getfield 23, 3) := by decide +kernel
theorem dX4_next_44 : decode cX4_next 44 = .ok (.iload_n 1, 1) := by decide +kernel
theorem dX4_next_45 : decode cX4_next 45 = .ok (.laload, 1) := by decide +kernel
theorem dX4_next_46 : decode cX4_next 46 = .ok (.aload_n 0, 1) := by decide +kernel
theorem dX4_next_47 : decode cX4_next 47 = .ok (.getfield 26, 3) := by decide +kernel
theorem dX4_next_50 : decode cX4_next 50 = .ok (.iload_n 1, 1) := by decide +kernel
theorem dX4_next_51 : decode cX4_next 51 = .ok (.iaload, 1) := by decide +kernel
theorem dX4_next_52 : decode cX4_next 52 = .ok (.aload_n 0, 1) := by decide +kernel
theorem dX4_next_53 : decode cX4_next 53 = .ok (.getfield 29, 3) := by decide +kernel
theorem dX4_next_56 : decode cX4_next 56 = .ok (.iload_n 1, 1) := by decide +kernel
theorem dX4_next_57 : decode cX4_next 57 = .ok (.iaload, 1) := by decide +kernel
theorem dX4_next_58 : decode cX4_next 58 = .ok (.lload_n 2, 1) := by decide +kernel
theorem dX4_next_59 : decode cX4_next 59 = .ok (.invokevirtual 122, 3) := by decide +kernel
theorem dX4_next_62 : decode cX4_next 62 = .ok (.lstore 4, 2) := by decide +kernel
theorem dX4_next_64 : decode cX4_next 64 = .ok (.aload_n 0, 1) := by decide +kernel
theorem dX4_next_65 : decode cX4_next 65 = .ok (.getfield 29, 3) := by decide +kernel
theorem dX4_next_68 : decode cX4_next 68 = .ok (.iload_n 1, 1) := by decide +kernel
theorem dX4_next_69 : decode cX4_next 69 = .ok (.dup2, 1) := by decide +kernel
theorem dX4_next_70 : decode cX4_next 70 = .ok (.iaload, 1) := by decide +kernel
theorem dX4_next_71 : decode cX4_next 71 = .ok (.iconst 1, 1) := by decide +kernel
theorem dX4_next_72 : decode cX4_next 72 = .ok (.iadd, 1) := by decide +kernel
theorem dX4_next_73 : decode cX4_next 73 = .ok (.iastore, 1) := by decide +kernel
theorem dX4_next_74 : decode cX4_next 74 = .ok (.lload 4, 2) := by decide +kernel
theorem dX4_next_76 : decode cX4_next 76 = .ok (.lreturn, 1) := by decide +kernel
set_option maxRecDepth 20000 in
theorem ggX4_nextPick_X4_isStream : GoodIn wsX4_nextPick wsX4_isStream := goodIn_r _ [10, 11, 12, 13, 9, 14, 55, 56, 57, 58, 59, 60, 61, 62, 63, 64, 65, 66, 67, 68, 69, 70, 71, 72, 73, 74, 75] (by decide +kernel) (by decide +kernel)
set_option maxRecDepth 20000 in
theorem gX4_nextPick_X4_isStream : GoodIn wsX4_nextPick (wsV RX4 153 RX4 yX4_isStream wsX4_isStream) := goodIn_app (goodIn_of _ (by decide +kernel)) ggX4_nextPick_X4_isStream
set_option maxRecDepth 20000 in
theorem ggX4_nextPick_X4_sum : GoodIn wsX4_nextPick wsX4_sum := goodIn_r _ [18, 3, 19, 55, 56, 57, 58, 59, 60, 61, 62, 63, 64, 65, 66, 67, 68, 69, 70, 71, 72, 73, 74, 75] (by decide +kernel) (by decide +kernel)
set_option maxRecDepth 20000 in
theorem gX4_nextPick_X4_sum : GoodIn wsX4_nextPick (wsV RX4 134 RX4 yX4_sum wsX4_sum) := goodIn_app (goodIn_of _ (by decide +kernel)) ggX4_nextPick_X4_sum
set_option maxRecDepth 20000 in
theorem ggX4_nextPick_X4_picked : GoodIn wsX4_nextPick wsX4_picked := goodIn_r _ [23, 19, 24, 25, 26, 9, 27, 28, 29, 30, 31, 32, 33, 34, 35, 36, 37, 38, 39, 40, 41, 42, 43, 44, 45, 46, 47, 48, 49, 50, 51, 52, 53, 54, 55, 56, 57, 58, 59, 60, 61, 62, 63, 64, 65, 66, 67, 68, 69, 70, 71, 72, 73, 74, 75] (by decide +kernel) (by decide +kernel)
set_option maxRecDepth 20000 in
theorem gX4_nextPick_X4_picked : GoodIn wsX4_nextPick (wsV RX4 138 RX4 yX4_picked wsX4_picked) := goodIn_app (goodIn_of _ (by decide +kernel)) ggX4_nextPick_X4_picked
theorem dX4_nextPick_0 : decode cX4_nextPick 0 = .ok (.aload_n 0, 1) := by decide +kernel
theorem dX4_nextPick_1 : decode cX4_nextPick 1 = .ok (.iload_n 1, 1) := by decide +kernel
theorem dX4_nextPick_2 : decode cX4_nextPick 2 = .ok (.invokevirtual 153, 3) := by decide +kernel
theorem dX4_nextPick_5 : decode cX4_nextPick 5 = .ok (.ifCond .eq 14, 3) := by decide +kernel
theorem dX4_nextPick_8 : decode cX4_nextPick 8 = .ok (.aload_n 0, 1) := by decide +kernel
theorem dX4_nextPick_9 : decode cX4_nextPick 9 = .ok (.getfield 29, 3) := by decide +kernel
theorem dX4_nextPick_12 : decode cX4_nextPick 12 = .ok (.iload_n 1, 1) := by decide +kernel
theorem dX4_nextPick_13 : decode cX4_nextPick 13 = .ok (.iaload, 1) := by decide +kernel
theorem dX4_nextPick_14 : decode cX4_nextPick 14 = .ok (.ldc 156, 2) := by decide +kernel
theorem dX4_nextPick_16 : decode cX4_nextPick 16 = .ok (.if_icmp .ne 5, 3) := by decide +kernel
theorem dX4_nextPick_19 : decode cX4_nextPick 19 = .ok (.iconst (-1), 1) := by decide +kernel
theorem dX4_nextPick_20 : decode cX4_nextPick 20 = .ok (.ireturn, 1) := by decide +kernel
theorem dX4_nextPick_21 : decode cX4_nextPick 21 = .ok (.aload_n 0, 1) := by decide +kernel
theorem dX4_nextPick_22 : decode cX4_nextPick 22 = .ok (.invokevirtual 134, 3) := by decide +kernel
theorem dX4_nextPick_25 : decode cX4_nextPick 25 = .ok (.lstore_n 2, 1) := by decide +kernel
theorem dX4_nextPick_26 : decode cX4_nextPick 26 = .ok (.aload_n 0, 1) := by decide +kernel
theorem dX4_nextPick_27 : decode cX4_nextPick 27 = .ok (.getfield 130, 3) := by decide +kernel
end
section
theorem dX4_nextPick_30 : decode cX4_nextPick 30 = .ok (.ifCond .ne 9, 3) := by decide +kernel
theorem dX4_nextPick_33 : decode cX4_nextPick 33 = .ok (.lload_n 2, 1) := by decide +kernel
theorem dX4_nextPick_34 : decode cX4_nextPick 34 = .ok (.lconst 0, 1) := by decide +kernel
theorem dX4_nextPick_35 : decode cX4_nextPick 35 = .ok (.lcmp, 1) := by decide +kernel
theorem dX4_nextPick_36 : decode cX4_nextPick 36 = .ok (.ifCond .ne 18, 3) := by decide +kernel
theorem dX4_nextPick_39 : decode cX4_nextPick 39 = .ok (.aload_n 0, 1) := by decide +kernel
theorem dX4_nextPick_40 : decode cX4_nextPick 40 = .ok (.getfield 130, 3) := by decide +kernel
theorem dX4_nextPick_43 : decode cX4_nextPick 43 = .ok (.ifCond .eq 8, 3) := by decide +kernel
theorem dX4_nextPick_46 : decode cX4_nextPick 46 = .ok (.bipush (-5), 2) := by decide +kernel
theorem dX4_nextPick_48 : decode cX4_nextPick 48 = .ok (.goto 5, 3) := by decide +kernel
theorem dX4_nextPick_51 : decode cX4_nextPick 51 = .ok (.bipush (-4), 2) := by decide +kernel
theorem dX4_nextPick_53 : decode cX4_nextPick 53 = .ok (.ireturn, 1) := by decide +kernel
theorem dX4_nextPick_54 : decode cX4_nextPick 54 = .ok (.aload_n 0, 1) := by decide +kernel
theorem dX4_nextPick_55 : decode cX4_nextPick 55 = .ok (.aload_n 0, 1) := by decide +kernel
theorem dX4_nextPick_56 : decode cX4_nextPick 56 = .ok (.getfield 23, 3) := by decide +kernel
theorem dX4_nextPick_59 : decode cX4_nextPick 59 = .ok (.iload_n 1, 1) := by decide +kernel
theorem dX4_nextPick_60 : decode cX4_nextPick 60 = .ok (.laload, 1) := by decide +kernel
theorem dX4_nextPick_61 : decode cX4_nextPick 61 = .ok (.aload_n 0, 1) := by decide +kernel
theorem dX4_nextPick_62 : decode cX4_nextPick 62 = .ok (.getfield 26, 3) := by decide +kernel
theorem dX4_nextPick_65 : decode cX4_nextPick 65 = .ok (.iload_n 1, 1) := by decide +kernel
theorem dX4_nextPick_66 : decode cX4_nextPick 66 = .ok (.iaload, 1) := by decide +kernel
theorem dX4_nextPick_67 : decode cX4_nextPick 67 = .ok (.aload_n 0, 1) := by decide +kernel
theorem dX4_nextPick_68 : decode cX4_nextPick 68 = .ok (.getfield 29, 3) := by decide +kernel
theorem dX4_nextPick_71 : decode cX4_nextPick 71 = .ok (.iload_n 1, 1) := by decide +kernel
theorem dX4_nextPick_72 : decode cX4_nextPick 72 = .ok (.iaload, 1) := by decide +kernel
theorem dX4_nextPick_73 : decode cX4_nextPick 73 = .ok (.lload_n 2, 1) := by decide +kernel
theorem dX4_nextPick_74 : decode cX4_nextPick 74 = .ok (.invokevirtual 138, 3) := by decide +kernel
theorem dX4_nextPick_77 : decode cX4_nextPick 77 = .ok (.istore 4, 2) := by decide +kernel
theorem dX4_nextPick_79 : decode cX4_nextPick 79 = .ok (.aload_n 0, 1) := by decide +kernel
theorem dX4_nextPick_80 : decode cX4_nextPick 80 = .ok (.getfield 29, 3) := by decide +kernel
theorem dX4_nextPick_83 : decode cX4_nextPick 83 = .ok (.iload_n 1, 1) := by decide +kernel
theorem dX4_nextPick_84 : decode cX4_nextPick 84 = .ok (.dup2, 1) := by decide +kernel
theorem dX4_nextPick_85 : decode cX4_nextPick 85 = .ok (.iaload, 1) := by decide +kernel
theorem dX4_nextPick_86 : decode cX4_nextPick 86 = .ok (.iconst 1, 1) := by decide +kernel
theorem dX4_nextPick_87 : decode cX4_nextPick 87 = .ok (.iadd, 1) := by decide +kernel
theorem dX4_nextPick_88 : decode cX4_nextPick 88 = .ok (.iastore, 1) := by decide +kernel
theorem dX4_nextPick_89 : decode cX4_nextPick 89 = .ok (.iload 4, 2) := by decide +kernel
theorem dX4_nextPick_91 : decode cX4_nextPick 91 = .ok (.ireturn, 1) := by decide +kernel
set_option maxRecDepth 20000 in
theorem ggX4_split_X4_isStream : GoodIn wsX4_split wsX4_isStream := goodIn_r _ [14, 2, 15, 16, 13, 17, 32, 33, 34, 35, 36, 37, 38, 39, 40, 41, 42, 43, 44, 45, 46, 47, 48, 49, 50, 51, 52] (by decide +kernel) (by decide +kernel)
set_option maxRecDepth 20000 in
theorem gX4_split_X4_isStream : GoodIn wsX4_split (wsV RX4 153 RX4 yX4_isStream wsX4_isStream) := goodIn_app (goodIn_of _ (by decide +kernel)) ggX4_split_X4_isStream
set_option maxRecDepth 20000 in
theorem ggX4_split_X4_takePath : GoodIn wsX4_split wsX4_takePath := goodIn_r _ [21, 22, 3, 4, 7, 6, 23, 24, 25, 13, 26, 32, 33, 34, 35, 36, 37, 38, 39, 40, 41, 42, 43, 44, 45, 46, 47, 48, 49, 50, 51, 52] (by decide +kernel) (by decide +kernel)
set_option maxRecDepth 20000 in
theorem gX4_split_X4_takePath : GoodIn wsX4_split (wsV RX4 79 RX4 yX4_takePath wsX4_takePath) := goodIn_app (goodIn_of _ (by decide +kernel)) ggX4_split_X4_takePath
set_option maxRecDepth 20000 in
theorem ggX4_split_X4_begin : GoodIn wsX4_split wsX4_begin := goodIn_r _ [30, 9, 2, 1, 31, 8, 32, 33, 34, 35, 36, 37, 38, 39, 40, 41, 42, 43, 44, 45, 46, 47, 48, 49, 50, 51, 52] (by decide +kernel) (by decide +kernel)
set_option maxRecDepth 20000 in
theorem gX4_split_X4_begin : GoodIn wsX4_split (wsV RX4 149 RX4 yX4_begin wsX4_begin) := goodIn_app (goodIn_of _ (by decide +kernel)) ggX4_split_X4_begin
theorem dX4_split_0 : decode cX4_split 0 = .ok (.aload_n 0, 1) := by decide +kernel
theorem dX4_split_1 : decode cX4_split 1 = .ok (.iload_n 1, 1) := by decide +kernel
theorem dX4_split_2 : decode cX4_split 2 = .ok (.invokevirtual 153, 3) := by decide +kernel
theorem dX4_split_5 : decode cX4_split 5 = .ok (.ifCond .ne 5, 3) := by decide +kernel
theorem dX4_split_8 : decode cX4_split 8 = .ok (.iconst (-1), 1) := by decide +kernel
theorem dX4_split_9 : decode cX4_split 9 = .ok (.ireturn, 1) := by decide +kernel
theorem dX4_split_10 : decode cX4_split 10 = .ok (.aload_n 0, 1) := by decide +kernel
theorem dX4_split_11 : decode cX4_split 11 = .ok (.getfield 26, 3) := by decide +kernel
theorem dX4_split_14 : decode cX4_split 14 = .ok (.iload_n 1, 1) := by decide +kernel
theorem dX4_split_15 : decode cX4_split 15 = .ok (.iaload, 1) := by decide +kernel
theorem dX4_split_16 : decode cX4_split 16 = .ok (.istore_n 2, 1) := by decide +kernel
theorem dX4_split_17 : decode cX4_split 17 = .ok (.aload_n 0, 1) := by decide +kernel
theorem dX4_split_18 : decode cX4_split 18 = .ok (.getfield 146, 3) := by decide +kernel
theorem dX4_split_21 : decode cX4_split 21 = .ok (.bipush 8, 2) := by decide +kernel
theorem dX4_split_23 : decode cX4_split 23 = .ok (.if_icmp .eq 13, 3) := by decide +kernel
theorem dX4_split_26 : decode cX4_split 26 = .ok (.aload_n 0, 1) := by decide +kernel
theorem dX4_split_27 : decode cX4_split 27 = .ok (.getfield 13, 3) := by decide +kernel
theorem dX4_split_30 : decode cX4_split 30 = .ok (.iload_n 2, 1) := by decide +kernel
theorem dX4_split_31 : decode cX4_split 31 = .ok (.iaload, 1) := by decide +kernel
theorem dX4_split_32 : decode cX4_split 32 = .ok (.iconst 4, 1) := by decide +kernel
theorem dX4_split_33 : decode cX4_split 33 = .ok (.if_icmp .ne 6, 3) := by decide +kernel
theorem dX4_split_36 : decode cX4_split 36 = .ok (.bipush (-2), 2) := by decide +kernel
theorem dX4_split_38 : decode cX4_split 38 = .ok (.ireturn, 1) := by decide +kernel
theorem dX4_split_39 : decode cX4_split 39 = .ok (.aload_n 0, 1) := by decide +kernel
theorem dX4_split_40 : decode cX4_split 40 = .ok (.getfield 68, 3) := by decide +kernel
theorem dX4_split_43 : decode cX4_split 43 = .ok (.istore_n 3, 1) := by decide +kernel
theorem dX4_split_44 : decode cX4_split 44 = .ok (.iconst 0, 1) := by decide +kernel
theorem dX4_split_45 : decode cX4_split 45 = .ok (.istore 4, 2) := by decide +kernel
theorem dX4_split_47 : decode cX4_split 47 = .ok (.iload 4, 2) := by decide +kernel
theorem dX4_split_49 : decode cX4_split 49 = .ok (.iconst 4, 1) := by decide +kernel
theorem dX4_split_50 : decode cX4_split 50 = .ok (.if_icmp .ge 23, 3) := by decide +kernel
theorem dX4_split_53 : decode cX4_split 53 = .ok (.aload_n 0, 1) := by decide +kernel
theorem dX4_split_54 : decode cX4_split 54 = .ok (.getfield 51, 3) := by decide +kernel
theorem dX4_split_57 : decode cX4_split 57 = .ok (.iload 4, 2) := by decide +kernel
theorem dX4_split_59 : decode cX4_split 59 = .ok (.aload_n 0, 1) := by decide +kernel
theorem dX4_split_60 : decode cX4_split 60 = .ok (.getfield 17, 3) := by decide +kernel
theorem dX4_split_63 : decode cX4_split 63 = .ok (.iload 4, 2) := by decide +kernel
theorem dX4_split_65 : decode cX4_split 65 = .ok (.laload, 1) := by decide +kernel
theorem dX4_split_66 : decode cX4_split 66 = .ok (.lastore, 1) := by decide +kernel
theorem dX4_split_67 : decode cX4_split 67 = .ok (.iinc 4 1, 3) := by decide +kernel
theorem dX4_split_70 : decode cX4_split 70 = .ok (.goto (-23), 3) := by decide +kernel
theorem dX4_split_73 : decode cX4_split 73 = .ok (.aload_n 0, 1) := by decide +kernel
theorem dX4_split_74 : decode cX4_split 74 = .ok (.aload_n 0, 1) := by decide +kernel
theorem dX4_split_75 : decode cX4_split 75 = .ok (.getfield 13, 3) := by decide +kernel
theorem dX4_split_78 : decode cX4_split 78 = .ok (.iload_n 2, 1) := by decide +kernel
theorem dX4_split_79 : decode cX4_split 79 = .ok (.iaload, 1) := by decide +kernel
theorem dX4_split_80 : decode cX4_split 80 = .ok (.iconst 1, 1) := by decide +kernel
theorem dX4_split_81 : decode cX4_split 81 = .ok (.iadd, 1) := by decide +kernel
theorem dX4_split_82 : decode cX4_split 82 = .ok (.putfield 68, 3) := by decide +kernel
theorem dX4_split_85 : decode cX4_split 85 = .ok (.iconst 0, 1) := by decide +kernel
theorem dX4_split_86 : decode cX4_split 86 = .ok (.istore 4, 2) := by decide +kernel
theorem dX4_split_88 : decode cX4_split 88 = .ok (.iload 4, 2) := by decide +kernel
theorem dX4_split_90 : decode cX4_split 90 = .ok (.aload_n 0, 1) := by decide +kernel
theorem dX4_split_91 : decode cX4_split 91 = .ok (.getfield 13, 3) := by decide +kernel
theorem dX4_split_94 : decode cX4_split 94 = .ok (.iload_n 2, 1) := by decide +kernel
theorem dX4_split_95 : decode cX4_split 95 = .ok (.iaload, 1) := by decide +kernel
theorem dX4_split_96 : decode cX4_split 96 = .ok (.if_icmp .ge 27, 3) := by decide +kernel
theorem dX4_split_99 : decode cX4_split 99 = .ok (.aload_n 0, 1) := by decide +kernel
theorem dX4_split_100 : decode cX4_split 100 = .ok (.getfield 17, 3) := by decide +kernel
theorem dX4_split_103 : decode cX4_split 103 = .ok (.iload 4, 2) := by decide +kernel
theorem dX4_split_105 : decode cX4_split 105 = .ok (.aload_n 0, 1) := by decide +kernel
theorem dX4_split_106 : decode cX4_split 106 = .ok (.getfield 7, 3) := by decide +kernel
theorem dX4_split_109 : decode cX4_split 109 = .ok (.iconst 4, 1) := by decide +kernel
theorem dX4_split_110 : decode cX4_split 110 = .ok (.iload_n 2, 1) := by decide +kernel
theorem dX4_split_111 : decode cX4_split 111 = .ok (.imul, 1) := by decide +kernel
theorem dX4_split_112 : decode cX4_split 112 = .ok (.iload 4, 2) := by decide +kernel
theorem dX4_split_114 : decode cX4_split 114 = .ok (.iadd, 1) := by decide +kernel
theorem dX4_split_115 : decode cX4_split 115 = .ok (.laload, 1) := by decide +kernel
theorem dX4_split_116 : decode cX4_split 116 = .ok (.lastore, 1) := by decide +kernel
theorem dX4_split_117 : decode cX4_split 117 = .ok (.iinc 4 1, 3) := by decide +kernel
theorem dX4_split_120 : decode cX4_split 120 = .ok (.goto (-32), 3) := by decide +kernel
theorem dX4_split_123 : decode cX4_split 123 = .ok (.aload_n 0, 1) := by decide +kernel
theorem dX4_split_124 : decode cX4_split 124 = .ok (.getfield 17, 3) := by decide +kernel
theorem dX4_split_127 : decode cX4_split 127 = .ok (.aload_n 0, 1) := by decide +kernel
theorem dX4_split_128 : decode cX4_split 128 = .ok (.getfield 13, 3) := by decide +kernel
theorem dX4_split_131 : decode cX4_split 131 = .ok (.iload_n 2, 1) := by decide +kernel
theorem dX4_split_132 : decode cX4_split 132 = .ok (.iaload, 1) := by decide +kernel
theorem dX4_split_133 : decode cX4_split 133 = .ok (.aload_n 0, 1) := by decide +kernel
theorem dX4_split_134 : decode cX4_split 134 = .ok (.getfield 32, 3) := by decide +kernel
theorem dX4_split_137 : decode cX4_split 137 = .ok (.iload_n 1, 1) := by decide +kernel
theorem dX4_split_138 : decode cX4_split 138 = .ok (.iaload, 1) := by decide +kernel
theorem dX4_split_139 : decode cX4_split 139 = .ok (.i2l, 1) := by decide +kernel
theorem dX4_split_140 : decode cX4_split 140 = .ok (.lastore, 1) := by decide +kernel
theorem dX4_split_141 : decode cX4_split 141 = .ok (.aload_n 0, 1) := by decide +kernel
theorem dX4_split_142 : decode cX4_split 142 = .ok (.invokevirtual 79, 3) := by decide +kernel
theorem dX4_split_145 : decode cX4_split 145 = .ok (.istore 4, 2) := by decide +kernel
theorem dX4_split_147 : decode cX4_split 147 = .ok (.aload_n 0, 1) := by decide +kernel
theorem dX4_split_148 : decode cX4_split 148 = .ok (.iload_n 3, 1) := by decide +kernel
theorem dX4_split_149 : decode cX4_split 149 = .ok (.putfield 68, 3) := by decide +kernel
theorem dX4_split_152 : decode cX4_split 152 = .ok (.iconst 0, 1) := by decide +kernel
theorem dX4_split_153 : decode cX4_split 153 = .ok (.istore 5, 2) := by decide +kernel
theorem dX4_split_155 : decode cX4_split 155 = .ok (.iload 5, 2) := by decide +kernel
theorem dX4_split_157 : decode cX4_split 157 = .ok (.iconst 4, 1) := by decide +kernel
theorem dX4_split_158 : decode cX4_split 158 = .ok (.if_icmp .ge 23, 3) := by decide +kernel
theorem dX4_split_161 : decode cX4_split 161 = .ok (.aload_n 0, 1) := by decide +kernel
theorem dX4_split_162 : decode cX4_split 162 = .ok (.getfield 17, 3) := by decide +kernel
theorem dX4_split_165 : decode cX4_split 165 = .ok (.iload 5, 2) := by decide +kernel
theorem dX4_split_167 : decode cX4_split 167 = .ok (.aload_n 0, 1) := by decide +kernel
theorem dX4_split_168 : decode cX4_split 168 = .ok (.getfield 51, 3) := by decide +kernel
theorem dX4_split_171 : decode cX4_split 171 = .ok (.iload 5, 2) := by decide +kernel
theorem dX4_split_173 : decode cX4_split 173 = .ok (.laload, 1) := by decide +kernel
theorem dX4_split_174 : decode cX4_split 174 = .ok (.lastore, 1) := by decide +kernel
theorem dX4_split_175 : decode cX4_split 175 = .ok (.iinc 5 1, 3) := by decide +kernel
theorem dX4_split_178 : decode cX4_split 178 = .ok (.goto (-23), 3) := by decide +kernel
theorem dX4_split_181 : decode cX4_split 181 = .ok (.iload 4, 2) := by decide +kernel
theorem dX4_split_183 : decode cX4_split 183 = .ok (.ifCond .ge 6, 3) := by decide +kernel
theorem dX4_split_186 : decode cX4_split 186 = .ok (.bipush (-2), 2) := by decide +kernel
theorem dX4_split_188 : decode cX4_split 188 = .ok (.ireturn, 1) := by decide +kernel
theorem dX4_split_189 : decode cX4_split 189 = .ok (.aload_n 0, 1) := by decide +kernel
theorem dX4_split_190 : decode cX4_split 190 = .ok (.getfield 32, 3) := by decide +kernel
theorem dX4_split_193 : decode cX4_split 193 = .ok (.iload_n 1, 1) := by decide +kernel
theorem dX4_split_194 : decode cX4_split 194 = .ok (.dup2, 1) := by decide +kernel
theorem dX4_split_195 : decode cX4_split 195 = .ok (.iaload, 1) := by decide +kernel
theorem dX4_split_196 : decode cX4_split 196 = .ok (.iconst 1, 1) := by decide +kernel
theorem dX4_split_197 : decode cX4_split 197 = .ok (.iadd, 1) := by decide +kernel
theorem dX4_split_198 : decode cX4_split 198 = .ok (.iastore, 1) := by decide +kernel
theorem dX4_split_199 : decode cX4_split 199 = .ok (.aload_n 0, 1) := by decide +kernel
theorem dX4_split_200 : decode cX4_split 200 = .ok (.aload_n 0, 1) := by decide +kernel
theorem dX4_split_201 : decode cX4_split 201 = .ok (.getfield 23, 3) := by decide +kernel
theorem dX4_split_204 : decode cX4_split 204 = .ok (.iload_n 1, 1) := by decide +kernel
theorem dX4_split_205 : decode cX4_split 205 = .ok (.laload, 1) := by decide +kernel
theorem dX4_split_206 : decode cX4_split 206 = .ok (.iload 4, 2) := by decide +kernel
theorem dX4_split_208 : decode cX4_split 208 = .ok (.invokevirtual 149, 3) := by decide +kernel
theorem dX4_split_211 : decode cX4_split 211 = .ok (.ireturn, 1) := by decide +kernel
set_option maxRecDepth 20000 in
theorem ggX4_skip_X4_isStream : GoodIn wsX4_skip wsX4_isStream := goodIn_r _ [8, 9, 10, 11, 7, 12, 13, 14, 15, 16, 17, 18, 19, 20, 21, 22, 23, 24, 25, 26, 27, 28, 29, 30, 31, 32, 33] (by decide +kernel) (by decide +kernel)
set_option maxRecDepth 20000 in
theorem gX4_skip_X4_isStream : GoodIn wsX4_skip (wsV RX4 153 RX4 yX4_isStream wsX4_isStream) := goodIn_app (goodIn_of _ (by decide +kernel)) ggX4_skip_X4_isStream
set_option maxRecDepth 20000 in
theorem ggX4_skip_X4_in : GoodIn wsX4_skip wsX4_in := goodIn_r _ [12] (by decide +kernel) (by decide +kernel)
set_option maxRecDepth 20000 in
theorem gX4_skip_X4_in : GoodIn wsX4_skip (va_wsS RX4 82 yX4_in wsX4_in) := goodIn_app (goodIn_of _ (by decide +kernel)) ggX4_skip_X4_in
theorem dX4_skip_0 : decode cX4_skip 0 = .ok (.aload_n 0, 1) := by decide +kernel
theorem dX4_skip_1 : decode cX4_skip 1 = .ok (.iload_n 1, 1) := by decide +kernel
theorem dX4_skip_2 : decode cX4_skip 2 = .ok (.invokevirtual 153, 3) := by decide +kernel
theorem dX4_skip_5 : decode cX4_skip 5 = .ok (.ifCond .eq 32, 3) := by decide +kernel
theorem dX4_skip_8 : decode cX4_skip 8 = .ok (.iload_n 2, 1) := by decide +kernel
theorem dX4_skip_9 : decode cX4_skip 9 = .ok (.i2l, 1) := by decide +kernel
theorem dX4_skip_10 : decode cX4_skip 10 = .ok (.lconst 0, 1) := by decide +kernel
theorem dX4_skip_11 : decode cX4_skip 11 = .ok (.ldc2_w 157, 3) := by decide +kernel
theorem dX4_skip_14 : decode cX4_skip 14 = .ok (.invokestatic 82, 3) := by decide +kernel
theorem dX4_skip_17 : decode cX4_skip 17 = .ok (.ifCond .eq 20, 3) := by decide +kernel
theorem dX4_skip_20 : decode cX4_skip 20 = .ok (.aload_n 0, 1) := by decide +kernel
theorem dX4_skip_21 : decode cX4_skip 21 = .ok (.getfield 29, 3) := by decide +kernel
theorem dX4_skip_24 : decode cX4_skip 24 = .ok (.iload_n 1, 1) := by decide +kernel
theorem dX4_skip_25 : decode cX4_skip 25 = .ok (.iaload, 1) := by decide +kernel
theorem dX4_skip_26 : decode cX4_skip 26 = .ok (.i2l, 1) := by decide +kernel
theorem dX4_skip_27 : decode cX4_skip 27 = .ok (.iload_n 2, 1) := by decide +kernel
theorem dX4_skip_28 : decode cX4_skip 28 = .ok (.i2l, 1) := by decide +kernel
theorem dX4_skip_29 : decode cX4_skip 29 = .ok (.ladd, 1) := by decide +kernel
theorem dX4_skip_30 : decode cX4_skip 30 = .ok (.ldc2_w 144, 3) := by decide +kernel
theorem dX4_skip_33 : decode cX4_skip 33 = .ok (.lcmp, 1) := by decide +kernel
theorem dX4_skip_34 : decode cX4_skip 34 = .ok (.ifCond .le 5, 3) := by decide +kernel
theorem dX4_skip_37 : decode cX4_skip 37 = .ok (.iconst (-1), 1) := by decide +kernel
theorem dX4_skip_38 : decode cX4_skip 38 = .ok (.ireturn, 1) := by decide +kernel
theorem dX4_skip_39 : decode cX4_skip 39 = .ok (.aload_n 0, 1) := by decide +kernel
theorem dX4_skip_40 : decode cX4_skip 40 = .ok (.getfield 29, 3) := by decide +kernel
theorem dX4_skip_43 : decode cX4_skip 43 = .ok (.iload_n 1, 1) := by decide +kernel
theorem dX4_skip_44 : decode cX4_skip 44 = .ok (.dup2, 1) := by decide +kernel
theorem dX4_skip_45 : decode cX4_skip 45 = .ok (.iaload, 1) := by decide +kernel
theorem dX4_skip_46 : decode cX4_skip 46 = .ok (.iload_n 2, 1) := by decide +kernel
theorem dX4_skip_47 : decode cX4_skip 47 = .ok (.iadd, 1) := by decide +kernel
theorem dX4_skip_48 : decode cX4_skip 48 = .ok (.iastore, 1) := by decide +kernel
theorem dX4_skip_49 : decode cX4_skip 49 = .ok (.aload_n 0, 1) := by decide +kernel
theorem dX4_skip_50 : decode cX4_skip 50 = .ok (.getfield 29, 3) := by decide +kernel
theorem dX4_skip_53 : decode cX4_skip 53 = .ok (.iload_n 1, 1) := by decide +kernel
theorem dX4_skip_54 : decode cX4_skip 54 = .ok (.iaload, 1) := by decide +kernel
theorem dX4_skip_55 : decode cX4_skip 55 = .ok (.ireturn, 1) := by decide +kernel
set_option maxRecDepth 20000 in
theorem ggX4_keep_X4_in : GoodIn wsX4_keep wsX4_in := goodIn_r _ [11] (by decide +kernel) (by decide +kernel)
set_option maxRecDepth 20000 in
theorem gX4_keep_X4_in : GoodIn wsX4_keep (va_wsS RX4 82 yX4_in wsX4_in) := goodIn_app (goodIn_of _ (by decide +kernel)) ggX4_keep_X4_in
set_option maxRecDepth 20000 in
theorem ggX4_keep_X4_isStream : GoodIn wsX4_keep wsX4_isStream := goodIn_r _ [15, 16, 8, 9, 10, 11, 17, 18, 19, 20, 21, 22, 23, 24, 25, 26, 27, 28, 29, 30, 31, 32, 33, 34, 35, 36, 37] (by decide +kernel) (by decide +kernel)
set_option maxRecDepth 20000 in
theorem gX4_keep_X4_isStream : GoodIn wsX4_keep (wsV RX4 153 RX4 yX4_isStream wsX4_isStream) := goodIn_app (goodIn_of _ (by decide +kernel)) ggX4_keep_X4_isStream
theorem dX4_keep_0 : decode cX4_keep 0 = .ok (.iload_n 1, 1) := by decide +kernel
theorem dX4_keep_1 : decode cX4_keep 1 = .ok (.i2l, 1) := by decide +kernel
theorem dX4_keep_2 : decode cX4_keep 2 = .ok (.lconst 0, 1) := by decide +kernel
theorem dX4_keep_3 : decode cX4_keep 3 = .ok (.ldc2_w 159, 3) := by decide +kernel
theorem dX4_keep_6 : decode cX4_keep 6 = .ok (.invokestatic 82, 3) := by decide +kernel
theorem dX4_keep_9 : decode cX4_keep 9 = .ok (.ifCond .eq 11, 3) := by decide +kernel
theorem dX4_keep_12 : decode cX4_keep 12 = .ok (.aload_n 0, 1) := by decide +kernel
theorem dX4_keep_13 : decode cX4_keep 13 = .ok (.iload_n 2, 1) := by decide +kernel
theorem dX4_keep_14 : decode cX4_keep 14 = .ok (.invokevirtual 153, 3) := by decide +kernel
theorem dX4_keep_17 : decode cX4_keep 17 = .ok (.ifCond .ne 5, 3) := by decide +kernel
theorem dX4_keep_20 : decode cX4_keep 20 = .ok (.iconst (-1), 1) := by decide +kernel
theorem dX4_keep_21 : decode cX4_keep 21 = .ok (.ireturn, 1) := by decide +kernel
theorem dX4_keep_22 : decode cX4_keep 22 = .ok (.aload_n 0, 1) := by decide +kernel
theorem dX4_keep_23 : decode cX4_keep 23 = .ok (.getfield 44, 3) := by decide +kernel
theorem dX4_keep_26 : decode cX4_keep 26 = .ok (.iload_n 1, 1) := by decide +kernel
theorem dX4_keep_27 : decode cX4_keep 27 = .ok (.iconst 1, 1) := by decide +kernel
theorem dX4_keep_28 : decode cX4_keep 28 = .ok (.bastore, 1) := by decide +kernel
theorem dX4_keep_29 : decode cX4_keep 29 = .ok (.aload_n 0, 1) := by decide +kernel
theorem dX4_keep_30 : decode cX4_keep 30 = .ok (.getfield 35, 3) := by decide +kernel
theorem dX4_keep_33 : decode cX4_keep 33 = .ok (.iload_n 1, 1) := by decide +kernel
theorem dX4_keep_34 : decode cX4_keep 34 = .ok (.iload_n 2, 1) := by decide +kernel
theorem dX4_keep_35 : decode cX4_keep 35 = .ok (.iastore, 1) := by decide +kernel
theorem dX4_keep_36 : decode cX4_keep 36 = .ok (.aload_n 0, 1) := by decide +kernel
theorem dX4_keep_37 : decode cX4_keep 37 = .ok (.getfield 38, 3) := by decide +kernel
theorem dX4_keep_40 : decode cX4_keep 40 = .ok (.iload_n 1, 1) := by decide +kernel
theorem dX4_keep_41 : decode cX4_keep 41 = .ok (.aload_n 0, 1) := by decide +kernel
theorem dX4_keep_42 : decode cX4_keep 42 = .ok (.getfield 29, 3) := by decide +kernel
theorem dX4_keep_45 : decode cX4_keep 45 = .ok (.iload_n 2, 1) := by decide +kernel
theorem dX4_keep_46 : decode cX4_keep 46 = .ok (.iaload, 1) := by decide +kernel
theorem dX4_keep_47 : decode cX4_keep 47 = .ok (.iastore, 1) := by decide +kernel
theorem dX4_keep_48 : decode cX4_keep 48 = .ok (.aload_n 0, 1) := by decide +kernel
theorem dX4_keep_49 : decode cX4_keep 49 = .ok (.getfield 41, 3) := by decide +kernel
theorem dX4_keep_52 : decode cX4_keep 52 = .ok (.iload_n 1, 1) := by decide +kernel
theorem dX4_keep_53 : decode cX4_keep 53 = .ok (.aload_n 0, 1) := by decide +kernel
theorem dX4_keep_54 : decode cX4_keep 54 = .ok (.getfield 32, 3) := by decide +kernel
theorem dX4_keep_57 : decode cX4_keep 57 = .ok (.iload_n 2, 1) := by decide +kernel
theorem dX4_keep_58 : decode cX4_keep 58 = .ok (.iaload, 1) := by decide +kernel
theorem dX4_keep_59 : decode cX4_keep 59 = .ok (.iastore, 1) := by decide +kernel
theorem dX4_keep_60 : decode cX4_keep 60 = .ok (.aload_n 0, 1) := by decide +kernel
theorem dX4_keep_61 : decode cX4_keep 61 = .ok (.getfield 29, 3) := by decide +kernel
theorem dX4_keep_64 : decode cX4_keep 64 = .ok (.iload_n 2, 1) := by decide +kernel
theorem dX4_keep_65 : decode cX4_keep 65 = .ok (.iaload, 1) := by decide +kernel
theorem dX4_keep_66 : decode cX4_keep 66 = .ok (.ireturn, 1) := by decide +kernel
set_option maxRecDepth 20000 in
theorem ggX4_back_X4_in : GoodIn wsX4_back wsX4_in := goodIn_r _ [11] (by decide +kernel) (by decide +kernel)
set_option maxRecDepth 20000 in
theorem gX4_back_X4_in : GoodIn wsX4_back (va_wsS RX4 82 yX4_in wsX4_in) := goodIn_app (goodIn_of _ (by decide +kernel)) ggX4_back_X4_in
theorem dX4_back_0 : decode cX4_back 0 = .ok (.iload_n 1, 1) := by decide +kernel
theorem dX4_back_1 : decode cX4_back 1 = .ok (.i2l, 1) := by decide +kernel
theorem dX4_back_2 : decode cX4_back 2 = .ok (.lconst 0, 1) := by decide +kernel
theorem dX4_back_3 : decode cX4_back 3 = .ok (.ldc2_w 159, 3) := by decide +kernel
theorem dX4_back_6 : decode cX4_back 6 = .ok (.invokestatic 82, 3) := by decide +kernel
theorem dX4_back_9 : decode cX4_back 9 = .ok (.ifCond .ne 5, 3) := by decide +kernel
theorem dX4_back_12 : decode cX4_back 12 = .ok (.iconst (-1), 1) := by decide +kernel
theorem dX4_back_13 : decode cX4_back 13 = .ok (.ireturn, 1) := by decide +kernel
theorem dX4_back_14 : decode cX4_back 14 = .ok (.aload_n 0, 1) := by decide +kernel
theorem dX4_back_15 : decode cX4_back 15 = .ok (.getfield 44, 3) := by decide +kernel
theorem dX4_back_18 : decode cX4_back 18 = .ok (.iload_n 1, 1) := by decide +kernel
theorem dX4_back_19 : decode cX4_back 19 = .ok (.baload, 1) := by decide +kernel
theorem dX4_back_20 : decode cX4_back 20 = .ok (.ifCond .ne 6, 3) := by decide +kernel
theorem dX4_back_23 : decode cX4_back 23 = .ok (.bipush (-3), 2) := by decide +kernel
theorem dX4_back_25 : decode cX4_back 25 = .ok (.ireturn, 1) := by decide +kernel
theorem dX4_back_26 : decode cX4_back 26 = .ok (.aload_n 0, 1) := by decide +kernel
theorem dX4_back_27 : decode cX4_back 27 = .ok (.getfield 35, 3) := by decide +kernel
theorem dX4_back_30 : decode cX4_back 30 = .ok (.iload_n 1, 1) := by decide +kernel
theorem dX4_back_31 : decode cX4_back 31 = .ok (.iaload, 1) := by decide +kernel
theorem dX4_back_32 : decode cX4_back 32 = .ok (.istore_n 2, 1) := by decide +kernel
theorem dX4_back_33 : decode cX4_back 33 = .ok (.aload_n 0, 1) := by decide +kernel
theorem dX4_back_34 : decode cX4_back 34 = .ok (.getfield 29, 3) := by decide +kernel
theorem dX4_back_37 : decode cX4_back 37 = .ok (.iload_n 2, 1) := by decide +kernel
theorem dX4_back_38 : decode cX4_back 38 = .ok (.aload_n 0, 1) := by decide +kernel
theorem dX4_back_39 : decode cX4_back 39 = .ok (.getfield 38, 3) := by decide +kernel
theorem dX4_back_42 : decode cX4_back 42 = .ok (.iload_n 1, 1) := by decide +kernel
theorem dX4_back_43 : decode cX4_back 43 = .ok (.iaload, 1) := by decide +kernel
theorem dX4_back_44 : decode cX4_back 44 = .ok (.iastore, 1) := by decide +kernel
theorem dX4_back_45 : decode cX4_back 45 = .ok (.aload_n 0, 1) := by decide +kernel
theorem dX4_back_46 : decode cX4_back 46 = .ok (.getfield 32, 3) := by decide +kernel
theorem dX4_back_49 : decode cX4_back 49 = .ok (.iload_n 2, 1) := by decide +kernel
theorem dX4_back_50 : decode cX4_back 50 = .ok (.aload_n 0, 1) := by decide +kernel
theorem dX4_back_51 : decode cX4_back 51 = .ok (.getfield 41, 3) := by decide +kernel
theorem dX4_back_54 : decode cX4_back 54 = .ok (.iload_n 1, 1) := by decide +kernel
theorem dX4_back_55 : decode cX4_back 55 = .ok (.iaload, 1) := by decide +kernel
theorem dX4_back_56 : decode cX4_back 56 = .ok (.iastore, 1) := by decide +kernel
theorem dX4_back_57 : decode cX4_back 57 = .ok (.iload_n 2, 1) := by decide +kernel
theorem dX4_back_58 : decode cX4_back 58 = .ok (.ireturn, 1) := by decide +kernel
set_option maxRecDepth 20000 in
theorem ggX4_told_X4_isStream : GoodIn wsX4_told wsX4_isStream := goodIn_r _ [9, 10, 11, 12, 8, 13, 14, 15, 16, 17, 18, 19, 20, 21, 22, 23, 24, 25, 26, 27, 28, 29, 30, 31, 32, 33, 34] (by decide +kernel) (by decide +kernel)
set_option maxRecDepth 20000 in
theorem gX4_told_X4_isStream : GoodIn wsX4_told (wsV RX4 153 RX4 yX4_isStream wsX4_isStream) := goodIn_app (goodIn_of _ (by decide +kernel)) ggX4_told_X4_isStream
set_option maxRecDepth 20000 in
theorem ggX4_told_X4_in : GoodIn wsX4_told wsX4_in := goodIn_r _ [13] (by decide +kernel) (by decide +kernel)
set_option maxRecDepth 20000 in
theorem gX4_told_X4_in : GoodIn wsX4_told (va_wsS RX4 82 yX4_in wsX4_in) := goodIn_app (goodIn_of _ (by decide +kernel)) ggX4_told_X4_in
theorem dX4_told_0 : decode cX4_told 0 = .ok (.aload_n 0, 1) := by decide +kernel
theorem dX4_told_1 : decode cX4_told 1 = .ok (.iload_n 1, 1) := by decide +kernel
theorem dX4_told_2 : decode cX4_told 2 = .ok (.invokevirtual 153, 3) := by decide +kernel
theorem dX4_told_5 : decode cX4_told 5 = .ok (.ifCond .eq 15, 3) := by decide +kernel
theorem dX4_told_8 : decode cX4_told 8 = .ok (.iload_n 2, 1) := by decide +kernel
theorem dX4_told_9 : decode cX4_told 9 = .ok (.i2l, 1) := by decide +kernel
theorem dX4_told_10 : decode cX4_told 10 = .ok (.lconst 0, 1) := by decide +kernel
theorem dX4_told_11 : decode cX4_told 11 = .ok (.ldc2_w 126, 3) := by decide +kernel
theorem dX4_told_14 : decode cX4_told 14 = .ok (.invokestatic 82, 3) := by decide +kernel
theorem dX4_told_17 : decode cX4_told 17 = .ok (.ifCond .ne 5, 3) := by decide +kernel
theorem dX4_told_20 : decode cX4_told 20 = .ok (.iconst (-1), 1) := by decide +kernel
theorem dX4_told_21 : decode cX4_told 21 = .ok (.ireturn, 1) := by decide +kernel
theorem dX4_told_22 : decode cX4_told 22 = .ok (.iload_n 2, 1) := by decide +kernel
theorem dX4_told_23 : decode cX4_told 23 = .ok (.ifCond .ne 12, 3) := by decide +kernel
theorem dX4_told_26 : decode cX4_told 26 = .ok (.aload_n 0, 1) := by decide +kernel
theorem dX4_told_27 : decode cX4_told 27 = .ok (.getfield 26, 3) := by decide +kernel
theorem dX4_told_30 : decode cX4_told 30 = .ok (.iload_n 1, 1) := by decide +kernel
theorem dX4_told_31 : decode cX4_told 31 = .ok (.iaload, 1) := by decide +kernel
theorem dX4_told_32 : decode cX4_told 32 = .ok (.goto 23, 3) := by decide +kernel
theorem dX4_told_35 : decode cX4_told 35 = .ok (.iload_n 2, 1) := by decide +kernel
theorem dX4_told_36 : decode cX4_told 36 = .ok (.iconst 1, 1) := by decide +kernel
theorem dX4_told_37 : decode cX4_told 37 = .ok (.if_icmp .ne 12, 3) := by decide +kernel
theorem dX4_told_40 : decode cX4_told 40 = .ok (.aload_n 0, 1) := by decide +kernel
theorem dX4_told_41 : decode cX4_told 41 = .ok (.getfield 29, 3) := by decide +kernel
theorem dX4_told_44 : decode cX4_told 44 = .ok (.iload_n 1, 1) := by decide +kernel
theorem dX4_told_45 : decode cX4_told 45 = .ok (.iaload, 1) := by decide +kernel
theorem dX4_told_46 : decode cX4_told 46 = .ok (.goto 9, 3) := by decide +kernel
theorem dX4_told_49 : decode cX4_told 49 = .ok (.aload_n 0, 1) := by decide +kernel
theorem dX4_told_50 : decode cX4_told 50 = .ok (.getfield 32, 3) := by decide +kernel
theorem dX4_told_53 : decode cX4_told 53 = .ok (.iload_n 1, 1) := by decide +kernel
theorem dX4_told_54 : decode cX4_told 54 = .ok (.iaload, 1) := by decide +kernel
theorem dX4_told_55 : decode cX4_told 55 = .ok (.ireturn, 1) := by decide +kernel
set_option maxRecDepth 20000 in
theorem ggX4_counted_X4_in : GoodIn wsX4_counted wsX4_in := goodIn_r _ [6] (by decide +kernel) (by decide +kernel)
set_option maxRecDepth 20000 in
theorem gX4_counted_X4_in : GoodIn wsX4_counted (va_wsS RX4 82 yX4_in wsX4_in) := goodIn_app (goodIn_of _ (by decide +kernel)) ggX4_counted_X4_in
theorem dX4_counted_0 : decode cX4_counted 0 = .ok (.iload_n 1, 1) := by decide +kernel
theorem dX4_counted_1 : decode cX4_counted 1 = .ok (.i2l, 1) := by decide +kernel
theorem dX4_counted_2 : decode cX4_counted 2 = .ok (.lconst 1, 1) := by decide +kernel
theorem dX4_counted_3 : decode cX4_counted 3 = .ok (.ldc2_w 161, 3) := by decide +kernel
theorem dX4_counted_6 : decode cX4_counted 6 = .ok (.invokestatic 82, 3) := by decide +kernel
theorem dX4_counted_9 : decode cX4_counted 9 = .ok (.ifCond .eq 28, 3) := by decide +kernel
theorem dX4_counted_12 : decode cX4_counted 12 = .ok (.iload_n 2, 1) := by decide +kernel
theorem dX4_counted_13 : decode cX4_counted 13 = .ok (.i2l, 1) := by decide +kernel
theorem dX4_counted_14 : decode cX4_counted 14 = .ok (.lconst 1, 1) := by decide +kernel
theorem dX4_counted_15 : decode cX4_counted 15 = .ok (.ldc2_w 163, 3) := by decide +kernel
theorem dX4_counted_18 : decode cX4_counted 18 = .ok (.invokestatic 82, 3) := by decide +kernel
theorem dX4_counted_21 : decode cX4_counted 21 = .ok (.ifCond .eq 16, 3) := by decide +kernel
theorem dX4_counted_24 : decode cX4_counted 24 = .ok (.iload_n 3, 1) := by decide +kernel
theorem dX4_counted_25 : decode cX4_counted 25 = .ok (.i2l, 1) := by decide +kernel
theorem dX4_counted_26 : decode cX4_counted 26 = .ok (.lconst 0, 1) := by decide +kernel
theorem dX4_counted_27 : decode cX4_counted 27 = .ok (.iload_n 2, 1) := by decide +kernel
theorem dX4_counted_28 : decode cX4_counted 28 = .ok (.iconst 1, 1) := by decide +kernel
theorem dX4_counted_29 : decode cX4_counted 29 = .ok (.isub, 1) := by decide +kernel
theorem dX4_counted_30 : decode cX4_counted 30 = .ok (.i2l, 1) := by decide +kernel
theorem dX4_counted_31 : decode cX4_counted 31 = .ok (.invokestatic 82, 3) := by decide +kernel
theorem dX4_counted_34 : decode cX4_counted 34 = .ok (.ifCond .ne 5, 3) := by decide +kernel
theorem dX4_counted_37 : decode cX4_counted 37 = .ok (.iconst (-1), 1) := by decide +kernel
theorem dX4_counted_38 : decode cX4_counted 38 = .ok (.ireturn, 1) := by decide +kernel
theorem dX4_counted_39 : decode cX4_counted 39 = .ok (.iconst 1, 1) := by decide +kernel
theorem dX4_counted_40 : decode cX4_counted 40 = .ok (.iload_n 1, 1) := by decide +kernel
theorem dX4_counted_41 : decode cX4_counted 41 = .ok (.ishl, 1) := by decide +kernel
theorem dX4_counted_42 : decode cX4_counted 42 = .ok (.iload_n 2, 1) := by decide +kernel
theorem dX4_counted_43 : decode cX4_counted 43 = .ok (.idiv, 1) := by decide +kernel
theorem dX4_counted_44 : decode cX4_counted 44 = .ok (.ireturn, 1) := by decide +kernel
theorem dX4_count_0 : decode cX4_count 0 = .ok (.iload_n 1, 1) := by decide +kernel
theorem dX4_count_1 : decode cX4_count 1 = .ok (.ifCond .ne 10, 3) := by decide +kernel
theorem dX4_count_4 : decode cX4_count 4 = .ok (.aload_n 0, 1) := by decide +kernel
theorem dX4_count_5 : decode cX4_count 5 = .ok (.getfield 72, 3) := by decide +kernel
theorem dX4_count_8 : decode cX4_count 8 = .ok (.goto 28, 3) := by decide +kernel
theorem dX4_count_11 : decode cX4_count 11 = .ok (.iload_n 1, 1) := by decide +kernel
theorem dX4_count_12 : decode cX4_count 12 = .ok (.iconst 1, 1) := by decide +kernel
theorem dX4_count_13 : decode cX4_count 13 = .ok (.if_icmp .ne 10, 3) := by decide +kernel
theorem dX4_count_16 : decode cX4_count 16 = .ok (.aload_n 0, 1) := by decide +kernel
theorem dX4_count_17 : decode cX4_count 17 = .ok (.getfield 146, 3) := by decide +kernel
theorem dX4_count_20 : decode cX4_count 20 = .ok (.goto 16, 3) := by decide +kernel
theorem dX4_count_23 : decode cX4_count 23 = .ok (.iload_n 1, 1) := by decide +kernel
theorem dX4_count_24 : decode cX4_count 24 = .ok (.iconst 2, 1) := by decide +kernel
theorem dX4_count_25 : decode cX4_count 25 = .ok (.if_icmp .ne 10, 3) := by decide +kernel
theorem dX4_count_28 : decode cX4_count 28 = .ok (.aload_n 0, 1) := by decide +kernel
theorem dX4_count_29 : decode cX4_count 29 = .ok (.getfield 68, 3) := by decide +kernel
theorem dX4_count_32 : decode cX4_count 32 = .ok (.goto 4, 3) := by decide +kernel
theorem dX4_count_35 : decode cX4_count 35 = .ok (.iconst (-1), 1) := by decide +kernel
theorem dX4_count_36 : decode cX4_count 36 = .ok (.ireturn, 1) := by decide +kernel
end
section
/-! MY KIT: contracts over one world that holds everything (the callee's cells first, all else behind them): no frame has to be joined -/
def nkN (U : State) : Prop := va_Nw (.methodLinkNest RX3 19 yX1_init RX3) U ∧ va_Nw (.methodLinkNest RX1 42 yX3_mix RX3) U ∧ va_Nw (.methodLinkNest RX3 121 yX0_init RX3) U ∧ va_AO "NamedStreams$Stream" U ∧ va_AO "NamedStreams$Kept" U
def nkK (D : va_G) (tys : List (ClassId × FieldType)) (U : State) : Prop := va_K D vwCl tys U ∧ nkN U
theorem nkK.calling {D : va_G} {tys : List (ClassId × FieldType)} {U : State} (h : nkK D tys U) (g : JFrame) (mk : MethodId) (a : Array Value) : nkK D tys (U.calling g mk a) :=
  ⟨va_K.moved (u := U) (U := U.calling g mk a) (Vm.Alike.refl U.vm) h.1, va_Nw.same rfl rfl h.2.1, va_Nw.same rfl rfl h.2.2.1, va_Nw.same rfl rfl h.2.2.2.1, va_AO.moved (u := U) (U := U.calling g mk a) (Vm.Alike.refl U.vm) h.2.2.2.2.1, va_AO.moved (u := U) (U := U.calling g mk a) (Vm.Alike.refl U.vm) h.2.2.2.2.2⟩
theorem nkK.warm {D : va_G} {tys : List (ClassId × FieldType)} {s U : State} (hW : s.WarmedH U.vm) (h : nkK D tys s) : nkK D tys U :=
  ⟨va_K.moved hW.alike h.1, va_Nw.warmM hW h.2.1, va_Nw.warmM hW h.2.2.1, va_Nw.warmM hW h.2.2.2.1, va_AO.moved hW.alike h.2.2.2.2.1, va_AO.moved hW.alike h.2.2.2.2.2⟩
def nkC (D : va_G) (tys : List (ClassId × FieldType)) (w : va_W) (sz : Nat) (U : State) : Prop := U.heap.size = sz ∧ va_P D vwCl w U.heap ∧ nkK D tys U ∧ va_D (fun _ => True) w
def nkB {S : Type} (D : va_G) (A : Nat → Prop) (g : S → va_W) (u : S) (t : State) : Prop := va_P D vwCl (g u) t.heap ∧ va_D A (g u)
def nkR (D : va_G) (tys : List (ClassId × FieldType)) (w : va_W) (U : State) : Prop := va_P D vwCl w U.heap ∧ nkK D tys U
/-- contracts of methods that write: int, long, void -/
abbrev nkMI {S : Type} (l : Launch) (y : MethodName) (ws : List Cond) (rm : Room) (D : va_G) (tys : List (ClassId × FieldType)) (av : List Value) (w : va_W) (g : S → va_W) (post : Int32 → S → Prop) (mc ms : Nat) : Prop := ∀ sz : Nat, Met l y ws rm (va_Pc av (nkC D tys w sz)) (va_Qi post (nkB D (va_A w sz) g) (va_A w sz)) mc ms (va_A w sz)
abbrev nkML {S : Type} (l : Launch) (y : MethodName) (ws : List Cond) (rm : Room) (D : va_G) (tys : List (ClassId × FieldType)) (av : List Value) (w : va_W) (g : S → va_W) (post : Int64 → S → Prop) (mc ms : Nat) : Prop := ∀ sz : Nat, Met l y ws rm (va_Pc av (nkC D tys w sz)) (va_Ql post (nkB D (va_A w sz) g) (va_A w sz)) mc ms (va_A w sz)
abbrev nkMV {S : Type} (l : Launch) (y : MethodName) (ws : List Cond) (rm : Room) (D : va_G) (tys : List (ClassId × FieldType)) (av : List Value) (w : va_W) (g : S → va_W) (post : S → Prop) (mc ms : Nat) : Prop := ∀ sz : Nat, Met l y ws rm (va_Pc av (nkC D tys w sz)) (va_Qv post (nkB D (va_A w sz) g) (va_A w sz)) mc ms (va_A w sz)
/-- contracts of methods that only read: int, long, a reference or null -/
abbrev nkRI (l : Launch) (y : MethodName) (ws : List Cond) (rm : Room) (D : va_G) (tys : List (ClassId × FieldType)) (av : List Value) (w : va_W) (post : Int32 → Prop) : Prop := Met l y ws rm (va_Pc av (nkR D tys w)) (vp_Si post) 0 0 (fun _ => False)
abbrev nkRL (l : Launch) (y : MethodName) (ws : List Cond) (rm : Room) (D : va_G) (tys : List (ClassId × FieldType)) (av : List Value) (w : va_W) (post : Int64 → Prop) : Prop := Met l y ws rm (va_Pc av (nkR D tys w)) (vp_Sl post) 0 0 (fun _ => False)
abbrev nkRQ (l : Launch) (y : MethodName) (ws : List Cond) (rm : Room) (D : va_G) (tys : List (ClassId × FieldType)) (av : List Value) (w : va_W) (post : Option Nat → Prop) : Prop := Met l y ws rm (va_Pc av (nkR D tys w)) (va_Sq post) 0 0 (fun _ => False)
/-- contracts of methods that touch no cell -/
abbrev nkSI (l : Launch) (y : MethodName) (ws : List Cond) (rm : Room) (av : List Value) (post : Int32 → Prop) : Prop := Met l y ws rm (va_Pc av (fun _ => True)) (vp_Si post) 0 0 (fun _ => False)
abbrev nkSL (l : Launch) (y : MethodName) (ws : List Cond) (rm : Room) (av : List Value) (post : Int64 → Prop) : Prop := Met l y ws rm (va_Pc av (fun _ => True)) (vp_Sl post) 0 0 (fun _ => False)
section NK1
variable {l : Launch} {y : MethodName} {ws ws' : List Cond} {rm : Room} {D : va_G} {tys : List (ClassId × FieldType)} {av : List Value} {w : va_W} {S : Type} {g : S → va_W} {mc ms : Nat} {cc : ByteArray} {maxL : Nat} {ret : Option FieldType}
/-- a contract's beginning, for a method that writes: any end Qc of it -/
theorem nk_ofM {Qf : (Nat → Prop) → Array Value → State → Outcome → State → Prop} (hy : plainName y.cls = true) (hw : ws = Cond.code y cc maxL ret :: ws') (hlen : (lg_sl av).length ≤ maxL)
    (body : ∀ (p : Program) (e : Env) (s : State) (m : MethodId) (below : List Frame) (meth : Method) (c : Code) (A : Nat → Prop), p.tables.exec = Jvm.exec → c.code = cc → meth.sig.returnType = ret → c.maxLocals = maxL → (∀ x ∈ ws, x.before av.toArray s = true) → s.vm.findClass y.cls = some m.cls → meth.locks = false → meth.name = y.name → nkK D tys s → va_P D vwCl w s.heap → va_D A w → (∀ q : Nat, s.heap.size ≤ q → A q) → va_S A s.heap s.heap [] → ∀ ls : Array Slot, lv_has ls maxL (lv_args 0 av) →
      W p l e rm s m av.toArray below meth c s.heap [] 0 0 (MQ below (Qf A) av.toArray s mc ms A) (F0 m 0 ls [])) :
    ∀ sz : Nat, Met l y ws rm (va_Pc av (nkC D tys w sz)) (Qf (va_A w sz)) mc ms (va_A w sz) := by
  intro sz
  refine Met.ofW (cc := cc) (maxL := maxL) (ret := ret) hy hw ?_
  intro p e s m args below meth c s₁ B hml hv
  obtain ⟨rfl, hsz, hP, hK, hD0⟩ := hv
  have hts := atoms_spec (ws := ws) B.pre
  subst hsz
  have hl := lv_entry av (n := maxL) hlen
  rw [lg_entry_eq]
  exact body p e s m below meth c (va_A w s.heap.size) B.exec B.bytes B.returns hml hts (findClass_of_methodNamed B.named) B.notSynchronized (name_of_methodNamed B.named B.method).1 hK hP (hD0.self (sz := s.heap.size)) (fun q h => Or.inr h) va_S.rf _ hl
theorem nk_ofR {Qc : Array Value → State → Outcome → State → Prop} (hy : plainName y.cls = true) (hw : ws = Cond.code y cc maxL ret :: ws') (hlen : (lg_sl av).length ≤ maxL)
    (body : ∀ (p : Program) (e : Env) (s : State) (m : MethodId) (below : List Frame) (meth : Method) (c : Code), p.tables.exec = Jvm.exec → c.code = cc → meth.sig.returnType = ret → c.maxLocals = maxL → (∀ x ∈ ws, x.before av.toArray s = true) → s.vm.findClass y.cls = some m.cls → meth.locks = false → nkK D tys s → va_P D vwCl w s.heap → ∀ ls : Array Slot, lv_has ls maxL (lv_args 0 av) →
      W p l e rm s m av.toArray below meth c s.heap [] 0 0 (MQ below Qc av.toArray s 0 0 (fun _ => False)) (F0 m 0 ls [])) :
    Met l y ws rm (va_Pc av (nkR D tys w)) Qc 0 0 (fun _ => False) := by
  refine Met.ofW (cc := cc) (maxL := maxL) (ret := ret) hy hw ?_
  intro p e s m args below meth c s₁ B hml hv
  obtain ⟨rfl, hP, hK⟩ := hv
  have hts := atoms_spec (ws := ws) B.pre
  have hl := lv_entry av (n := maxL) hlen
  rw [lg_entry_eq]
  exact body p e s m below meth c B.exec B.bytes B.returns hml hts (findClass_of_methodNamed B.named) B.notSynchronized hK hP _ hl
theorem nk_ofS {Qc : Array Value → State → Outcome → State → Prop} (hy : plainName y.cls = true) (hw : ws = Cond.code y cc maxL ret :: ws') (hlen : (lg_sl av).length ≤ maxL)
    (body : ∀ (p : Program) (e : Env) (s : State) (m : MethodId) (below : List Frame) (meth : Method) (c : Code), p.tables.exec = Jvm.exec → c.code = cc → meth.sig.returnType = ret → c.maxLocals = maxL → (∀ x ∈ ws, x.before av.toArray s = true) → s.vm.findClass y.cls = some m.cls → meth.locks = false → ∀ ls : Array Slot, lv_has ls maxL (lv_args 0 av) →
      W p l e rm s m av.toArray below meth c s.heap [] 0 0 (MQ below Qc av.toArray s 0 0 (fun _ => False)) (F0 m 0 ls [])) :
    Met l y ws rm (va_Pc av (fun _ => True)) Qc 0 0 (fun _ => False) := by
  refine Met.ofW (cc := cc) (maxL := maxL) (ret := ret) hy hw ?_
  intro p e s m args below meth c s₁ B hml hv
  obtain ⟨rfl, -⟩ := hv
  have hts := atoms_spec (ws := ws) B.pre
  have hl := lv_entry av (n := maxL) hlen
  rw [lg_entry_eq]
  exact body p e s m below meth c B.exec B.bytes B.returns hml hts (findClass_of_methodNamed B.named) B.notSynchronized _ hl
end NK1
section NK2
variable {p : Program} {l : Launch} {e : Env} {R : Room} {s : State} {m : MethodId} {args : Array Value} {below : List Frame} {meth : Method} {c : Code} {H : Heap} {locs : List Loc} {cells slots : Nat} {Q : State → Prop}
variable {cc : ByteArray} {pc : Nat} {ls : Array Slot} {D : va_G} {S : Type} {g : S → va_W} {A : Nat → Prop}
/-- ends -/
theorem nk_retI {post : Int32 → S → Prop} {v : Int32} (u : S) (hx : p.tables.exec = Jvm.exec) (hb : c.code = cc) (hr : meth.sig.returnType = some .int) (hlocks : meth.locks = false) (hP : va_P D vwCl (g u) H) (hD : va_D A (g u)) (hS : va_S A s.heap H locs) (hdg : decode cc pc = .ok (.ireturn, 1)) (hw : post v u) :
    W p l e R s m args below meth c H locs cells slots (MQ below (va_Qi post (nkB D A g) A) args s cells slots A) (F0 m pc ls [.int v]) :=
  W.iret hx hb hr (fun t ht _ => ⟨⟨v, u, rfl, hw, by rw [ht]; exact hP, hD⟩, hS.F ht⟩) hS.2.2 hdg hlocks
theorem nk_retZ {post : Int32 → S → Prop} {v : Int32} (u : S) (hx : p.tables.exec = Jvm.exec) (hb : c.code = cc) (hr : meth.sig.returnType = some .boolean) (hlocks : meth.locks = false) (hn : narrow .boolean (.int v) = .int v) (hP : va_P D vwCl (g u) H) (hD : va_D A (g u)) (hS : va_S A s.heap H locs) (hdg : decode cc pc = .ok (.ireturn, 1)) (hw : post v u) :
    W p l e R s m args below meth c H locs cells slots (MQ below (va_Qi post (nkB D A g) A) args s cells slots A) (F0 m pc ls [.int v]) :=
  W.zret hx hb hr hn (fun t ht _ => ⟨⟨v, u, rfl, hw, by rw [ht]; exact hP, hD⟩, hS.F ht⟩) hS.2.2 hdg hlocks
theorem nk_retL {post : Int64 → S → Prop} {v : Int64} (u : S) (hx : p.tables.exec = Jvm.exec) (hb : c.code = cc) (hr : meth.sig.returnType = some .long) (hlocks : meth.locks = false) (hP : va_P D vwCl (g u) H) (hD : va_D A (g u)) (hS : va_S A s.heap H locs) (hdg : decode cc pc = .ok (.lreturn, 1)) (hw : post v u) :
    W p l e R s m args below meth c H locs cells slots (MQ below (va_Ql post (nkB D A g) A) args s cells slots A) (F0 m pc ls [.long v]) :=
  W.lret hx hb hr (fun t ht _ => ⟨⟨v, u, rfl, hw, by rw [ht]; exact hP, hD⟩, hS.F ht⟩) hS.2.2 hdg hlocks
theorem nk_retV {post : S → Prop} (u : S) (hx : p.tables.exec = Jvm.exec) (hb : c.code = cc) (hr : meth.sig.returnType = none) (hlocks : meth.locks = false) (hP : va_P D vwCl (g u) H) (hD : va_D A (g u)) (hS : va_S A s.heap H locs) (hdg : decode cc pc = .ok (.return_, 1)) (hw : post u) :
    W p l e R s m args below meth c H locs cells slots (MQ below (va_Qv post (nkB D A g) A) args s cells slots A) (F0 m pc ls []) :=
  W.vret hx hb hr (fun t ht _ => ⟨⟨u, rfl, hw, by rw [ht]; exact hP, hD⟩, hS.F ht⟩) hS.2.2 hdg hlocks
theorem nk_endI {post : Int32 → Prop} {v : Int32} (hx : p.tables.exec = Jvm.exec) (hb : c.code = cc) (hr : meth.sig.returnType = some .int) (hlocks : meth.locks = false) (hdg : decode cc pc = .ok (.ireturn, 1)) (hw : post v) :
    W p l e R s m args below meth c s.heap [] cells slots (MQ below (vp_Si post) args s cells slots (fun _ => False)) (F0 m pc ls [.int v]) :=
  W.iret hx hb hr (fun t ht _ => ⟨v, rfl, hw, ht⟩) (fun _ h => absurd h List.not_mem_nil) hdg hlocks
theorem nk_endZ {post : Int32 → Prop} {v : Int32} (hx : p.tables.exec = Jvm.exec) (hb : c.code = cc) (hr : meth.sig.returnType = some .boolean) (hlocks : meth.locks = false) (hn : narrow .boolean (.int v) = .int v) (hdg : decode cc pc = .ok (.ireturn, 1)) (hw : post v) :
    W p l e R s m args below meth c s.heap [] cells slots (MQ below (vp_Si post) args s cells slots (fun _ => False)) (F0 m pc ls [.int v]) :=
  W.zret hx hb hr hn (fun t ht _ => ⟨v, rfl, hw, ht⟩) (fun _ h => absurd h List.not_mem_nil) hdg hlocks
theorem nk_endL {post : Int64 → Prop} {v : Int64} (hx : p.tables.exec = Jvm.exec) (hb : c.code = cc) (hr : meth.sig.returnType = some .long) (hlocks : meth.locks = false) (hdg : decode cc pc = .ok (.lreturn, 1)) (hw : post v) :
    W p l e R s m args below meth c s.heap [] cells slots (MQ below (vp_Sl post) args s cells slots (fun _ => False)) (F0 m pc ls [.long v]) :=
  W.lret hx hb hr (fun t ht _ => ⟨v, rfl, hw, ht⟩) (fun _ h => absurd h List.not_mem_nil) hdg hlocks
end NK2
section NK3
variable {p : Program} {l : Launch} {e : Env} {R : Room} {s : State} {m : MethodId} {args : Array Value} {below : List Frame} {meth : Method} {c : Code} {H : Heap} {locs : List Loc} {cells slots : Nat} {Q : State → Prop}
variable {y : MethodName} {bytes cc : ByteArray} {maxL nL mc ms n index : Nat} {ret : Option FieldType} {ws : List Cond} {rm : Room} {Ts : List Cond} {own C : String} {b : Addr} {As rest st0 : List Value} {pc : Nat} {ls : Array Slot} {D : va_G} {tys : List (ClassId × FieldType)} {w : va_W} {S : Type} {g : S → va_W} {A0 : Nat → Prop} {H0 : Heap} {q : vw_C} {fs : List Value}
theorem nk_free (hD : va_D A0 w) (hS : va_S A0 H0 H locs) (hA : ∀ q : Nat, H0.size ≤ q → A0 q) : ∀ q : Nat, va_A w H.size q → A0 q := fun q h => h.elim (fun ⟨k, _, hk⟩ => hD.2 k _ hk) (fun h => hA q (Nat.le_trans hS.1 h))
theorem nk_preM (hK : nkK D tys s) (hP : va_P D vwCl w H) (hD : va_D A0 w) (av : List Value) : PreS s H (va_Pc av (nkC D tys w H.size)) av :=
  ⟨fun a _ g mk q => ⟨q.1, q.2.1, q.2.2.1, q.2.2.2.1.calling g mk a, q.2.2.2.2⟩, fun U hU hW => ⟨rfl, by rw [hU], by rw [hU]; exact hP, hK.warm hW, hD.weaken (fun _ _ _ _ => trivial)⟩⟩
theorem nk_preR (hK : nkK D tys s) (hP : va_P D vwCl w H) (av : List Value) : PreS s H (va_Pc av (nkR D tys w)) av :=
  ⟨fun a _ g mk q => ⟨q.1, q.2.1, q.2.2.calling g mk a⟩, fun U hU hW => ⟨rfl, by rw [hU]; exact hP, hK.warm hW⟩⟩
theorem nk_preT (av : List Value) : PreS s H (va_Pc av (fun _ => True)) av := ⟨fun _ _ _ _ q => q, fun _ _ _ => ⟨rfl, trivial⟩⟩
theorem nk_VI {post : Int32 → S → Prop} (F : CallFix p m c cc nL s args Ts own) (hM : nkMI l y ws rm D tys (.ref b :: As) w g post mc ms) (cw : CallW R s args own C index y bytes maxL ret ws rm mc ms n) (hK : nkK D tys s) (hP : va_P D vwCl w H) (hD : va_D A0 w) (hS : va_S A0 H0 H locs) (hA : ∀ q : Nat, H0.size ≤ q → A0 q) (q0 ci : Nat) (hc : vwCl[ci]? = some q) (hq : q.1 = C) (he : w[q0]? = some (b, .inr (ci, fs))) (hn : As.length = n) (hsize : ls.size = nL) (hst : st0 = As.reverse ++ .ref b :: rest) (hW : (rest.map fun v => v.category).sum ≤ 8) (hdg : decode cc pc = .ok (.invokevirtual index, 3)) (hf : cells + mc ≤ R.cells ∧ slots + ms ≤ R.slots)
    (kk : ∀ (r : Int32) (u : S) (H1 : Heap) (locs1 : List Loc), post r u → va_P D vwCl (g u) H1 → va_D A0 (g u) → va_S A0 H0 H1 locs1 → W p l e R s m args below meth c H1 locs1 (cells + mc) (slots + ms) Q (F0 m (pc + 3) ls (.int r :: rest))) : W p l e R s m args below meth c H locs cells slots Q (F0 m pc ls st0) := by
  subst hst
  subst hq
  have hfree := nk_free hD hS hA
  have hp := nk_preM hK hP hD (.ref b :: As)
  exact va_calli (va_runV F (hM H.size) cw ⟨hp.1, va_recv hK.1 hP hc he, hp.2⟩ rfl hn hsize rfl (lv_room hW) hdg hf) hS (fun q _ h => hfree q h) hfree (fun r u t H1 locs1 ht _ hw hB _ _ hS1 => kk r u H1 locs1 hw (by rw [← ht]; exact hB.1) (hB.2.weaken (fun _ q _ h => hfree q.1 h)) hS1)
theorem nk_VL {post : Int64 → S → Prop} (F : CallFix p m c cc nL s args Ts own) (hM : nkML l y ws rm D tys (.ref b :: As) w g post mc ms) (cw : CallW R s args own C index y bytes maxL ret ws rm mc ms n) (hK : nkK D tys s) (hP : va_P D vwCl w H) (hD : va_D A0 w) (hS : va_S A0 H0 H locs) (hA : ∀ q : Nat, H0.size ≤ q → A0 q) (q0 ci : Nat) (hc : vwCl[ci]? = some q) (hq : q.1 = C) (he : w[q0]? = some (b, .inr (ci, fs))) (hn : As.length = n) (hsize : ls.size = nL) (hst : st0 = As.reverse ++ .ref b :: rest) (hW : (rest.map fun v => v.category).sum ≤ 8) (hdg : decode cc pc = .ok (.invokevirtual index, 3)) (hf : cells + mc ≤ R.cells ∧ slots + ms ≤ R.slots)
    (kk : ∀ (r : Int64) (u : S) (H1 : Heap) (locs1 : List Loc), post r u → va_P D vwCl (g u) H1 → va_D A0 (g u) → va_S A0 H0 H1 locs1 → W p l e R s m args below meth c H1 locs1 (cells + mc) (slots + ms) Q (F0 m (pc + 3) ls (.long r :: rest))) : W p l e R s m args below meth c H locs cells slots Q (F0 m pc ls st0) := by
  subst hst
  subst hq
  have hfree := nk_free hD hS hA
  have hp := nk_preM hK hP hD (.ref b :: As)
  exact va_calll (va_runV F (hM H.size) cw ⟨hp.1, va_recv hK.1 hP hc he, hp.2⟩ rfl hn hsize rfl (lv_room hW) hdg hf) hS (fun q _ h => hfree q h) hfree (fun r u t H1 locs1 ht _ hw hB _ _ hS1 => kk r u H1 locs1 hw (by rw [← ht]; exact hB.1) (hB.2.weaken (fun _ q _ h => hfree q.1 h)) hS1)
theorem nk_VRI {post : Int32 → Prop} (F : CallFix p m c cc nL s args Ts own) (hM : nkRI l y ws rm D tys (.ref b :: As) w post) (cw : CallW R s args own C index y bytes maxL ret ws rm 0 0 n) (hK : nkK D tys s) (hP : va_P D vwCl w H) (q0 ci : Nat) (hc : vwCl[ci]? = some q) (hq : q.1 = C) (he : w[q0]? = some (b, .inr (ci, fs))) (hn : As.length = n) (hsize : ls.size = nL) (hst : st0 = As.reverse ++ .ref b :: rest) (hW : (rest.map fun v => v.category).sum ≤ 8) (hdg : decode cc pc = .ok (.invokevirtual index, 3)) (hf : cells ≤ R.cells ∧ slots ≤ R.slots)
    (kk : ∀ r : Int32, post r → W p l e R s m args below meth c H locs cells slots Q (F0 m (pc + 3) ls (.int r :: rest))) : W p l e R s m args below meth c H locs cells slots Q (F0 m pc ls st0) := by
  subst hst
  subst hq
  have hp := nk_preR hK hP (.ref b :: As)
  exact vp_callSi (W.runV F hM cw ⟨hp.1, va_recv hK.1 hP hc he, hp.2⟩ rfl hn hsize rfl (lv_room hW) hdg hf) kk
theorem nk_VRL {post : Int64 → Prop} (F : CallFix p m c cc nL s args Ts own) (hM : nkRL l y ws rm D tys (.ref b :: As) w post) (cw : CallW R s args own C index y bytes maxL ret ws rm 0 0 n) (hK : nkK D tys s) (hP : va_P D vwCl w H) (q0 ci : Nat) (hc : vwCl[ci]? = some q) (hq : q.1 = C) (he : w[q0]? = some (b, .inr (ci, fs))) (hn : As.length = n) (hsize : ls.size = nL) (hst : st0 = As.reverse ++ .ref b :: rest) (hW : (rest.map fun v => v.category).sum ≤ 8) (hdg : decode cc pc = .ok (.invokevirtual index, 3)) (hf : cells ≤ R.cells ∧ slots ≤ R.slots)
    (kk : ∀ r : Int64, post r → W p l e R s m args below meth c H locs cells slots Q (F0 m (pc + 3) ls (.long r :: rest))) : W p l e R s m args below meth c H locs cells slots Q (F0 m pc ls st0) := by
  subst hst
  subst hq
  have hp := nk_preR hK hP (.ref b :: As)
  exact vp_callSl (W.runV F hM cw ⟨hp.1, va_recv hK.1 hP hc he, hp.2⟩ rfl hn hsize rfl (lv_room hW) hdg hf) kk
theorem nk_VRQ {post : Option Nat → Prop} (F : CallFix p m c cc nL s args Ts own) (hM : nkRQ l y ws rm D tys (.ref b :: As) w post) (cw : CallW R s args own C index y bytes maxL ret ws rm 0 0 n) (hK : nkK D tys s) (hP : va_P D vwCl w H) (q0 ci : Nat) (hc : vwCl[ci]? = some q) (hq : q.1 = C) (he : w[q0]? = some (b, .inr (ci, fs))) (hn : As.length = n) (hsize : ls.size = nL) (hst : st0 = As.reverse ++ .ref b :: rest) (hW : (rest.map fun v => v.category).sum ≤ 8) (hdg : decode cc pc = .ok (.invokevirtual index, 3)) (hf : cells ≤ R.cells ∧ slots ≤ R.slots)
    (kk : ∀ r : Option Nat, post r → W p l e R s m args below meth c H locs cells slots Q (F0 m (pc + 3) ls (va_rf r :: rest))) : W p l e R s m args below meth c H locs cells slots Q (F0 m pc ls st0) := by
  subst hst
  subst hq
  have hp := nk_preR hK hP (.ref b :: As)
  exact va_csq (W.runV F hM cw ⟨hp.1, va_recv hK.1 hP hc he, hp.2⟩ rfl hn hsize rfl (lv_room hW) hdg hf) kk
theorem nk_SSI {post : Int32 → Prop} (F : CallFix p m c cc nL s args Ts own) (hM : nkSI l y ws rm As post) (cw : CallB R s args own index y bytes maxL ret ws rm 0 0 n ∧ (Cond.static y).before args s = true) (hn : As.length = n) (hsize : ls.size = nL) (hst : st0 = As.reverse ++ rest) (hW : (rest.map fun v => v.category).sum ≤ 8) (hdg : decode cc pc = .ok (.invokestatic index, 3)) (hf : cells ≤ R.cells ∧ slots ≤ R.slots)
    (kk : ∀ r : Int32, post r → W p l e R s m args below meth c H locs cells slots Q (F0 m (pc + 3) ls (.int r :: rest))) : W p l e R s m args below meth c H locs cells slots Q (F0 m pc ls st0) := by
  subst hst
  exact vp_callSi (W.runS F hM cw (nk_preT As) rfl hn hsize rfl (lv_room hW) hdg hf) kk
theorem nk_SSL {post : Int64 → Prop} (F : CallFix p m c cc nL s args Ts own) (hM : nkSL l y ws rm As post) (cw : CallB R s args own index y bytes maxL ret ws rm 0 0 n ∧ (Cond.static y).before args s = true) (hn : As.length = n) (hsize : ls.size = nL) (hst : st0 = As.reverse ++ rest) (hW : (rest.map fun v => v.category).sum ≤ 8) (hdg : decode cc pc = .ok (.invokestatic index, 3)) (hf : cells ≤ R.cells ∧ slots ≤ R.slots)
    (kk : ∀ r : Int64, post r → W p l e R s m args below meth c H locs cells slots Q (F0 m (pc + 3) ls (.long r :: rest))) : W p l e R s m args below meth c H locs cells slots Q (F0 m pc ls st0) := by
  subst hst
  exact vp_callSl (W.runS F hM cw (nk_preT As) rfl hn hsize rfl (lv_room hW) hdg hf) kk
theorem nk_SNL {host : String} {post : Int64 → Prop} (F : CallFix p m c cc nL s args Ts own) (hM : nkSL l y ws rm As post) (cw : va_CN R s args own index y host bytes maxL ret ws rm 0 0 n ∧ (Cond.static y).before args s = true ∧ True) (hn : As.length = n) (hsize : ls.size = nL) (hst : st0 = As.reverse ++ rest) (hW : (rest.map fun v => v.category).sum ≤ 8) (hdg : decode cc pc = .ok (.invokestatic index, 3)) (hf : cells ≤ R.cells ∧ slots ≤ R.slots)
    (kk : ∀ r : Int64, post r → W p l e R s m args below meth c H locs cells slots Q (F0 m (pc + 3) ls (.long r :: rest))) : W p l e R s m args below meth c H locs cells slots Q (F0 m pc ls st0) := by
  subst hst
  exact vp_callSl (va_Run.run (va_runSN F hM cw (nk_preT As) rfl hn hsize rfl (lv_room hW) hdg hf)) kk
end NK3
end
section
/-! words of the state, and what the leaves compute, as the machine does -/
def nsU (x : Int64) (y : Int32) : Int64 := (x.toUInt64 >>> (y.toInt64.toUInt64 &&& Int64.toUInt64 63)).toInt64
def nsL (x : Int64) (y : Int32) : Int64 := x <<< (y.toInt64 &&& 63)
def fMix1 (z : Int64) : Int64 := (z ^^^ nsU z 30) * (-4658895280553007687)
def fMix2 (z : Int64) : Int64 := (z ^^^ nsU z 27) * (-7723592293110705685)
def fMix (z : Int64) : Int64 := fMix2 (fMix1 z) ^^^ nsU (fMix2 (fMix1 z)) 31
def fFirst (c : Int32) : Int64 := 32 * c.toInt64
def fBelow (x y : Int64) : Int32 := if (y ^^^ (-9223372036854775808)) ≤ (x ^^^ (-9223372036854775808)) then 0 else 1
def fWord (b k : Int64) : Int64 := fMix (b + (-7046029254386353131) * (k + 1))
def fRest (x n : Int64) : Int64 := x - nsL (nsU x 1 / n) 1 * n
def fRem (x n : Int64) : Int64 := if fBelow (fRest x n) n = 0 then fRest x n - n else fRest x n
theorem ns_in {i k : Int32} {n : Nat} (h0 : 0 ≤ i) (h : i < k) (hk : k.toInt ≤ n) : vp_in i n := by
  rw [vp_in_iff]
  rw [Int32.le_iff_toInt_le] at h0
  rw [Int32.lt_iff_toInt_lt] at h
  exact ⟨h0, by omega⟩
/-- the cells of the class: the object, its rows, the paths and theirs; X: all else -/
abbrev wC (ad : Nat → Nat) (ca : Nat → ClassId) (sd : Int64) (tc : Int32) (sc : Int32) (tr : Int32) (st : Int32) (pz : Int32) (T : Nat → Int64) (Wt : Nat → Int64) (O : Nat → Int32) (SA : Nat → Option Nat) (KA : Nat → Option Nat) (R : Nat → Int64) (Ln : Nat → Int32) (Ky : Nat → Int64) (Ch : Nat → Int64) (X : va_W) : va_W := ((ad 0), .inr (3, [.long sd, .ref (ad 1), .int tc, .ref (ad 2), .ref (ad 3), .ref (ad 4), .ref (ad 5), .int sc, .ref (ad 6), .int tr, .int st])) :: ((ad 1), .inl (ca 1, 4, .inr (.inl T))) :: ((ad 2), .inr (1, [.ref (ad 7), .ref (ad 8), .ref (ad 9), .ref (ad 10), .int pz])) :: ((ad 3), .inl (ca 3, 10, .inr (.inl Wt))) :: ((ad 4), .inl (ca 4, 40, .inl O)) :: ((ad 5), .inl (ca 5, 8, .inr (.inr (.inr (.inr SA))))) :: ((ad 6), .inl (ca 6, 4, .inr (.inr (.inr (.inr KA))))) :: ((ad 7), .inl (ca 7, 96, .inr (.inl R))) :: ((ad 8), .inl (ca 8, 24, .inl Ln)) :: ((ad 9), .inl (ca 9, 24, .inr (.inl Ky))) :: ((ad 10), .inl (ca 10, 4, .inr (.inl Ch))) :: X
abbrev tC (ca : Nat → ClassId) : List (ClassId × FieldType) := [(ca 1, .long), (ca 3, .long), (ca 4, .int), (ca 5, .object "NamedStreams$Stream"), (ca 6, .object "NamedStreams$Kept"), (ca 7, .long), (ca 8, .int), (ca 9, .long), (ca 10, .long)]
/-- the cells of the reference -/
abbrev wM (bd : Nat → Nat) (cb : Nat → ClassId) (sd : Int64) (pz : Int32) (tc : Int32) (st : Int32) (tr : Int32) (sc : Int32) (gr : Int32) (P : Nat → Int64) (Mn : Nat → Int32) (T : Nat → Int64) (Wt : Nat → Int64) (Rn : Nat → Int64) (Po : Nat → Int32) (Pl : Nat → Int32) (Sp : Nat → Int32) (Ks : Nat → Int32) (Kp : Nat → Int32) (Kc : Nat → Int32) (Ik : Nat → Int32) (O : Nat → Int32) (As : Nat → Int64) (X : va_W) : va_W := ((bd 0), .inr (4, [.long sd, .int pz, .ref (bd 1), .ref (bd 2), .ref (bd 3), .int tc, .int st, .int tr, .ref (bd 4), .int sc, .ref (bd 5), .ref (bd 6), .ref (bd 7), .ref (bd 8), .ref (bd 9), .ref (bd 10), .ref (bd 11), .ref (bd 12), .int gr, .ref (bd 13), .ref (bd 14)])) :: ((bd 1), .inl (cb 1, 96, .inr (.inl P))) :: ((bd 2), .inl (cb 2, 24, .inl Mn)) :: ((bd 3), .inl (cb 3, 4, .inr (.inl T))) :: ((bd 4), .inl (cb 4, 10, .inr (.inl Wt))) :: ((bd 5), .inl (cb 5, 8, .inr (.inl Rn))) :: ((bd 6), .inl (cb 6, 8, .inl Po)) :: ((bd 7), .inl (cb 7, 8, .inl Pl)) :: ((bd 8), .inl (cb 8, 8, .inl Sp)) :: ((bd 9), .inl (cb 9, 4, .inl Ks)) :: ((bd 10), .inl (cb 10, 4, .inl Kp)) :: ((bd 11), .inl (cb 11, 4, .inl Kc)) :: ((bd 12), .inl (cb 12, 4, .inl Ik)) :: ((bd 13), .inl (cb 13, 40, .inl O)) :: ((bd 14), .inl (cb 14, 4, .inr (.inl As))) :: X
abbrev tM (cb : Nat → ClassId) : List (ClassId × FieldType) := [(cb 1, .long), (cb 2, .int), (cb 3, .long), (cb 4, .long), (cb 5, .long), (cb 6, .int), (cb 7, .int), (cb 8, .int), (cb 9, .int), (cb 10, .int), (cb 11, .int), (cb 12, .boolean), (cb 13, .int), (cb 14, .long)]
end
section
set_option maxHeartbeats 4000000 in
set_option maxRecDepth 100000 in
theorem mX3_mix (l : Launch) (z0 : Int64) : nkSL l yX3_mix wsX3_mix ({ frames := 0, cells := 0, slots := 0, locals := 0 }) [.long z0] (fun r => r = fMix z0) := by
  refine nk_ofS (cc := cX3_mix) (maxL := 4) (ret := (some .long)) (by decide) rfl (Nat.le_of_ble_eq_true rfl) ?_
  intro p e s m below meth c hx hb hr hml hts hown hlocks ls hl
  replace hown : s.vm.findClass RX3 = some m.cls := hown
  replace hl : lv_has ls 4 [(0, .long z0)] := hl
  refine lv_lload_n hx hb dX3_mix_0 rfl (lv_at hl 0 rfl) ?_
  refine lv_lstore_n (lv' := [(2, .long z0), (0, .long z0)]) hx hb dX3_mix_1 rfl hl (by decide) rfl (fun ls hl => ?_)
  refine lv_lload_n hx hb dX3_mix_2 rfl (lv_at hl 0 rfl) ?_
  refine lv_lload_n hx hb dX3_mix_3 rfl (lv_at hl 0 rfl) ?_
  refine lv_bipush (v := 30) hx hb dX3_mix_4 (by decide) ?_
  refine lv_lushr (v := (nsU z0 (30 : Int32))) hx hb dX3_mix_6 rfl ?_
  refine lv_lxor hx hb dX3_mix_7 ?_
  refine lv_ldc2 (v := -4658895280553007687) hx hb hown (hts (.constantLong RX3 131 (-4658895280553007687)) (by decide +kernel)) dX3_mix_8 ?_
  refine lv_lmul hx hb dX3_mix_11 ?_
  refine lv_topl (fun z1 ez1 => ?_)
  refine lv_lstore_n (lv' := [(2, .long z1), (0, .long z0)]) hx hb dX3_mix_12 rfl hl (by decide) rfl (fun ls hl => ?_)
  refine lv_lload_n hx hb dX3_mix_13 rfl (lv_at hl 0 rfl) ?_
  refine lv_lload_n hx hb dX3_mix_14 rfl (lv_at hl 0 rfl) ?_
  refine lv_bipush (v := 27) hx hb dX3_mix_15 (by decide) ?_
  refine lv_lushr (v := (nsU z1 (27 : Int32))) hx hb dX3_mix_17 rfl ?_
  refine lv_lxor hx hb dX3_mix_18 ?_
  refine lv_ldc2 (v := -7723592293110705685) hx hb hown (hts (.constantLong RX3 133 (-7723592293110705685)) (by decide +kernel)) dX3_mix_19 ?_
  refine lv_lmul hx hb dX3_mix_22 ?_
  refine lv_topl (fun z2 ez2 => ?_)
  refine lv_lstore_n (lv' := [(2, .long z2), (0, .long z0)]) hx hb dX3_mix_23 rfl hl (by decide) rfl (fun ls hl => ?_)
  refine lv_lload_n hx hb dX3_mix_24 rfl (lv_at hl 0 rfl) ?_
  refine lv_lload_n hx hb dX3_mix_25 rfl (lv_at hl 0 rfl) ?_
  refine lv_bipush (v := 31) hx hb dX3_mix_26 (by decide) ?_
  refine lv_lushr (v := (nsU z2 (31 : Int32))) hx hb dX3_mix_28 rfl ?_
  refine lv_lxor hx hb dX3_mix_29 ?_
  exact nk_endL hx hb hr hlocks dX3_mix_30 (by subst ez1; subst ez2; rfl)

set_option maxHeartbeats 4000000 in
set_option maxRecDepth 100000 in
theorem mX4_mix (l : Launch) (z0 : Int64) : nkSL l yX4_mix wsX4_mix ({ frames := 0, cells := 0, slots := 0, locals := 0 }) [.long z0] (fun r => r = fMix z0) := by
  refine nk_ofS (cc := cX4_mix) (maxL := 4) (ret := (some .long)) (by decide) rfl (Nat.le_of_ble_eq_true rfl) ?_
  intro p e s m below meth c hx hb hr hml hts hown hlocks ls hl
  replace hown : s.vm.findClass RX4 = some m.cls := hown
  replace hl : lv_has ls 4 [(0, .long z0)] := hl
  refine lv_lload_n hx hb dX4_mix_0 rfl (lv_at hl 0 rfl) ?_
  refine lv_lstore_n (lv' := [(2, .long z0), (0, .long z0)]) hx hb dX4_mix_1 rfl hl (by decide) rfl (fun ls hl => ?_)
  refine lv_lload_n hx hb dX4_mix_2 rfl (lv_at hl 0 rfl) ?_
  refine lv_lload_n hx hb dX4_mix_3 rfl (lv_at hl 0 rfl) ?_
  refine lv_bipush (v := 30) hx hb dX4_mix_4 (by decide) ?_
  refine lv_lushr (v := (nsU z0 (30 : Int32))) hx hb dX4_mix_6 rfl ?_
  refine lv_lxor hx hb dX4_mix_7 ?_
  refine lv_ldc2 (v := -4658895280553007687) hx hb hown (hts (.constantLong RX4 58 (-4658895280553007687)) (by decide +kernel)) dX4_mix_8 ?_
  refine lv_lmul hx hb dX4_mix_11 ?_
  refine lv_topl (fun z1 ez1 => ?_)
  refine lv_lstore_n (lv' := [(2, .long z1), (0, .long z0)]) hx hb dX4_mix_12 rfl hl (by decide) rfl (fun ls hl => ?_)
  refine lv_lload_n hx hb dX4_mix_13 rfl (lv_at hl 0 rfl) ?_
  refine lv_lload_n hx hb dX4_mix_14 rfl (lv_at hl 0 rfl) ?_
  refine lv_bipush (v := 27) hx hb dX4_mix_15 (by decide) ?_
  refine lv_lushr (v := (nsU z1 (27 : Int32))) hx hb dX4_mix_17 rfl ?_
  refine lv_lxor hx hb dX4_mix_18 ?_
  refine lv_ldc2 (v := -7723592293110705685) hx hb hown (hts (.constantLong RX4 60 (-7723592293110705685)) (by decide +kernel)) dX4_mix_19 ?_
  refine lv_lmul hx hb dX4_mix_22 ?_
  refine lv_topl (fun z2 ez2 => ?_)
  refine lv_lstore_n (lv' := [(2, .long z2), (0, .long z0)]) hx hb dX4_mix_23 rfl hl (by decide) rfl (fun ls hl => ?_)
  refine lv_lload_n hx hb dX4_mix_24 rfl (lv_at hl 0 rfl) ?_
  refine lv_lload_n hx hb dX4_mix_25 rfl (lv_at hl 0 rfl) ?_
  refine lv_bipush (v := 31) hx hb dX4_mix_26 (by decide) ?_
  refine lv_lushr (v := (nsU z2 (31 : Int32))) hx hb dX4_mix_28 rfl ?_
  refine lv_lxor hx hb dX4_mix_29 ?_
  exact nk_endL hx hb hr hlocks dX4_mix_30 (by subst ez1; subst ez2; rfl)

set_option maxHeartbeats 4000000 in
set_option maxRecDepth 100000 in
theorem mX3_firstCounter (l : Launch) (c0 : Int32) : nkSL l yX3_firstCounter wsX3_firstCounter ({ frames := 0, cells := 0, slots := 0, locals := 0 }) [.int c0] (fun r => r = fFirst c0) := by
  refine nk_ofS (cc := cX3_firstCounter) (maxL := 1) (ret := (some .long)) (by decide) rfl (Nat.le_of_ble_eq_true rfl) ?_
  intro p e s m below meth c hx hb hr hml hts hown hlocks ls hl
  replace hown : s.vm.findClass RX3 = some m.cls := hown
  replace hl : lv_has ls 1 [(0, .int c0)] := hl
  refine lv_ldc2 (v := 32) hx hb hown (hts (.constantLong RX3 141 (32)) (by decide +kernel)) dX3_firstCounter_0 ?_
  refine lv_iload_n hx hb dX3_firstCounter_3 rfl (lv_at hl 0 rfl) ?_
  refine lv_i2l hx hb dX3_firstCounter_4 rfl ?_
  refine lv_lmul hx hb dX3_firstCounter_5 ?_
  exact nk_endL hx hb hr hlocks dX3_firstCounter_6 (by rfl)

set_option maxHeartbeats 4000000 in
set_option maxRecDepth 100000 in
theorem mX3_belowUnsigned (l : Launch) (x0 y0 : Int64) : nkSI l yX3_belowUnsigned wsX3_belowUnsigned ({ frames := 0, cells := 0, slots := 0, locals := 0 }) [.long x0, .long y0] (fun r => r = fBelow x0 y0) := by
  refine nk_ofS (cc := cX3_belowUnsigned) (maxL := 4) (ret := (some .boolean)) (by decide) rfl (Nat.le_of_ble_eq_true rfl) ?_
  intro p e s m below meth c hx hb hr hml hts hown hlocks ls hl
  replace hown : s.vm.findClass RX3 = some m.cls := hown
  replace hl : lv_has ls 4 [(0, .long x0), (2, .long y0)] := hl
  refine lv_lload_n hx hb dX3_belowUnsigned_0 rfl (lv_at hl 0 rfl) ?_
  refine lv_ldc2 (v := -9223372036854775808) hx hb hown (hts (.constantLong RX3 143 (-9223372036854775808)) (by decide +kernel)) dX3_belowUnsigned_1 ?_
  refine lv_lxor hx hb dX3_belowUnsigned_4 ?_
  refine lv_lload_n hx hb dX3_belowUnsigned_5 rfl (lv_at hl 1 rfl) ?_
  refine lv_ldc2 (v := -9223372036854775808) hx hb hown (hts (.constantLong RX3 143 (-9223372036854775808)) (by decide +kernel)) dX3_belowUnsigned_6 ?_
  refine lv_lxor hx hb dX3_belowUnsigned_9 ?_
  refine W.lcmp hx hb dX3_belowUnsigned_10 ?_
  refine lv_if_ge (tgt := 18) hx hb dX3_belowUnsigned_11 (by decide) (fun c11 => ?_) (fun c11 => ?_)
  · skip
    have c11 : (y0 ^^^ (-9223372036854775808 : Int64)) ≤ (x0 ^^^ (-9223372036854775808 : Int64)) := (lg_cmp_ge _ _).mp c11
    refine lv_iconst (v := 0) hx hb dX3_belowUnsigned_18 (by decide) ?_
    exact nk_endZ hx hb hr hlocks (by first | rfl | decide) dX3_belowUnsigned_19 (by simp only [fBelow]; first | rw [if_pos c11] | rw [if_neg c11])
  · skip
    have c11 : ¬ ((y0 ^^^ (-9223372036854775808 : Int64)) ≤ (x0 ^^^ (-9223372036854775808 : Int64))) := fun h => c11 ((lg_cmp_ge _ _).mpr h)
    refine lv_iconst (v := 1) hx hb dX3_belowUnsigned_14 (by decide) ?_
    refine lv_goto (tgt := 19) hx hb dX3_belowUnsigned_15 (by decide) ?_
    exact nk_endZ hx hb hr hlocks (by first | rfl | decide) dX3_belowUnsigned_19 (by simp only [fBelow]; first | rw [if_pos c11] | rw [if_neg c11])

set_option maxHeartbeats 4000000 in
set_option maxRecDepth 100000 in
theorem mX4_isBelow (l : Launch) (x0 y0 : Int64) : nkSI l yX4_isBelow wsX4_isBelow ({ frames := 0, cells := 0, slots := 0, locals := 0 }) [.long x0, .long y0] (fun r => r = fBelow x0 y0) := by
  refine nk_ofS (cc := cX4_isBelow) (maxL := 4) (ret := (some .boolean)) (by decide) rfl (Nat.le_of_ble_eq_true rfl) ?_
  intro p e s m below meth c hx hb hr hml hts hown hlocks ls hl
  replace hown : s.vm.findClass RX4 = some m.cls := hown
  replace hl : lv_has ls 4 [(0, .long x0), (2, .long y0)] := hl
  refine lv_lload_n hx hb dX4_isBelow_0 rfl (lv_at hl 0 rfl) ?_
  refine lv_ldc2 (v := -9223372036854775808) hx hb hown (hts (.constantLong RX4 62 (-9223372036854775808)) (by decide +kernel)) dX4_isBelow_1 ?_
  refine lv_lxor hx hb dX4_isBelow_4 ?_
  refine lv_lload_n hx hb dX4_isBelow_5 rfl (lv_at hl 1 rfl) ?_
  refine lv_ldc2 (v := -9223372036854775808) hx hb hown (hts (.constantLong RX4 62 (-9223372036854775808)) (by decide +kernel)) dX4_isBelow_6 ?_
  refine lv_lxor hx hb dX4_isBelow_9 ?_
  refine W.lcmp hx hb dX4_isBelow_10 ?_
  refine lv_if_ge (tgt := 18) hx hb dX4_isBelow_11 (by decide) (fun c11 => ?_) (fun c11 => ?_)
  · skip
    have c11 : (y0 ^^^ (-9223372036854775808 : Int64)) ≤ (x0 ^^^ (-9223372036854775808 : Int64)) := (lg_cmp_ge _ _).mp c11
    refine lv_iconst (v := 0) hx hb dX4_isBelow_18 (by decide) ?_
    exact nk_endZ hx hb hr hlocks (by first | rfl | decide) dX4_isBelow_19 (by simp only [fBelow]; first | rw [if_pos c11] | rw [if_neg c11])
  · skip
    have c11 : ¬ ((y0 ^^^ (-9223372036854775808 : Int64)) ≤ (x0 ^^^ (-9223372036854775808 : Int64))) := fun h => c11 ((lg_cmp_ge _ _).mpr h)
    refine lv_iconst (v := 1) hx hb dX4_isBelow_14 (by decide) ?_
    refine lv_goto (tgt := 19) hx hb dX4_isBelow_15 (by decide) ?_
    exact nk_endZ hx hb hr hlocks (by first | rfl | decide) dX4_isBelow_19 (by simp only [fBelow]; first | rw [if_pos c11] | rw [if_neg c11])

set_option maxHeartbeats 4000000 in
set_option maxRecDepth 100000 in
theorem mX3_wordAt (l : Launch) (b0 k0 : Int64) : nkSL l yX3_wordAt wsX3_wordAt ({ frames := 1, cells := 0, slots := 0, locals := 23 }) [.long b0, .long k0] (fun r => r = fWord b0 k0) := by
  refine nk_ofS (cc := cX3_wordAt) (maxL := 4) (ret := (some .long)) (by decide) rfl (Nat.le_of_ble_eq_true rfl) ?_
  intro p e s m below meth c hx hb hr hml hts hown hlocks ls hl
  replace hown : s.vm.findClass RX3 = some m.cls := hown
  replace hl : lv_has ls 4 [(0, .long b0), (2, .long k0)] := hl
  refine lv_lload_n hx hb dX3_wordAt_0 rfl (lv_at hl 0 rfl) ?_
  refine lv_ldc2 (v := -7046029254386353131) hx hb hown (hts (.constantLong RX3 135 (-7046029254386353131)) (by decide +kernel)) dX3_wordAt_1 ?_
  refine lv_lload_n hx hb dX3_wordAt_4 rfl (lv_at hl 1 rfl) ?_
  refine lv_lconst (v := 1) hx hb dX3_wordAt_5 (by decide) ?_
  refine lv_ladd hx hb dX3_wordAt_6 ?_
  refine lv_lmul hx hb dX3_wordAt_7 ?_
  refine lv_ladd hx hb dX3_wordAt_8 ?_
  refine nk_SSL (As := [.long (b0 + ((-7046029254386353131 : Int64) * (k0 + (1 : Int64))))]) (rest := []) ⟨hx, hb, hml, hown, hts⟩ (mX3_mix l (b0 + ((-7046029254386353131 : Int64) * (k0 + (1 : Int64))))) (va_cwS 1 hts gX3_wordAt_X3_mix rfl rfl rfl (by decide +kernel) ⟨Nat.le_of_ble_eq_true rfl, Nat.le_of_ble_eq_true rfl⟩) rfl hl.1 rfl (Nat.le_of_ble_eq_true rfl) dX3_wordAt_9 ⟨Nat.zero_le _, Nat.zero_le _⟩ (fun r1 hr1 => ?_)
  subst hr1
  exact nk_endL hx hb hr hlocks dX3_wordAt_12 (by rfl)

set_option maxHeartbeats 4000000 in
set_option maxRecDepth 100000 in
theorem mX3_remainderUnsigned (l : Launch) (x0 n0 : Int64) (hn0 : ¬ n0 = 0) : nkSL l yX3_remainderUnsigned wsX3_remainderUnsigned ({ frames := 1, cells := 0, slots := 0, locals := 23 }) [.long x0, .long n0] (fun r => r = fRem x0 n0) := by
  refine nk_ofS (cc := cX3_remainderUnsigned) (maxL := 8) (ret := (some .long)) (by decide) rfl (Nat.le_of_ble_eq_true rfl) ?_
  intro p e s m below meth c hx hb hr hml hts hown hlocks ls hl
  replace hown : s.vm.findClass RX3 = some m.cls := hown
  replace hl : lv_has ls 8 [(0, .long x0), (2, .long n0)] := hl
  refine lv_lload_n hx hb dX3_remainderUnsigned_0 rfl (lv_at hl 0 rfl) ?_
  refine lv_iconst (v := 1) hx hb dX3_remainderUnsigned_1 (by decide) ?_
  refine lv_lushr (v := (nsU x0 (1 : Int32))) hx hb dX3_remainderUnsigned_2 rfl ?_
  refine lv_lload_n hx hb dX3_remainderUnsigned_3 rfl (lv_at hl 1 rfl) ?_
  refine lv_ldiv hx hb dX3_remainderUnsigned_4 hn0 ?_
  refine lv_iconst (v := 1) hx hb dX3_remainderUnsigned_5 (by decide) ?_
  refine lv_lshl (v := (nsL ((nsU x0 (1 : Int32)) / n0) (1 : Int32))) hx hb dX3_remainderUnsigned_6 rfl ?_
  refine lv_topl (fun z1 ez1 => ?_)
  refine lv_lstore (lv' := [(4, .long z1), (0, .long x0), (2, .long n0)]) hx hb dX3_remainderUnsigned_7 hl (by decide) rfl (fun ls hl => ?_)
  refine lv_lload_n hx hb dX3_remainderUnsigned_9 rfl (lv_at hl 1 rfl) ?_
  refine lv_lload hx hb dX3_remainderUnsigned_10 (lv_at hl 0 rfl) ?_
  refine lv_lload_n hx hb dX3_remainderUnsigned_12 rfl (lv_at hl 2 rfl) ?_
  refine lv_lmul hx hb dX3_remainderUnsigned_13 ?_
  refine lv_lsub hx hb dX3_remainderUnsigned_14 ?_
  refine lv_topl (fun z2 ez2 => ?_)
  refine lv_lstore (lv' := [(6, .long z2), (4, .long z1), (0, .long x0), (2, .long n0)]) hx hb dX3_remainderUnsigned_15 hl (by decide) rfl (fun ls hl => ?_)
  refine lv_lload hx hb dX3_remainderUnsigned_17 (lv_at hl 0 rfl) ?_
  refine lv_lload_n hx hb dX3_remainderUnsigned_19 rfl (lv_at hl 3 rfl) ?_
  refine nk_SSI (As := [.long z2, .long n0]) (rest := []) ⟨hx, hb, hml, hown, hts⟩ (mX3_belowUnsigned l z2 n0) (va_cwS 2 hts gX3_remainderUnsigned_X3_belowUnsigned rfl rfl rfl (by decide +kernel) ⟨Nat.le_of_ble_eq_true rfl, Nat.le_of_ble_eq_true rfl⟩) rfl hl.1 rfl (Nat.le_of_ble_eq_true rfl) dX3_remainderUnsigned_20 ⟨Nat.zero_le _, Nat.zero_le _⟩ (fun r3 hr3 => ?_)
  subst hr3
  refine lv_if_eq (tgt := 31) hx hb dX3_remainderUnsigned_23 (by decide) (fun c23 => ?_) (fun c23 => ?_)
  · skip
    refine lv_lload hx hb dX3_remainderUnsigned_31 (lv_at hl 0 rfl) ?_
    refine lv_lload_n hx hb dX3_remainderUnsigned_33 rfl (lv_at hl 3 rfl) ?_
    refine lv_lsub hx hb dX3_remainderUnsigned_34 ?_
    exact nk_endL hx hb hr hlocks dX3_remainderUnsigned_35 (by subst ez1; subst ez2; first | exact (if_pos c23).symm | exact (if_neg c23).symm)
  · skip
    refine lv_lload hx hb dX3_remainderUnsigned_26 (lv_at hl 0 rfl) ?_
    refine lv_goto (tgt := 35) hx hb dX3_remainderUnsigned_28 (by decide) ?_
    exact nk_endL hx hb hr hlocks dX3_remainderUnsigned_35 (by subst ez1; subst ez2; first | exact (if_pos c23).symm | exact (if_neg c23).symm)
end
section
/-! what the class's methods compute -/
def fHas (pz p : Int32) : Int32 := if p < 0 then 0 else if pz ≤ p then 0 else 1
theorem ns_has {pz p : Int32} (h : ¬ fHas pz p = 0) : 0 ≤ p ∧ p < pz := by
  unfold fHas at h
  by_cases h1 : p < 0
  · rw [if_pos h1] at h; exact absurd rfl h
  · rw [if_neg h1] at h
    by_cases h2 : pz ≤ p
    · rw [if_pos h2] at h; exact absurd rfl h
    · exact ⟨Int32.not_lt.mp h1, Int32.not_le.mp h2⟩
theorem ns_hasIn {pz p : Int32} (h : ¬ fHas pz p = 0) (hz : pz ≤ 24) : vp_in p 24 := ns_in (ns_has h).1 (Int32.lt_of_lt_of_le (ns_has h).2 hz) (by decide)
def fBase (sd run key : Int64) : Int64 := fMix ((sd + (-7046029254386353131) * (run + 1)) ^^^ key)
/-- the words of a place from the (32 - k)th on, the tries so far -/
def fDraw (b f n x : Int64) : Nat → Int32 → Int64 × Int32
  | 0, tr => (-3, tr)
  | k + 1, _ => if x = 0 then (fRem (fWord b (f + (nI (32 - (k + 1))).toInt64)) n, nI (32 - (k + 1)) + 1) else if fBelow (fWord b (f + (nI (32 - (k + 1))).toInt64)) (-x) = 0 then fDraw b f n x k (nI (32 - (k + 1)) + 1) else (fRem (fWord b (f + (nI (32 - (k + 1))).toInt64)) n, nI (32 - (k + 1)) + 1)
def fSpan (b f n : Int64) (tr : Int32) : Int64 × Int32 := fDraw b f n (fRem (-n) n) 32 tr
def fPart (tc : Int32) (T : Nat → Int64) (v : Int64) : Int32 × Int32 × (Nat → Int64) := if tc < 4 then (tc + 1, tc + 1, vp_updL T tc.toNatClampNeg v) else (-2, tc, T)
def fKey (pz : Int32) (Ky : Nat → Int64) (p : Int32) : Int64 × Int32 := if fHas pz p = 0 then (0, -1) else (Ky p.toNatClampNeg, 0)
def fWd (sd : Int64) (pz : Int32) (Ky : Nat → Int64) (run : Int64) (p : Int32) (k : Int64) : Int64 × Int32 := if fHas pz p = 0 then (0, -1) else (fWord (fBase sd run (Ky p.toNatClampNeg)) k, 0)
theorem ns_nI_lt {k n : Nat} {m : Int32} (hm : m = nI n) (h : k < n) (hn : n < 2 ^ 31) : nI k < m := by rw [hm]; exact nI_lt h hn
theorem ns_step {k n : Nat} {i j : Int32} (hi : i = nI (n - (k + 1))) (h : k + 1 ≤ n) (e : j = i + 1) : j = nI (n - k) := by
  rw [e, hi, nI_1]; congr 1; omega
set_option maxHeartbeats 4000000 in
set_option maxRecDepth 100000 in
theorem mX1_has (l : Launch) (D : va_G) (ad : Nat → Nat) (ca : Nat → ClassId) (sd : Int64) (tc : Int32) (sc : Int32) (tr : Int32) (st : Int32) (pz : Int32) (T : Nat → Int64) (Wt : Nat → Int64) (O : Nat → Int32) (SA : Nat → Option Nat) (KA : Nat → Option Nat) (R : Nat → Int64) (Ln : Nat → Int32) (Ky : Nat → Int64) (Ch : Nat → Int64) (X : va_W) (p0 : Int32) : nkRI l yX1_has wsX1_has ({ frames := 0, cells := 0, slots := 0, locals := 0 }) D (tC ca) [.ref (ad 2), .int p0] (wC ad ca sd tc sc tr st pz T Wt O SA KA R Ln Ky Ch X) (fun r => r = fHas pz p0) := by
  refine nk_ofR (cc := cX1_has) (maxL := 2) (ret := (some .boolean)) (by decide) rfl (Nat.le_of_ble_eq_true rfl) ?_
  intro p e s m below meth c hx hb hr hml hts hown hlocks hK hP ls hl
  replace hown : s.vm.findClass RX1 = some m.cls := hown
  replace hl : lv_has ls 2 [(0, .ref (ad 2)), (1, .int p0)] := hl
  have hP : va_P D vwCl (wC ad ca sd tc sc tr st pz T Wt O SA KA R Ln Ky Ch X) s.heap := hP
  have iX1 : ∀ w ∈ u_ws RX1 TX1 5, w ∈ wsX1_has := by decide +kernel
  refine lv_iload_n hx hb dX1_has_0 rfl (lv_at hl 1 rfl) ?_
  refine lv_if_lt (tgt := 16) hx hb dX1_has_1 (by decide) (fun c1 => ?_) (fun c1 => ?_)
  · skip
    refine lv_iconst (v := 0) hx hb dX1_has_16 (by decide) ?_
    exact nk_endZ hx hb hr hlocks (by first | rfl | decide) dX1_has_17 (by simp only [fHas]; first | rw [if_pos c1] | rw [if_neg c1, if_pos c9] | rw [if_neg c1, if_neg c9])
  · skip
    refine lv_iload_n hx hb dX1_has_4 rfl (lv_at hl 1 rfl) ?_
    refine lv_aload_n hx hb dX1_has_5 rfl (lv_at hl 0 rfl) ?_
    refine va_get (D := D) (ci := 1) (v := .int pz) (C := RX1) (T := TX1) (N := 5) hx hb hts iX1 hown hK.1 hP 2 rfl rfl 4 (by decide) (hts (.fieldLink RX1 25 "NamedStreams$Paths" "size" "I") (by decide +kernel)) (fun _ h9 => h9) rfl dX1_has_6 ?_
    refine lv_icmp_ge (tgt := 16) hx hb dX1_has_9 (by decide) (fun c9 => ?_) (fun c9 => ?_)
    · skip
      refine lv_iconst (v := 0) hx hb dX1_has_16 (by decide) ?_
      exact nk_endZ hx hb hr hlocks (by first | rfl | decide) dX1_has_17 (by simp only [fHas]; first | rw [if_pos c1] | rw [if_neg c1, if_pos c9] | rw [if_neg c1, if_neg c9])
    · skip
      refine lv_iconst (v := 1) hx hb dX1_has_12 (by decide) ?_
      refine lv_goto (tgt := 17) hx hb dX1_has_13 (by decide) ?_
      exact nk_endZ hx hb hr hlocks (by first | rfl | decide) dX1_has_17 (by simp only [fHas]; first | rw [if_pos c1] | rw [if_neg c1, if_pos c9] | rw [if_neg c1, if_neg c9])

set_option maxHeartbeats 4000000 in
set_option maxRecDepth 100000 in
theorem mX3_baseOf (l : Launch) (D : va_G) (ad : Nat → Nat) (ca : Nat → ClassId) (sd : Int64) (tc : Int32) (sc : Int32) (tr : Int32) (st : Int32) (pz : Int32) (T : Nat → Int64) (Wt : Nat → Int64) (O : Nat → Int32) (SA : Nat → Option Nat) (KA : Nat → Option Nat) (R : Nat → Int64) (Ln : Nat → Int32) (Ky : Nat → Int64) (Ch : Nat → Int64) (X : va_W) (run0 : Int64) (p0 : Int32) (hp0 : vp_in p0 24) : nkRL l yX3_baseOf wsX3_baseOf ({ frames := 1, cells := 0, slots := 0, locals := 23 }) D (tC ca) [.ref (ad 0), .long run0, .int p0] (wC ad ca sd tc sc tr st pz T Wt O SA KA R Ln Ky Ch X) (fun r => r = fBase sd run0 (Ky p0.toNatClampNeg)) := by
  refine nk_ofR (cc := cX3_baseOf) (maxL := 4) (ret := (some .long)) (by decide) rfl (Nat.le_of_ble_eq_true rfl) ?_
  intro p e s m below meth c hx hb hr hml hts hown hlocks hK hP ls hl
  replace hown : s.vm.findClass RX3 = some m.cls := hown
  replace hl : lv_has ls 4 [(0, .ref (ad 0)), (1, .long run0), (3, .int p0)] := hl
  have hP : va_P D vwCl (wC ad ca sd tc sc tr st pz T Wt O SA KA R Ln Ky Ch X) s.heap := hP
  have iX1 : ∀ w ∈ u_ws RX1 TX1 5, w ∈ wsX3_baseOf := by decide +kernel
  have iX3 : ∀ w ∈ u_ws RX3 TX3 11, w ∈ wsX3_baseOf := by decide +kernel
  refine lv_aload_n hx hb dX3_baseOf_0 rfl (lv_at hl 0 rfl) ?_
  refine va_get (D := D) (ci := 3) (v := .long sd) (C := RX3) (T := TX3) (N := 11) hx hb hts iX3 hown hK.1 hP 0 rfl rfl 0 (by decide) (hts (.fieldLink RX3 52 "NamedStreams" "seed" "J") (by decide +kernel)) (fun _ h9 => h9) rfl dX3_baseOf_1 ?_
  refine lv_ldc2 (v := -7046029254386353131) hx hb hown (hts (.constantLong RX3 135 (-7046029254386353131)) (by decide +kernel)) dX3_baseOf_4 ?_
  refine lv_lload_n hx hb dX3_baseOf_7 rfl (lv_at hl 1 rfl) ?_
  refine lv_lconst (v := 1) hx hb dX3_baseOf_8 (by decide) ?_
  refine lv_ladd hx hb dX3_baseOf_9 ?_
  refine lv_lmul hx hb dX3_baseOf_10 ?_
  refine lv_ladd hx hb dX3_baseOf_11 ?_
  refine lv_aload_n hx hb dX3_baseOf_12 rfl (lv_at hl 0 rfl) ?_
  refine va_get (D := D) (ci := 3) (v := .ref (ad 2)) (C := RX3) (T := TX3) (N := 11) hx hb hts iX3 hown hK.1 hP 0 rfl rfl 3 (by decide) (hts (.fieldLink RX3 20 "NamedStreams" "paths" "LNamedStreams$Paths;") (by decide +kernel)) (fun _ h9 => h9) rfl dX3_baseOf_13 ?_
  refine va_get (D := D) (ci := 1) (v := .ref (ad 9)) (C := RX1) (T := TX1) (N := 5) hx hb hts iX1 hown hK.1 hP 2 rfl rfl 2 (by decide) (hts (.fieldLink RX3 64 "NamedStreams$Paths" "keys" "[J") (by decide +kernel)) (fun _ h9 => h9) rfl dX3_baseOf_16 ?_
  refine lv_iload_n hx hb dX3_baseOf_19 rfl (lv_at hl 2 rfl) ?_
  refine va_lald hx hb hK.1 hP 9 7 rfl rfl hp0 dX3_baseOf_20 ?_
  refine lv_lxor hx hb dX3_baseOf_21 ?_
  refine nk_SSL (As := [.long ((sd + ((-7046029254386353131 : Int64) * (run0 + (1 : Int64)))) ^^^ (Ky (Int32.toNatClampNeg p0)))]) (rest := []) ⟨hx, hb, hml, hown, hts⟩ (mX3_mix l ((sd + ((-7046029254386353131 : Int64) * (run0 + (1 : Int64)))) ^^^ (Ky (Int32.toNatClampNeg p0)))) (va_cwS 1 hts gX3_baseOf_X3_mix rfl rfl rfl (by decide +kernel) ⟨Nat.le_of_ble_eq_true rfl, Nat.le_of_ble_eq_true rfl⟩) rfl hl.1 rfl (Nat.le_of_ble_eq_true rfl) dX3_baseOf_22 ⟨Nat.zero_le _, Nat.zero_le _⟩ (fun r1 hr1 => ?_)
  subst hr1
  exact nk_endL hx hb hr hlocks dX3_baseOf_25 (by rfl)

set_option maxHeartbeats 4000000 in
set_option maxRecDepth 100000 in
theorem mX3_tries (l : Launch) (D : va_G) (ad : Nat → Nat) (ca : Nat → ClassId) (sd : Int64) (tc : Int32) (sc : Int32) (tr : Int32) (st : Int32) (pz : Int32) (T : Nat → Int64) (Wt : Nat → Int64) (O : Nat → Int32) (SA : Nat → Option Nat) (KA : Nat → Option Nat) (R : Nat → Int64) (Ln : Nat → Int32) (Ky : Nat → Int64) (Ch : Nat → Int64) (X : va_W) : nkRI l yX3_tries wsX3_tries ({ frames := 0, cells := 0, slots := 0, locals := 0 }) D (tC ca) [.ref (ad 0)] (wC ad ca sd tc sc tr st pz T Wt O SA KA R Ln Ky Ch X) (fun r => r = tr) := by
  refine nk_ofR (cc := cX3_tries) (maxL := 1) (ret := (some .int)) (by decide) rfl (Nat.le_of_ble_eq_true rfl) ?_
  intro p e s m below meth c hx hb hr hml hts hown hlocks hK hP ls hl
  replace hown : s.vm.findClass RX3 = some m.cls := hown
  replace hl : lv_has ls 1 [(0, .ref (ad 0))] := hl
  have hP : va_P D vwCl (wC ad ca sd tc sc tr st pz T Wt O SA KA R Ln Ky Ch X) s.heap := hP
  have iX3 : ∀ w ∈ u_ws RX3 TX3 11, w ∈ wsX3_tries := by decide +kernel
  refine lv_aload_n hx hb dX3_tries_0 rfl (lv_at hl 0 rfl) ?_
  refine va_get (D := D) (ci := 3) (v := .int tr) (C := RX3) (T := TX3) (N := 11) hx hb hts iX3 hown hK.1 hP 0 rfl rfl 9 (by decide) (hts (.fieldLink RX3 46 "NamedStreams" "latestTries" "I") (by decide +kernel)) (fun _ h9 => h9) rfl dX3_tries_1 ?_
  exact nk_endI hx hb hr hlocks dX3_tries_4 (by rfl)

set_option maxHeartbeats 4000000 in
set_option maxRecDepth 100000 in
theorem mX3_status (l : Launch) (D : va_G) (ad : Nat → Nat) (ca : Nat → ClassId) (sd : Int64) (tc : Int32) (sc : Int32) (tr : Int32) (st : Int32) (pz : Int32) (T : Nat → Int64) (Wt : Nat → Int64) (O : Nat → Int32) (SA : Nat → Option Nat) (KA : Nat → Option Nat) (R : Nat → Int64) (Ln : Nat → Int32) (Ky : Nat → Int64) (Ch : Nat → Int64) (X : va_W) : nkRI l yX3_status wsX3_status ({ frames := 0, cells := 0, slots := 0, locals := 0 }) D (tC ca) [.ref (ad 0)] (wC ad ca sd tc sc tr st pz T Wt O SA KA R Ln Ky Ch X) (fun r => r = st) := by
  refine nk_ofR (cc := cX3_status) (maxL := 1) (ret := (some .int)) (by decide) rfl (Nat.le_of_ble_eq_true rfl) ?_
  intro p e s m below meth c hx hb hr hml hts hown hlocks hK hP ls hl
  replace hown : s.vm.findClass RX3 = some m.cls := hown
  replace hl : lv_has ls 1 [(0, .ref (ad 0))] := hl
  have hP : va_P D vwCl (wC ad ca sd tc sc tr st pz T Wt O SA KA R Ln Ky Ch X) s.heap := hP
  have iX3 : ∀ w ∈ u_ws RX3 TX3 11, w ∈ wsX3_status := by decide +kernel
  refine lv_aload_n hx hb dX3_status_0 rfl (lv_at hl 0 rfl) ?_
  refine va_get (D := D) (ci := 3) (v := .int st) (C := RX3) (T := TX3) (N := 11) hx hb hts iX3 hown hK.1 hP 0 rfl rfl 10 (by decide) (hts (.fieldLink RX3 49 "NamedStreams" "latestStatus" "I") (by decide +kernel)) (fun _ h9 => h9) rfl dX3_status_1 ?_
  exact nk_endI hx hb hr hlocks dX3_status_4 (by rfl)

set_option maxHeartbeats 4000000 in
set_option maxRecDepth 100000 in
theorem mX3_part (l : Launch) (D : va_G) (ad : Nat → Nat) (ca : Nat → ClassId) (sd : Int64) (tc : Int32) (sc : Int32) (tr : Int32) (st : Int32) (pz : Int32) (T : Nat → Int64) (Wt : Nat → Int64) (O : Nat → Int32) (SA : Nat → Option Nat) (KA : Nat → Option Nat) (R : Nat → Int64) (Ln : Nat → Int32) (Ky : Nat → Int64) (Ch : Nat → Int64) (X : va_W) (v0 : Int64) (h0 : 0 ≤ tc) : nkMI l yX3_part wsX3_part ({ frames := 0, cells := 0, slots := 0, locals := 0 }) D (tC ca) [.ref (ad 0), .long v0] (wC ad ca sd tc sc tr st pz T Wt O SA KA R Ln Ky Ch X) (fun u : Int32 × (Nat → Int64) => wC ad ca sd u.1 sc tr st pz u.2 Wt O SA KA R Ln Ky Ch X) (fun r u => fPart tc T v0 = (r, u)) 0 0 := by
  refine nk_ofM (Qf := fun A => va_Qi (fun r u => fPart tc T v0 = (r, u)) (nkB D A (fun u : Int32 × (Nat → Int64) => wC ad ca sd u.1 sc tr st pz u.2 Wt O SA KA R Ln Ky Ch X)) A) (cc := cX3_part) (maxL := 3) (ret := (some .int)) (by decide) rfl (Nat.le_of_ble_eq_true rfl) ?_
  intro p e s m below meth c A hx hb hr hml hts hown hlocks hin hK hP hD hA hS ls hl
  replace hown : s.vm.findClass RX3 = some m.cls := hown
  replace hl : lv_has ls 3 [(0, .ref (ad 0)), (1, .long v0)] := hl
  have hP : va_P D vwCl (wC ad ca sd tc sc tr st pz T Wt O SA KA R Ln Ky Ch X) s.heap := hP
  have iX3 : ∀ w ∈ u_ws RX3 TX3 11, w ∈ wsX3_part := by decide +kernel
  refine lv_aload_n hx hb dX3_part_0 rfl (lv_at hl 0 rfl) ?_
  refine va_get (D := D) (ci := 3) (v := .int tc) (C := RX3) (T := TX3) (N := 11) hx hb hts iX3 hown hK.1 hP 0 rfl rfl 2 (by decide) (hts (.fieldLink RX3 13 "NamedStreams" "toldCount" "I") (by decide +kernel)) (fun _ h9 => h9) rfl dX3_part_1 ?_
  refine lv_iconst (v := 4) hx hb dX3_part_4 (by decide) ?_
  refine lv_icmp_lt (tgt := 11) hx hb dX3_part_5 (by decide) (fun c5 => ?_) (fun c5 => ?_)
  · skip
    refine lv_aload_n hx hb dX3_part_11 rfl (lv_at hl 0 rfl) ?_
    refine va_get (D := D) (ci := 3) (v := .ref (ad 1)) (C := RX3) (T := TX3) (N := 11) hx hb hts iX3 hown hK.1 hP 0 rfl rfl 1 (by decide) (hts (.fieldLink RX3 9 "NamedStreams" "toldParts" "[J") (by decide +kernel)) (fun _ h9 => h9) rfl dX3_part_12 ?_
    refine lv_aload_n hx hb dX3_part_15 rfl (lv_at hl 0 rfl) ?_
    refine va_get (D := D) (ci := 3) (v := .int tc) (C := RX3) (T := TX3) (N := 11) hx hb hts iX3 hown hK.1 hP 0 rfl rfl 2 (by decide) (hts (.fieldLink RX3 13 "NamedStreams" "toldCount" "I") (by decide +kernel)) (fun _ h9 => h9) rfl dX3_part_16 ?_
    refine lv_lload_n hx hb dX3_part_19 rfl (lv_at hl 1 rfl) ?_
    refine va_last hx hb hK.1 hP hD hS 1 0 rfl rfl (ns_in h0 c5 (by decide)) dX3_part_20 (fun H locs hP hD hS => ?_)
    have hP : va_P D vwCl (wC ad ca sd tc sc tr st pz (vp_updL T (Int32.toNatClampNeg tc) v0) Wt O SA KA R Ln Ky Ch X) H := hP
    have hD : va_D A (wC ad ca sd tc sc tr st pz (vp_updL T (Int32.toNatClampNeg tc) v0) Wt O SA KA R Ln Ky Ch X) := hD
    refine lv_aload_n hx hb dX3_part_21 rfl (lv_at hl 0 rfl) ?_
    refine lv_dup hx hb dX3_part_22 rfl ?_
    refine va_get (D := D) (ci := 3) (v := .int tc) (C := RX3) (T := TX3) (N := 11) hx hb hts iX3 hown hK.1 hP 0 rfl rfl 2 (by decide) (hts (.fieldLink RX3 13 "NamedStreams" "toldCount" "I") (by decide +kernel)) (fun _ h9 => h9) rfl dX3_part_23 ?_
    refine lv_iconst (v := 1) hx hb dX3_part_26 (by decide) ?_
    refine lv_iadd hx hb dX3_part_27 ?_
    refine lv_topi (fun z1 ez1 => ?_)
    refine va_put (D := D) (ci := 3) (v := .int z1) (ty := .int) (C := RX3) (T := TX3) (N := 11) hx hb hts iX3 tyX3 tyX3_ok nmX3 hown hK.1 hP hD hS 0 rfl rfl 2 (by decide) (hts (.fieldLink RX3 13 "NamedStreams" "toldCount" "I") (by decide +kernel)) (fun _ h9 => h9) rfl (by decide +kernel) rfl rfl (Nat.le_of_ble_eq_true rfl) dX3_part_28 (fun H locs hP hD hS => ?_)
    have hP : va_P D vwCl (wC ad ca sd z1 sc tr st pz (vp_updL T (Int32.toNatClampNeg tc) v0) Wt O SA KA R Ln Ky Ch X) H := hP
    have hD : va_D A (wC ad ca sd z1 sc tr st pz (vp_updL T (Int32.toNatClampNeg tc) v0) Wt O SA KA R Ln Ky Ch X) := hD
    refine lv_aload_n hx hb dX3_part_31 rfl (lv_at hl 0 rfl) ?_
    refine va_get (D := D) (ci := 3) (v := .int z1) (C := RX3) (T := TX3) (N := 11) hx hb hts iX3 hown hK.1 hP 0 rfl rfl 2 (by decide) (hts (.fieldLink RX3 13 "NamedStreams" "toldCount" "I") (by decide +kernel)) (fun _ h9 => h9) rfl dX3_part_32 ?_
    exact nk_retI (g := _) (z1, (vp_updL T (Int32.toNatClampNeg tc) v0)) hx hb hr hlocks hP hD hS dX3_part_35 (by subst ez1; simp only [fPart]; first | rw [if_pos c5] | rw [if_neg c5])
  · skip
    refine lv_bipush (v := -2) hx hb dX3_part_8 (by decide) ?_
    exact nk_retI (g := _) (tc, T) hx hb hr hlocks hP hD hS dX3_part_10 (by simp only [fPart]; first | rw [if_pos c5] | rw [if_neg c5])

set_option maxHeartbeats 4000000 in
set_option maxRecDepth 100000 in
theorem mX3_key (l : Launch) (D : va_G) (ad : Nat → Nat) (ca : Nat → ClassId) (sd : Int64) (tc : Int32) (sc : Int32) (tr : Int32) (st : Int32) (pz : Int32) (T : Nat → Int64) (Wt : Nat → Int64) (O : Nat → Int32) (SA : Nat → Option Nat) (KA : Nat → Option Nat) (R : Nat → Int64) (Ln : Nat → Int32) (Ky : Nat → Int64) (Ch : Nat → Int64) (X : va_W) (p0 : Int32) (hz : pz ≤ 24) : nkML l yX3_key wsX3_key ({ frames := 1, cells := 0, slots := 0, locals := 21 }) D (tC ca) [.ref (ad 0), .int p0] (wC ad ca sd tc sc tr st pz T Wt O SA KA R Ln Ky Ch X) (fun u : Int32 => wC ad ca sd tc sc tr u pz T Wt O SA KA R Ln Ky Ch X) (fun r u => fKey pz Ky p0 = (r, u)) 0 0 := by
  refine nk_ofM (Qf := fun A => va_Ql (fun r u => fKey pz Ky p0 = (r, u)) (nkB D A (fun u : Int32 => wC ad ca sd tc sc tr u pz T Wt O SA KA R Ln Ky Ch X)) A) (cc := cX3_key) (maxL := 2) (ret := (some .long)) (by decide) rfl (Nat.le_of_ble_eq_true rfl) ?_
  intro p e s m below meth c A hx hb hr hml hts hown hlocks hin hK hP hD hA hS ls hl
  replace hown : s.vm.findClass RX3 = some m.cls := hown
  replace hl : lv_has ls 2 [(0, .ref (ad 0)), (1, .int p0)] := hl
  have hP : va_P D vwCl (wC ad ca sd tc sc tr st pz T Wt O SA KA R Ln Ky Ch X) s.heap := hP
  have iX1 : ∀ w ∈ u_ws RX1 TX1 5, w ∈ wsX3_key := by decide +kernel
  have iX3 : ∀ w ∈ u_ws RX3 TX3 11, w ∈ wsX3_key := by decide +kernel
  refine lv_aload_n hx hb dX3_key_0 rfl (lv_at hl 0 rfl) ?_
  refine va_get (D := D) (ci := 3) (v := .ref (ad 2)) (C := RX3) (T := TX3) (N := 11) hx hb hts iX3 hown hK.1 hP 0 rfl rfl 3 (by decide) (hts (.fieldLink RX3 20 "NamedStreams" "paths" "LNamedStreams$Paths;") (by decide +kernel)) (fun _ h9 => h9) rfl dX3_key_1 ?_
  refine lv_iload_n hx hb dX3_key_4 rfl (lv_at hl 1 rfl) ?_
  refine nk_VRI (As := [.int p0]) (rest := []) ⟨hx, hb, hml, hown, hts⟩ (mX1_has l D ad ca sd tc sc tr st pz T Wt O SA KA R Ln Ky Ch X p0) (cwV 1 hts gX3_key_X1_has rfl rfl rfl (by decide +kernel) ⟨Nat.le_of_ble_eq_true rfl, Nat.le_of_ble_eq_true rfl⟩) hK hP 2 1 rfl rfl rfl rfl hl.1 rfl (Nat.le_of_ble_eq_true rfl) dX3_key_5 ⟨Nat.zero_le _, Nat.zero_le _⟩ (fun r1 hr1 => ?_)
  subst hr1
  refine lv_if_ne (tgt := 18) hx hb dX3_key_8 (by decide) (fun c8 => ?_) (fun c8 => ?_)
  · skip
    refine lv_aload_n hx hb dX3_key_18 rfl (lv_at hl 0 rfl) ?_
    refine lv_iconst (v := 0) hx hb dX3_key_19 (by decide) ?_
    refine va_put (D := D) (ci := 3) (v := .int (0 : Int32)) (ty := .int) (C := RX3) (T := TX3) (N := 11) hx hb hts iX3 tyX3 tyX3_ok nmX3 hown hK.1 hP hD hS 0 rfl rfl 10 (by decide) (hts (.fieldLink RX3 49 "NamedStreams" "latestStatus" "I") (by decide +kernel)) (fun _ h9 => h9) rfl (by decide +kernel) rfl rfl (Nat.le_of_ble_eq_true rfl) dX3_key_20 (fun H locs hP hD hS => ?_)
    have hP : va_P D vwCl (wC ad ca sd tc sc tr (0 : Int32) pz T Wt O SA KA R Ln Ky Ch X) H := hP
    have hD : va_D A (wC ad ca sd tc sc tr (0 : Int32) pz T Wt O SA KA R Ln Ky Ch X) := hD
    refine lv_aload_n hx hb dX3_key_23 rfl (lv_at hl 0 rfl) ?_
    refine va_get (D := D) (ci := 3) (v := .ref (ad 2)) (C := RX3) (T := TX3) (N := 11) hx hb hts iX3 hown hK.1 hP 0 rfl rfl 3 (by decide) (hts (.fieldLink RX3 20 "NamedStreams" "paths" "LNamedStreams$Paths;") (by decide +kernel)) (fun _ h9 => h9) rfl dX3_key_24 ?_
    refine va_get (D := D) (ci := 1) (v := .ref (ad 9)) (C := RX1) (T := TX1) (N := 5) hx hb hts iX1 hown hK.1 hP 2 rfl rfl 2 (by decide) (hts (.fieldLink RX3 64 "NamedStreams$Paths" "keys" "[J") (by decide +kernel)) (fun _ h9 => h9) rfl dX3_key_27 ?_
    refine lv_iload_n hx hb dX3_key_30 rfl (lv_at hl 1 rfl) ?_
    refine va_lald hx hb hK.1 hP 9 7 rfl rfl (ns_hasIn c8 hz) dX3_key_31 ?_
    exact nk_retL (g := _) (0 : Int32) hx hb hr hlocks hP hD hS dX3_key_32 (by simp only [fKey]; first | rw [if_pos c8] | rw [if_neg c8])
  · skip
    refine lv_aload_n hx hb dX3_key_11 rfl (lv_at hl 0 rfl) ?_
    refine lv_iconst (v := -1) hx hb dX3_key_12 (by decide) ?_
    refine va_put (D := D) (ci := 3) (v := .int (-1 : Int32)) (ty := .int) (C := RX3) (T := TX3) (N := 11) hx hb hts iX3 tyX3 tyX3_ok nmX3 hown hK.1 hP hD hS 0 rfl rfl 10 (by decide) (hts (.fieldLink RX3 49 "NamedStreams" "latestStatus" "I") (by decide +kernel)) (fun _ h9 => h9) rfl (by decide +kernel) rfl rfl (Nat.le_of_ble_eq_true rfl) dX3_key_13 (fun H locs hP hD hS => ?_)
    have hP : va_P D vwCl (wC ad ca sd tc sc tr (-1 : Int32) pz T Wt O SA KA R Ln Ky Ch X) H := hP
    have hD : va_D A (wC ad ca sd tc sc tr (-1 : Int32) pz T Wt O SA KA R Ln Ky Ch X) := hD
    refine lv_lconst (v := 0) hx hb dX3_key_16 (by decide) ?_
    exact nk_retL (g := _) (-1 : Int32) hx hb hr hlocks hP hD hS dX3_key_17 (by simp only [fKey]; first | rw [if_pos c8] | rw [if_neg c8])

set_option maxHeartbeats 4000000 in
set_option maxRecDepth 100000 in
theorem mX3_word (l : Launch) (D : va_G) (ad : Nat → Nat) (ca : Nat → ClassId) (sd : Int64) (tc : Int32) (sc : Int32) (tr : Int32) (st : Int32) (pz : Int32) (T : Nat → Int64) (Wt : Nat → Int64) (O : Nat → Int32) (SA : Nat → Option Nat) (KA : Nat → Option Nat) (R : Nat → Int64) (Ln : Nat → Int32) (Ky : Nat → Int64) (Ch : Nat → Int64) (X : va_W) (run0 : Int64) (p0 : Int32) (k0 : Int64) (hz : pz ≤ 24) : nkML l yX3_word wsX3_word ({ frames := 2, cells := 0, slots := 0, locals := 46 }) D (tC ca) [.ref (ad 0), .long run0, .int p0, .long k0] (wC ad ca sd tc sc tr st pz T Wt O SA KA R Ln Ky Ch X) (fun u : Int32 => wC ad ca sd tc sc tr u pz T Wt O SA KA R Ln Ky Ch X) (fun r u => fWd sd pz Ky run0 p0 k0 = (r, u)) 0 0 := by
  refine nk_ofM (Qf := fun A => va_Ql (fun r u => fWd sd pz Ky run0 p0 k0 = (r, u)) (nkB D A (fun u : Int32 => wC ad ca sd tc sc tr u pz T Wt O SA KA R Ln Ky Ch X)) A) (cc := cX3_word) (maxL := 6) (ret := (some .long)) (by decide) rfl (Nat.le_of_ble_eq_true rfl) ?_
  intro p e s m below meth c A hx hb hr hml hts hown hlocks hin hK hP hD hA hS ls hl
  replace hown : s.vm.findClass RX3 = some m.cls := hown
  replace hl : lv_has ls 6 [(0, .ref (ad 0)), (1, .long run0), (3, .int p0), (4, .long k0)] := hl
  have hP : va_P D vwCl (wC ad ca sd tc sc tr st pz T Wt O SA KA R Ln Ky Ch X) s.heap := hP
  have iX1 : ∀ w ∈ u_ws RX1 TX1 5, w ∈ wsX3_word := by decide +kernel
  have iX3 : ∀ w ∈ u_ws RX3 TX3 11, w ∈ wsX3_word := by decide +kernel
  refine lv_aload_n hx hb dX3_word_0 rfl (lv_at hl 0 rfl) ?_
  refine va_get (D := D) (ci := 3) (v := .ref (ad 2)) (C := RX3) (T := TX3) (N := 11) hx hb hts iX3 hown hK.1 hP 0 rfl rfl 3 (by decide) (hts (.fieldLink RX3 20 "NamedStreams" "paths" "LNamedStreams$Paths;") (by decide +kernel)) (fun _ h9 => h9) rfl dX3_word_1 ?_
  refine lv_iload_n hx hb dX3_word_4 rfl (lv_at hl 2 rfl) ?_
  refine nk_VRI (As := [.int p0]) (rest := []) ⟨hx, hb, hml, hown, hts⟩ (mX1_has l D ad ca sd tc sc tr st pz T Wt O SA KA R Ln Ky Ch X p0) (cwV 1 hts gX3_word_X1_has rfl rfl rfl (by decide +kernel) ⟨Nat.le_of_ble_eq_true rfl, Nat.le_of_ble_eq_true rfl⟩) hK hP 2 1 rfl rfl rfl rfl hl.1 rfl (Nat.le_of_ble_eq_true rfl) dX3_word_5 ⟨Nat.zero_le _, Nat.zero_le _⟩ (fun r1 hr1 => ?_)
  subst hr1
  refine lv_if_ne (tgt := 18) hx hb dX3_word_8 (by decide) (fun c8 => ?_) (fun c8 => ?_)
  · skip
    refine lv_aload_n hx hb dX3_word_18 rfl (lv_at hl 0 rfl) ?_
    refine lv_iconst (v := 0) hx hb dX3_word_19 (by decide) ?_
    refine va_put (D := D) (ci := 3) (v := .int (0 : Int32)) (ty := .int) (C := RX3) (T := TX3) (N := 11) hx hb hts iX3 tyX3 tyX3_ok nmX3 hown hK.1 hP hD hS 0 rfl rfl 10 (by decide) (hts (.fieldLink RX3 49 "NamedStreams" "latestStatus" "I") (by decide +kernel)) (fun _ h9 => h9) rfl (by decide +kernel) rfl rfl (Nat.le_of_ble_eq_true rfl) dX3_word_20 (fun H locs hP hD hS => ?_)
    have hP : va_P D vwCl (wC ad ca sd tc sc tr (0 : Int32) pz T Wt O SA KA R Ln Ky Ch X) H := hP
    have hD : va_D A (wC ad ca sd tc sc tr (0 : Int32) pz T Wt O SA KA R Ln Ky Ch X) := hD
    refine lv_aload_n hx hb dX3_word_23 rfl (lv_at hl 0 rfl) ?_
    refine lv_lload_n hx hb dX3_word_24 rfl (lv_at hl 1 rfl) ?_
    refine lv_iload_n hx hb dX3_word_25 rfl (lv_at hl 2 rfl) ?_
    refine nk_VRL (As := [.long run0, .int p0]) (rest := []) ⟨hx, hb, hml, hown, hts⟩ (mX3_baseOf l D ad ca sd tc sc tr (0 : Int32) pz T Wt O SA KA R Ln Ky Ch X run0 p0 (ns_hasIn c8 hz)) (cwV 2 hts gX3_word_X3_baseOf rfl rfl rfl (by decide +kernel) ⟨Nat.le_of_ble_eq_true rfl, Nat.le_of_ble_eq_true rfl⟩) hK hP 0 3 rfl rfl rfl rfl hl.1 rfl (Nat.le_of_ble_eq_true rfl) dX3_word_26 ⟨Nat.zero_le _, Nat.zero_le _⟩ (fun r2 hr2 => ?_)
    subst hr2
    refine lv_lload hx hb dX3_word_29 (lv_at hl 3 rfl) ?_
    refine nk_SSL (As := [.long (fBase sd run0 (Ky (Int32.toNatClampNeg p0))), .long k0]) (rest := []) ⟨hx, hb, hml, hown, hts⟩ (mX3_wordAt l (fBase sd run0 (Ky (Int32.toNatClampNeg p0))) k0) (va_cwS 2 hts gX3_word_X3_wordAt rfl rfl rfl (by decide +kernel) ⟨Nat.le_of_ble_eq_true rfl, Nat.le_of_ble_eq_true rfl⟩) rfl hl.1 rfl (Nat.le_of_ble_eq_true rfl) dX3_word_31 ⟨Nat.zero_le _, Nat.zero_le _⟩ (fun r3 hr3 => ?_)
    subst hr3
    exact nk_retL (g := _) (0 : Int32) hx hb hr hlocks hP hD hS dX3_word_34 (by exact (if_neg c8))
  · skip
    refine lv_aload_n hx hb dX3_word_11 rfl (lv_at hl 0 rfl) ?_
    refine lv_iconst (v := -1) hx hb dX3_word_12 (by decide) ?_
    refine va_put (D := D) (ci := 3) (v := .int (-1 : Int32)) (ty := .int) (C := RX3) (T := TX3) (N := 11) hx hb hts iX3 tyX3 tyX3_ok nmX3 hown hK.1 hP hD hS 0 rfl rfl 10 (by decide) (hts (.fieldLink RX3 49 "NamedStreams" "latestStatus" "I") (by decide +kernel)) (fun _ h9 => h9) rfl (by decide +kernel) rfl rfl (Nat.le_of_ble_eq_true rfl) dX3_word_13 (fun H locs hP hD hS => ?_)
    have hP : va_P D vwCl (wC ad ca sd tc sc tr (-1 : Int32) pz T Wt O SA KA R Ln Ky Ch X) H := hP
    have hD : va_D A (wC ad ca sd tc sc tr (-1 : Int32) pz T Wt O SA KA R Ln Ky Ch X) := hD
    refine lv_lconst (v := 0) hx hb dX3_word_16 (by decide) ?_
    exact nk_retL (g := _) (-1 : Int32) hx hb hr hlocks hP hD hS dX3_word_17 (by exact (if_pos c8))

set_option maxHeartbeats 4000000 in
set_option maxRecDepth 100000 in
theorem mX3_drawSpan (l : Launch) (D : va_G) (ad : Nat → Nat) (ca : Nat → ClassId) (sd : Int64) (tc : Int32) (sc : Int32) (tr : Int32) (st : Int32) (pz : Int32) (T : Nat → Int64) (Wt : Nat → Int64) (O : Nat → Int32) (SA : Nat → Option Nat) (KA : Nat → Option Nat) (R : Nat → Int64) (Ln : Nat → Int32) (Ky : Nat → Int64) (Ch : Nat → Int64) (X : va_W) (run0 : Int64) (p0 c0 : Int32) (n0 : Int64) (hp0 : vp_in p0 24) (hn0 : ¬ n0 = 0) : nkML l yX3_drawSpan wsX3_drawSpan ({ frames := 2, cells := 0, slots := 0, locals := 50 }) D (tC ca) [.ref (ad 0), .long run0, .int p0, .int c0, .long n0] (wC ad ca sd tc sc tr st pz T Wt O SA KA R Ln Ky Ch X) (fun u : Int32 => wC ad ca sd tc sc u st pz T Wt O SA KA R Ln Ky Ch X) (fun r u => fSpan (fBase sd run0 (Ky p0.toNatClampNeg)) (fFirst c0) n0 tr = (r, u)) 0 0 := by
  refine nk_ofM (Qf := fun A => va_Ql (fun r u => fSpan (fBase sd run0 (Ky p0.toNatClampNeg)) (fFirst c0) n0 tr = (r, u)) (nkB D A (fun u : Int32 => wC ad ca sd tc sc u st pz T Wt O SA KA R Ln Ky Ch X)) A) (cc := cX3_drawSpan) (maxL := 16) (ret := (some .long)) (by decide) rfl (Nat.le_of_ble_eq_true rfl) ?_
  intro p e s m below meth c A hx hb hr hml hts hown hlocks hin hK hP hD hA hS ls hl
  replace hown : s.vm.findClass RX3 = some m.cls := hown
  replace hl : lv_has ls 16 [(0, .ref (ad 0)), (1, .long run0), (3, .int p0), (4, .int c0), (5, .long n0)] := hl
  have hP : va_P D vwCl (wC ad ca sd tc sc tr st pz T Wt O SA KA R Ln Ky Ch X) s.heap := hP
  have iX1 : ∀ w ∈ u_ws RX1 TX1 5, w ∈ wsX3_drawSpan := by decide +kernel
  have iX3 : ∀ w ∈ u_ws RX3 TX3 11, w ∈ wsX3_drawSpan := by decide +kernel
  refine lv_aload_n hx hb dX3_drawSpan_0 rfl (lv_at hl 0 rfl) ?_
  refine lv_lload_n hx hb dX3_drawSpan_1 rfl (lv_at hl 1 rfl) ?_
  refine lv_iload_n hx hb dX3_drawSpan_2 rfl (lv_at hl 2 rfl) ?_
  refine nk_VRL (As := [.long run0, .int p0]) (rest := []) ⟨hx, hb, hml, hown, hts⟩ (mX3_baseOf l D ad ca sd tc sc tr st pz T Wt O SA KA R Ln Ky Ch X run0 p0 hp0) (cwV 2 hts gX3_drawSpan_X3_baseOf rfl rfl rfl (by decide +kernel) ⟨Nat.le_of_ble_eq_true rfl, Nat.le_of_ble_eq_true rfl⟩) hK hP 0 3 rfl rfl rfl rfl hl.1 rfl (Nat.le_of_ble_eq_true rfl) dX3_drawSpan_3 ⟨Nat.zero_le _, Nat.zero_le _⟩ (fun r1 hr1 => ?_)
  subst hr1
  refine lv_topl (fun z2 ez2 => ?_)
  refine lv_lstore (lv' := [(7, .long z2), (0, .ref (ad 0)), (1, .long run0), (3, .int p0), (4, .int c0), (5, .long n0)]) hx hb dX3_drawSpan_6 hl (by decide) rfl (fun ls hl => ?_)
  refine lv_iload hx hb dX3_drawSpan_8 (lv_at hl 4 rfl) ?_
  refine nk_SSL (As := [.int c0]) (rest := []) ⟨hx, hb, hml, hown, hts⟩ (mX3_firstCounter l c0) (va_cwS 1 hts gX3_drawSpan_X3_firstCounter rfl rfl rfl (by decide +kernel) ⟨Nat.le_of_ble_eq_true rfl, Nat.le_of_ble_eq_true rfl⟩) rfl hl.1 rfl (Nat.le_of_ble_eq_true rfl) dX3_drawSpan_10 ⟨Nat.zero_le _, Nat.zero_le _⟩ (fun r3 hr3 => ?_)
  subst hr3
  refine lv_topl (fun z4 ez4 => ?_)
  refine lv_lstore (lv' := [(9, .long z4), (7, .long z2), (0, .ref (ad 0)), (1, .long run0), (3, .int p0), (4, .int c0), (5, .long n0)]) hx hb dX3_drawSpan_13 hl (by decide) rfl (fun ls hl => ?_)
  refine lv_lload hx hb dX3_drawSpan_15 (lv_at hl 6 rfl) ?_
  refine lv_lneg hx hb dX3_drawSpan_17 ?_
  refine lv_lload hx hb dX3_drawSpan_18 (lv_at hl 6 rfl) ?_
  refine nk_SSL (As := [.long (-n0), .long n0]) (rest := []) ⟨hx, hb, hml, hown, hts⟩ (mX3_remainderUnsigned l (-n0) n0 hn0) (va_cwS 2 hts gX3_drawSpan_X3_remainderUnsigned rfl rfl rfl (by decide +kernel) ⟨Nat.le_of_ble_eq_true rfl, Nat.le_of_ble_eq_true rfl⟩) rfl hl.1 rfl (Nat.le_of_ble_eq_true rfl) dX3_drawSpan_20 ⟨Nat.zero_le _, Nat.zero_le _⟩ (fun r5 hr5 => ?_)
  subst hr5
  refine lv_topl (fun z6 ez6 => ?_)
  refine lv_lstore (lv' := [(11, .long z6), (9, .long z4), (7, .long z2), (0, .ref (ad 0)), (1, .long run0), (3, .int p0), (4, .int c0), (5, .long n0)]) hx hb dX3_drawSpan_23 hl (by decide) rfl (fun ls hl => ?_)
  refine lv_iconst (v := 0) hx hb dX3_drawSpan_25 (by decide) ?_
  refine lv_istore (lv' := [(13, .int (0 : Int32)), (11, .long z6), (9, .long z4), (7, .long z2), (0, .ref (ad 0)), (1, .long run0), (3, .int p0), (4, .int c0), (5, .long n0)]) hx hb dX3_drawSpan_26 hl (by decide) rfl (fun ls hl => ?_)
  have lp28 : ∀ (k : Nat) (i : Int32) (tr1 : Int32) (H : Heap) (locs : List Loc) (ls : Array Slot), k ≤ 32 → i = nI (32 - k) → fDraw z2 z4 n0 z6 k tr1 = fSpan (fBase sd run0 (Ky p0.toNatClampNeg)) (fFirst c0) n0 tr → va_P D vwCl (wC ad ca sd tc sc tr1 st pz T Wt O SA KA R Ln Ky Ch X) H → va_D A (wC ad ca sd tc sc tr1 st pz T Wt O SA KA R Ln Ky Ch X) → va_S A s.heap H locs → lv_has ls 16 [(13, .int i), (11, .long z6), (9, .long z4), (7, .long z2), (0, .ref (ad 0)), (1, .long run0), (3, .int p0), (4, .int c0), (5, .long n0)] → W p l e ({ frames := 2, cells := 0, slots := 0, locals := 50 } : Room) s m ([.ref (ad 0), .long run0, .int p0, .int c0, .long n0] : List Value).toArray below meth c H locs 0 0 (MQ below (va_Ql (fun r u => fSpan (fBase sd run0 (Ky p0.toNatClampNeg)) (fFirst c0) n0 tr = (r, u)) (nkB D A (fun u : Int32 => wC ad ca sd tc sc u st pz T Wt O SA KA R Ln Ky Ch X)) A) ([.ref (ad 0), .long run0, .int p0, .int c0, .long n0] : List Value).toArray s 0 0 A) (F0 m 28 ls []) := by
    intro k
    induction k with
    | zero =>
      intro i tr1 H locs ls hk hi ht hP hD hS hl
      refine lv_iload hx hb dX3_drawSpan_28 (lv_at hl 0 rfl) ?_
      refine lv_bipush (v := 32) hx hb dX3_drawSpan_30 (by decide) ?_
      refine lv_icmp_ge (tgt := 88) hx hb dX3_drawSpan_32 (by decide) (fun c32 => ?_) (fun c32 => ?_)
      · skip
        refine lv_ldc2 (v := -3) hx hb hown (hts (.constantLong RX3 156 (-3)) (by decide +kernel)) dX3_drawSpan_88 ?_
        exact nk_retL (g := _) tr1 hx hb hr hlocks hP hD hS dX3_drawSpan_91 (by subst hi; rw [← ht]; rfl)
      · skip
        exact absurd (by rw [hi]; decide) c32
    | succ k ih28 =>
      intro i tr1 H locs ls hk hi ht hP hD hS hl
      refine lv_iload hx hb dX3_drawSpan_28 (lv_at hl 0 rfl) ?_
      refine lv_bipush (v := 32) hx hb dX3_drawSpan_30 (by decide) ?_
      refine lv_icmp_ge (tgt := 88) hx hb dX3_drawSpan_32 (by decide) (fun c32 => ?_) (fun c32 => ?_)
      · skip
        exact absurd c32 (Int32.not_le.mpr (by rw [hi]; exact ns_nI_lt (n := 32) rfl (by omega) (by decide)))
      · skip
        refine lv_lload hx hb dX3_drawSpan_35 (lv_at hl 3 rfl) ?_
        refine lv_lload hx hb dX3_drawSpan_37 (lv_at hl 2 rfl) ?_
        refine lv_iload hx hb dX3_drawSpan_39 (lv_at hl 0 rfl) ?_
        refine lv_i2l hx hb dX3_drawSpan_41 rfl ?_
        refine lv_ladd hx hb dX3_drawSpan_42 ?_
        refine nk_SSL (As := [.long z2, .long (z4 + (Int32.toInt64 i))]) (rest := []) ⟨hx, hb, hml, hown, hts⟩ (mX3_wordAt l z2 (z4 + (Int32.toInt64 i))) (va_cwS 2 hts gX3_drawSpan_X3_wordAt rfl rfl rfl (by decide +kernel) ⟨Nat.le_of_ble_eq_true rfl, Nat.le_of_ble_eq_true rfl⟩) rfl hl.1 rfl (Nat.le_of_ble_eq_true rfl) dX3_drawSpan_43 ⟨Nat.zero_le _, Nat.zero_le _⟩ (fun r7 hr7 => ?_)
        subst hr7
        refine lv_topl (fun z8 ez8 => ?_)
        refine lv_lstore (lv' := [(14, .long z8), (13, .int i), (11, .long z6), (9, .long z4), (7, .long z2), (0, .ref (ad 0)), (1, .long run0), (3, .int p0), (4, .int c0), (5, .long n0)]) hx hb dX3_drawSpan_46 hl (by decide) rfl (fun ls hl => ?_)
        refine lv_aload_n hx hb dX3_drawSpan_48 rfl (lv_at hl 5 rfl) ?_
        refine lv_iload hx hb dX3_drawSpan_49 (lv_at hl 1 rfl) ?_
        refine lv_iconst (v := 1) hx hb dX3_drawSpan_51 (by decide) ?_
        refine lv_iadd hx hb dX3_drawSpan_52 ?_
        refine lv_topi (fun z9 ez9 => ?_)
        refine va_put (D := D) (ci := 3) (v := .int z9) (ty := .int) (C := RX3) (T := TX3) (N := 11) hx hb hts iX3 tyX3 tyX3_ok nmX3 hown hK.1 hP hD hS 0 rfl rfl 9 (by decide) (hts (.fieldLink RX3 46 "NamedStreams" "latestTries" "I") (by decide +kernel)) (fun _ h9 => h9) rfl (by decide +kernel) rfl rfl (Nat.le_of_ble_eq_true rfl) dX3_drawSpan_53 (fun H locs hP hD hS => ?_)
        have hP : va_P D vwCl (wC ad ca sd tc sc z9 st pz T Wt O SA KA R Ln Ky Ch X) H := hP
        have hD : va_D A (wC ad ca sd tc sc z9 st pz T Wt O SA KA R Ln Ky Ch X) := hD
        refine lv_lload hx hb dX3_drawSpan_56 (lv_at hl 2 rfl) ?_
        refine lv_lconst (v := 0) hx hb dX3_drawSpan_58 (by decide) ?_
        refine W.lcmp hx hb dX3_drawSpan_59 ?_
        refine lv_if_eq (tgt := 74) hx hb dX3_drawSpan_60 (by decide) (fun c60 => ?_) (fun c60 => ?_)
        · skip
          have c60 : z6 = (0 : Int64) := (lg_cmp_eq _ _).mp c60
          refine lv_lload hx hb dX3_drawSpan_74 (lv_at hl 0 rfl) ?_
          refine lv_lload hx hb dX3_drawSpan_76 (lv_at hl 9 rfl) ?_
          refine nk_SSL (As := [.long z8, .long n0]) (rest := []) ⟨hx, hb, hml, hown, hts⟩ (mX3_remainderUnsigned l z8 n0 hn0) (va_cwS 2 hts gX3_drawSpan_X3_remainderUnsigned rfl rfl rfl (by decide +kernel) ⟨Nat.le_of_ble_eq_true rfl, Nat.le_of_ble_eq_true rfl⟩) rfl hl.1 rfl (Nat.le_of_ble_eq_true rfl) dX3_drawSpan_78 ⟨Nat.zero_le _, Nat.zero_le _⟩ (fun r10 hr10 => ?_)
          subst hr10
          exact nk_retL (g := _) z9 hx hb hr hlocks hP hD hS dX3_drawSpan_81 (by subst hi; subst ez8; subst ez9; rw [← ht, fDraw]; first | rw [if_pos c60] | rw [if_neg c60, if_neg c71])
        · skip
          have c60 : ¬ (z6 = (0 : Int64)) := fun h => c60 ((lg_cmp_eq _ _).mpr h)
          refine lv_lload hx hb dX3_drawSpan_63 (lv_at hl 0 rfl) ?_
          refine lv_lload hx hb dX3_drawSpan_65 (lv_at hl 2 rfl) ?_
          refine lv_lneg hx hb dX3_drawSpan_67 ?_
          refine nk_SSI (As := [.long z8, .long (-z6)]) (rest := []) ⟨hx, hb, hml, hown, hts⟩ (mX3_belowUnsigned l z8 (-z6)) (va_cwS 2 hts gX3_drawSpan_X3_belowUnsigned rfl rfl rfl (by decide +kernel) ⟨Nat.le_of_ble_eq_true rfl, Nat.le_of_ble_eq_true rfl⟩) rfl hl.1 rfl (Nat.le_of_ble_eq_true rfl) dX3_drawSpan_68 ⟨Nat.zero_le _, Nat.zero_le _⟩ (fun r11 hr11 => ?_)
          subst hr11
          refine lv_if_eq (tgt := 82) hx hb dX3_drawSpan_71 (by decide) (fun c71 => ?_) (fun c71 => ?_)
          · skip
            obtain ⟨i12, ei12⟩ : ∃ y : Int32, y = i + 1 := ⟨_, rfl⟩
            refine lv_iinc (v := i12) (lv' := [(13, .int i12), (14, .long z8), (11, .long z6), (9, .long z4), (7, .long z2), (0, .ref (ad 0)), (1, .long run0), (3, .int p0), (4, .int c0), (5, .long n0)]) hx hb dX3_drawSpan_82 hl (k := 1) rfl (by rw [ei12]; rfl) (by decide) rfl (fun ls hl => ?_)
            refine lv_goto (tgt := 28) hx hb dX3_drawSpan_85 (by decide) ?_
            exact ih28 i12 z9 _ _ _ (Nat.le_of_succ_le hk) (ns_step hi hk ei12) (by subst hi; subst ez8; subst ez9; rw [← ht, fDraw, if_neg c60, if_pos c71]) hP hD hS (lv_sub hl [0, 2, 3, 4, 5, 6, 7, 8, 9] rfl)
          · skip
            refine lv_lload hx hb dX3_drawSpan_74 (lv_at hl 0 rfl) ?_
            refine lv_lload hx hb dX3_drawSpan_76 (lv_at hl 9 rfl) ?_
            refine nk_SSL (As := [.long z8, .long n0]) (rest := []) ⟨hx, hb, hml, hown, hts⟩ (mX3_remainderUnsigned l z8 n0 hn0) (va_cwS 2 hts gX3_drawSpan_X3_remainderUnsigned rfl rfl rfl (by decide +kernel) ⟨Nat.le_of_ble_eq_true rfl, Nat.le_of_ble_eq_true rfl⟩) rfl hl.1 rfl (Nat.le_of_ble_eq_true rfl) dX3_drawSpan_78 ⟨Nat.zero_le _, Nat.zero_le _⟩ (fun r13 hr13 => ?_)
            subst hr13
            exact nk_retL (g := _) z9 hx hb hr hlocks hP hD hS dX3_drawSpan_81 (by subst hi; subst ez8; subst ez9; rw [← ht, fDraw]; first | rw [if_pos c60] | rw [if_neg c60, if_neg c71])
  exact lp28 32 (0 : Int32) tr _ _ _ (Nat.le_refl 32) (by decide) (by subst ez2; subst ez4; subst ez6; rfl) hP hD hS (lv_sub hl [0, 1, 2, 3, 4, 5, 6, 7, 8] rfl)
end
section
/-! ===== Int64 as an unsigned number: uN x ===== -/
def uN (x : Int64) : Nat := x.toUInt64.toNat
theorem uN_lt (x : Int64) : uN x < 18446744073709551616 := x.toUInt64.toNat_lt
theorem uN_inj {x y : Int64} (h : uN x = uN y) : x = y := congrArg UInt64.toInt64 (UInt64.toNat_inj.mp h)
theorem uN_add (x y : Int64) : uN (x + y) = (uN x + uN y) % 18446744073709551616 := by
  show (x.toUInt64 + y.toUInt64).toNat = _
  exact UInt64.toNat_add _ _
theorem uN_mul (x y : Int64) : uN (x * y) = (uN x * uN y) % 18446744073709551616 := by
  show (x.toUInt64 * y.toUInt64).toNat = _
  exact UInt64.toNat_mul _ _
theorem uN_shl (x : Int64) : uN (x <<< ((1 : Int32).toInt64 &&& 63)) = (2 * uN x) % 18446744073709551616 := by
  have h : (((1 : Int32).toInt64 &&& 63).toBitVec.smod 64).toNat = 1 := by decide
  show (x.toBitVec <<< (((1 : Int32).toInt64 &&& 63).toBitVec.smod 64).toNat).toNat = _
  rw [h, BitVec.toNat_shiftLeft, Nat.shiftLeft_eq, Nat.mul_comm]
  rfl
theorem uN_shr (x : Int64) (s : UInt64) : uN (x.toUInt64 >>> s).toInt64 = uN x / 2 ^ (s.toNat % 64) := by
  show (x.toUInt64 >>> s).toNat = _
  rw [UInt64.toNat_shiftRight, Nat.shiftRight_eq_div_pow]
  rfl
theorem uN_s32 (x : Int64) : uN (x.toUInt64 >>> ((32 : Int32).toInt64.toUInt64 &&& Int64.toUInt64 63)).toInt64 = uN x / 4294967296 := by
  have h : ((32 : Int32).toInt64.toUInt64 &&& Int64.toUInt64 63).toNat % 64 = 32 := by decide
  rw [uN_shr, h]
theorem uN_s63 (x : Int64) : uN (x.toUInt64 >>> ((63 : Int32).toInt64.toUInt64 &&& Int64.toUInt64 63)).toInt64 = uN x / 9223372036854775808 := by
  have h : ((63 : Int32).toInt64.toUInt64 &&& Int64.toUInt64 63).toNat % 64 = 63 := by decide
  rw [uN_shr, h]
theorem uN_lo (x : Int64) : uN (x &&& 4294967295) = uN x % 4294967296 := by
  show (x.toUInt64 &&& Int64.toUInt64 4294967295).toNat = _
  rw [UInt64.toNat_and]
  exact Nat.and_two_pow_sub_one_eq_mod _ 32
theorem uN_bit (x : Int64) : (x &&& 1) = 0 ↔ uN x % 2 = 0 := by
  have h : uN (x &&& 1) = uN x % 2 := by
    show (x.toUInt64 &&& Int64.toUInt64 1).toNat = _
    rw [UInt64.toNat_and]
    exact Nat.and_two_pow_sub_one_eq_mod _ 1
  rw [← h]
  exact ⟨fun z => by rw [z]; rfl, fun z => uN_inj (z.trans rfl)⟩
theorem uN_or {x y : Int64} (hy : uN y < 2) : uN ((x <<< ((1 : Int32).toInt64 &&& 63)) ||| y) = (2 * uN x) % 18446744073709551616 + uN y := by
  have h1 : uN ((x <<< ((1 : Int32).toInt64 &&& 63)) ||| y) = uN (x <<< ((1 : Int32).toInt64 &&& 63)) ||| uN y := UInt64.toNat_or _ _
  have h2 : (2 * uN x) % 18446744073709551616 = 2 ^ 1 * (uN x % 9223372036854775808) := by omega
  rw [h1, uN_shl, h2]
  exact (Nat.two_pow_add_eq_or_of_lt (i := 1) hy _).symm
theorem nat_xor {a : Nat} (h : a < 18446744073709551616) : a ^^^ 2 ^ 63 = (a + 9223372036854775808) % 18446744073709551616 := by
  have h1 : (a ^^^ 2 ^ 63) % 2 ^ 63 = a % 2 ^ 63 := by rw [Nat.xor_mod_two_pow, Nat.mod_self, Nat.xor_zero]
  have h2 : (a ^^^ 2 ^ 63) / 2 ^ 63 = (a / 2 ^ 63) ^^^ 1 := by rw [Nat.xor_div_two_pow, Nat.div_self (Nat.two_pow_pos 63)]
  have h3 : a / 2 ^ 63 = 0 ∨ a / 2 ^ 63 = 1 := by omega
  generalize a ^^^ 2 ^ 63 = t at h1 h2
  rcases h3 with h3 | h3
  · rw [h3] at h2
    have h2 : t / 2 ^ 63 = 1 := h2
    omega
  · rw [h3] at h2
    have h2 : t / 2 ^ 63 = 0 := h2
    omega
theorem uN_xor (x : Int64) : uN (x ^^^ (-9223372036854775808)) = (uN x + 9223372036854775808) % 18446744073709551616 := by
  rw [← nat_xor (uN_lt x)]
  exact UInt64.toNat_xor _ _
theorem uN_int (x : Int64) : x.toInt = if 2 * uN x < 18446744073709551616 then (uN x : Int) else (uN x : Int) - 18446744073709551616 := BitVec.toInt_eq_toNat_cond _
theorem uN_le (x y : Int64) : (x ^^^ (-9223372036854775808)) ≤ (y ^^^ (-9223372036854775808)) ↔ uN x ≤ uN y := by
  have hx := uN_lt x
  have hy := uN_lt y
  rw [Int64.le_iff_toInt_le, uN_int, uN_int, uN_xor, uN_xor]
  omega
theorem uN_sk (x : Int64) {k : Nat} (hk : k < 64) : uN (x.toUInt64 >>> ((nI k).toInt64.toUInt64 &&& Int64.toUInt64 63)).toInt64 = uN x / 2 ^ k := by
  have h : ((nI k).toInt64.toUInt64 &&& Int64.toUInt64 63).toNat % 64 = k := by
    rw [nI_l (by omega), UInt64.toNat_and]
    have e : (lN k).toUInt64.toNat = k % 2 ^ 64 := rfl
    have e2 : (Int64.toUInt64 63).toNat = 2 ^ 6 - 1 := by decide
    rw [e, e2, Nat.and_two_pow_sub_one_eq_mod]
    omega
  rw [uN_shr, h]
/-! the remainder without sign: both sides compute X mod N -/
theorem uN_lN {n : Nat} (h : n < 18446744073709551616) : uN (lN n) = n := by
  have h1 : uN (lN n) = n % 18446744073709551616 := UInt64.toNat_ofNat
  rw [h1, Nat.mod_eq_of_lt h]
theorem lN_uN (x : Int64) : x = lN (uN x) := uN_inj (uN_lN (uN_lt x)).symm
theorem uN_sub {x y : Int64} (h : uN y ≤ uN x) : uN (x - y) = uN x - uN y := by
  have h1 : uN (x - y + y) = (uN (x - y) + uN y) % 18446744073709551616 := uN_add _ _
  rw [Int64.sub_add_cancel] at h1
  have := uN_lt (x - y)
  have := uN_lt x
  have := uN_lt y
  omega
theorem uN_pos {n : Int64} (h : 0 < n) : 0 < uN n ∧ uN n < 9223372036854775808 := by
  rw [Int64.lt_iff_toInt_lt, uN_int n] at h
  have h2 := uN_lt n
  have h3 : (0 : Int64).toInt = 0 := rfl
  rw [h3] at h
  split at h <;> omega
theorem uN_nn {n : Int64} (h : 0 ≤ n) : uN n < 9223372036854775808 := by
  rw [Int64.le_iff_toInt_le, uN_int n] at h
  have h2 := uN_lt n
  have h3 : (0 : Int64).toInt = 0 := rfl
  rw [h3] at h
  split at h <;> omega
theorem uN_toInt {n : Int64} (h : uN n < 9223372036854775808) : n.toInt = (uN n : Int) := by
  rw [uN_int n, if_pos (by omega)]
theorem fBelow_iff (x y : Int64) : fBelow x y = 0 ↔ uN y ≤ uN x := by
  unfold fBelow
  rw [← uN_le]
  by_cases h : (y ^^^ (-9223372036854775808)) ≤ (x ^^^ (-9223372036854775808))
  · rw [if_pos h]; exact ⟨fun _ => h, fun _ => rfl⟩
  · rw [if_neg h]; exact ⟨fun q => absurd q (by decide), fun q => absurd q h⟩
theorem fRest_nat {x n : Int64} (hn : 0 < n) : uN (fRest x n) = 2 * (uN x / 2 % uN n) + uN x % 2 ∧ uN x = uN n * (2 * (uN x / 2 / uN n)) + (2 * (uN x / 2 % uN n) + uN x % 2) := by
  obtain ⟨hN, hN2⟩ := uN_pos hn
  have hX := uN_lt x
  have hU : nsU x 1 = lN (uN x / 2) := by
    apply uN_inj
    rw [uN_lN (by omega)]
    exact uN_sk x (k := 1) (by decide)
  have hn' : n = lN (uN n) := lN_uN n
  have hd : nsU x 1 / n = lN (uN x / 2 / uN n) := by
    rw [hU]
    conv => lhs; rw [hn']
    rw [pk_lDiv (by omega) hN hN2]
  have hdm := Nat.div_add_mod (uN x / 2) (uN n)
  have hQ : uN x / 2 / uN n ≤ uN x / 2 := Nat.div_le_self _ _
  have hq : uN (nsL (nsU x 1 / n) 1) = 2 * (uN x / 2 / uN n) := by
    rw [hd]
    have h1 : uN (nsL (lN (uN x / 2 / uN n)) 1) = (2 * uN (lN (uN x / 2 / uN n))) % 18446744073709551616 := uN_shl _
    rw [h1, uN_lN (by omega)]
    omega
  have e1 : 2 * (uN x / 2 / uN n) * uN n = 2 * (uN n * (uN x / 2 / uN n)) := by
    rw [Nat.mul_assoc, Nat.mul_comm (uN x / 2 / uN n)]
  have hm : uN (nsL (nsU x 1 / n) 1 * n) = 2 * (uN n * (uN x / 2 / uN n)) := by
    rw [uN_mul, hq, e1]
    omega
  have e2 : uN n * (2 * (uN x / 2 / uN n)) = 2 * (uN n * (uN x / 2 / uN n)) := by
    rw [Nat.mul_left_comm]
  constructor
  · unfold fRest
    rw [uN_sub (by rw [hm]; omega), hm]
    omega
  · rw [e2]
    omega
theorem nat_mod_of {X N k r : Nat} (h : X = N * k + r) (hr : r < N) : X % N = r := by
  rw [h, Nat.mul_add_mod, Nat.mod_eq_of_lt hr]
theorem fRem_nat {x n : Int64} (hn : 0 < n) : uN (fRem x n) = uN x % uN n := by
  obtain ⟨hN, hN2⟩ := uN_pos hn
  obtain ⟨h1, h2⟩ := fRest_nat (x := x) hn
  have hR : uN x / 2 % uN n < uN n := Nat.mod_lt _ hN
  generalize uN x / 2 % uN n = r at h1 h2 hR
  generalize uN x / 2 / uN n = q at h2
  by_cases h : fBelow (fRest x n) n = 0
  · have h3 := (fBelow_iff _ _).mp h
    have h4 : fRem x n = fRest x n - n := if_pos h
    rw [h4, uN_sub h3, h1]
    rw [h1] at h3
    have e : uN n * (2 * q + 1) = uN n * (2 * q) + uN n := by rw [Nat.mul_add, Nat.mul_one]
    exact (nat_mod_of (k := 2 * q + 1) (by rw [e]; omega) (by omega)).symm
  · have h3 : ¬ uN n ≤ uN (fRest x n) := fun q => h ((fBelow_iff _ _).mpr q)
    have h4 : fRem x n = fRest x n := if_neg h
    rw [h4, h1]
    rw [h1] at h3
    exact (nat_mod_of h2 (by omega)).symm
theorem fRem_in {x n : Int64} (hn : 0 < n) : 0 ≤ fRem x n ∧ fRem x n < n := by
  obtain ⟨hN, hN2⟩ := uN_pos hn
  have h := fRem_nat (x := x) hn
  have hl : uN x % uN n < uN n := Nat.mod_lt _ hN
  have h1 := uN_toInt (n := fRem x n) (by omega)
  have h2 := uN_toInt hN2
  have h3 : (0 : Int64).toInt = 0 := rfl
  rw [Int64.le_iff_toInt_le, Int64.lt_iff_toInt_lt, h1, h2, h3]
  omega
theorem fDraw_in (b f n x : Int64) (hn : 0 < n) : ∀ (k : Nat) (tr : Int32), (fDraw b f n x k tr).1 = -3 ∨ (0 ≤ (fDraw b f n x k tr).1 ∧ (fDraw b f n x k tr).1 < n) := by
  intro k
  induction k with
  | zero => intro tr; exact Or.inl rfl
  | succ k ih =>
    intro tr
    rw [fDraw]
    by_cases h1 : x = 0
    · rw [if_pos h1]; exact Or.inr (fRem_in hn)
    · rw [if_neg h1]
      by_cases h2 : fBelow (fWord b (f + (nI (32 - (k + 1))).toInt64)) (-x) = 0
      · rw [if_pos h2]; exact ih _
      · rw [if_neg h2]; exact Or.inr (fRem_in hn)
theorem fSpan_in {b f n : Int64} {tr : Int32} (hn : 0 < n) (h : 0 ≤ (fSpan b f n tr).1) : (fSpan b f n tr).1 < n := by
  rcases fDraw_in b f n (fRem (-n) n) hn 32 tr with q | q
  · have q' : (fSpan b f n tr).1 = -3 := q
    rw [q'] at h
    exact absurd h (by decide)
  · exact q.2
end
section
/-! what the class's methods compute, on -/
def fSpanC (sd : Int64) (pz : Int32) (Ky : Nat → Int64) (run : Int64) (p c : Int32) (n : Int64) (tr : Int32) : Int64 × Int32 := if n = 0 then (-4, tr) else if fHas pz p = 0 then (-1, tr) else if c < 0 then (-1, tr) else if 0 ≤ n then fSpan (fBase sd run (Ky p.toNatClampNeg)) (fFirst c) n tr else (-1, tr)
/-- the bits of a word from place j - 1 down, against the digits of r / b; K: what comes behind the word -/
def fFrW (w b : Int64) : Nat → Int64 → Int32 → (Int64 → Int32 → Int32 × Int32) → Int32 × Int32
  | 0, r, tr, K => K r tr
  | j + 1, r, tr, K => if r < b - r then (if nsU w (nI j) &&& 1 = 1 then (0, tr + 1) else if r + r = 0 then (0, tr + 1) else fFrW w b j (r + r) (tr + 1) K)
    else (if nsU w (nI j) &&& 1 = 1 then (if r - (b - r) = 0 then (0, tr + 1) else fFrW w b j (r - (b - r)) (tr + 1) K) else (1, tr + 1))
def fFrac (o f b : Int64) : Nat → Int64 → Int32 → Int32 × Int32
  | 0, _, tr => (-3, tr)
  | k + 1, r, tr => fFrW (fWord o (f + (nI (32 - (k + 1))).toInt64)) b 64 r tr (fun r t => fFrac o f b k r t)
def fFracD (o f a b : Int64) : Int32 × Int32 := if a = b then (1, 0) else if a = 0 then (0, 0) else fFrac o f b 32 a 0
def fFracC (sd : Int64) (pz : Int32) (Ky : Nat → Int64) (run : Int64) (p c : Int32) (a b : Int64) (tr : Int32) : Int32 × Int32 := if fHas pz p = 0 then (-1, tr) else if c < 0 then (-1, tr) else if b < 0 then (-1, tr) else if a < 0 then (-1, tr) else if a ≤ b then (if b = 0 then (-4, tr) else fFracD (fBase sd run (Ky p.toNatClampNeg)) (fFirst c) a b) else (-1, tr)
def fWeight (Wt : Nat → Int64) (k : Int32) (w : Int64) : Int32 × (Nat → Int64) := if k < 0 then (-1, Wt) else if 10 ≤ k then (-1, Wt) else if 0 ≤ w then (1, vp_updL Wt k.toNatClampNeg w) else (-1, Wt)
def fSum (Wt : Nat → Int64) : Nat → Int64 → Int64
  | 0, s => s
  | k + 1, s => if 0 ≤ s + Wt (nI (10 - (k + 1))).toNatClampNeg then fSum Wt k (s + Wt (nI (10 - (k + 1))).toNatClampNeg) else -5
def fReach (Wt : Nat → Int64) : Nat → Int64 → Int32
  | 0, _ => nI 9
  | k + 1, d => if d < Wt (nI (9 - (k + 1))).toNatClampNeg then nI (9 - (k + 1)) else fReach Wt k (d - Wt (nI (9 - (k + 1))).toNatClampNeg)
def fPick (o f : Int64) (Wt : Nat → Int64) (tr : Int32) : Int32 × Int32 := if fSum Wt 10 0 = 0 then (-4, tr) else if 0 ≤ fSum Wt 10 0 then (if 0 ≤ (fSpan o f (fSum Wt 10 0) tr).1 then (fReach Wt 9 (fSpan o f (fSum Wt 10 0) tr).1, (fSpan o f (fSum Wt 10 0) tr).2) else (-3, (fSpan o f (fSum Wt 10 0) tr).2)) else (-5, tr)
def fPickC (sd : Int64) (pz : Int32) (Ky Wt : Nat → Int64) (run : Int64) (p c : Int32) (tr : Int32) : Int32 × Int32 := if fHas pz p = 0 then (-1, tr) else if 0 ≤ c then fPick (fBase sd run (Ky p.toNatClampNeg)) (fFirst c) Wt tr else (-1, tr)
def fFill (n : Nat) : Nat → (Nat → Int32) → (Nat → Int32)
  | 0, O => O
  | k + 1, O => fFill n k (upd O (nI (n - (k + 1))).toNatClampNeg (nI (n - (k + 1))))
def fSwap (O : Nat → Int32) (i j : Int32) : Nat → Int32 := upd (upd O i.toNatClampNeg (O j.toNatClampNeg)) j.toNatClampNeg (O i.toNatClampNeg)
def fPerm (o : Int64) (c : Int32) : Nat → (Nat → Int32) → Int32 → Int32 × (Nat → Int32) × Int32
  | 0, O, tr => (1, O, tr)
  | i + 1, O, tr => if 0 ≤ (fSpan o (fFirst (c + nI (i + 1))) ((nI (i + 1) + 1).toInt64) tr).1 then fPerm o c i (fSwap O (nI (i + 1)) (fSpan o (fFirst (c + nI (i + 1))) ((nI (i + 1) + 1).toInt64) tr).1.toInt32) (fSpan o (fFirst (c + nI (i + 1))) ((nI (i + 1) + 1).toInt64) tr).2 else (0, O, (fSpan o (fFirst (c + nI (i + 1))) ((nI (i + 1) + 1).toInt64) tr).2)
def fPermD (o : Int64) (c : Int32) (n : Nat) (O : Nat → Int32) (tr : Int32) : Int32 × (Nat → Int32) × Int32 := fPerm o c (n - 1) (fFill n n O) tr
def fPermC (sd : Int64) (pz : Int32) (Ky : Nat → Int64) (O : Nat → Int32) (run : Int64) (p c n k : Int32) (tr : Int32) : Int32 × (Nat → Int32) × Int32 := if fHas pz p = 0 then (-1, O, tr) else if c < 0 then (-1, O, tr) else if n < 0 then (-1, O, tr) else if 40 < n then (-1, O, tr) else if k < 0 then (-1, O, tr) else if k < n then (if c ≤ 2147483647 - n then (if (fPermD (fBase sd run (Ky p.toNatClampNeg)) c n.toNatClampNeg O tr).1 = 0 then (-3, (fPermD (fBase sd run (Ky p.toNatClampNeg)) c n.toNatClampNeg O tr).2) else ((fPermD (fBase sd run (Ky p.toNatClampNeg)) c n.toNatClampNeg O tr).2.1 k.toNatClampNeg, (fPermD (fBase sd run (Ky p.toNatClampNeg)) c n.toNatClampNeg O tr).2)) else (-1, O, tr)) else (-1, O, tr)
def fCounted (b n i : Int32) : Int32 := if b < 1 then -1 else if 16 < b then -1 else if n < 1 then -1 else if 65536 < n then -1 else if i < 0 then -1 else if i < n then ((1 : Int32) <<< (b &&& 31)) / n else -1
def fCount (pz sc tc x : Int32) : Int32 := if x = 0 then pz else if x = 1 then sc else if x = 2 then tc else -1
theorem ns_out {x : Int32} {lo hi : Int} (_ : (0 : Int) ≤ 0) (_ : (0 : Int) ≤ 0) (h : x.toInt < lo ∨ hi < x.toInt) : x.toInt < lo ∨ hi < x.toInt := h
theorem ns_out3 {x : Int32} (h0 : ¬ x = 0) (h1 : ¬ x = 1) (h2 : ¬ x = 2) : x.toInt < 0 ∨ 2 < x.toInt := by
  have a0 := lv_neT h0 (a := 0) rfl
  have a1 := lv_neT h1 (a := 1) rfl
  have a2 := lv_neT h2 (a := 2) rfl
  omega
theorem ns_nn {x : Int32} (h : ¬ x < 0) : 0 ≤ x := Int32.not_lt.mp h
theorem ns_pos {n : Int64} (h0 : ¬ n = 0) (h : 0 ≤ n) : 0 < n := by
  rw [Int64.le_iff_toInt_le] at h
  rw [Int64.lt_iff_toInt_lt]
  have h3 : (0 : Int64).toInt = 0 := rfl
  have h4 : n.toInt ≠ 0 := fun q => h0 (Int64.toInt_inj.mp q)
  omega
theorem ns_m1 (x : Int32) : x + (-1) = x - 1 := (Int32.sub_eq_add_neg x 1).symm
set_option maxHeartbeats 4000000 in
set_option maxRecDepth 100000 in
theorem mX3_span (l : Launch) (D : va_G) (ad : Nat → Nat) (ca : Nat → ClassId) (sd : Int64) (tc : Int32) (sc : Int32) (tr : Int32) (st : Int32) (pz : Int32) (T : Nat → Int64) (Wt : Nat → Int64) (O : Nat → Int32) (SA : Nat → Option Nat) (KA : Nat → Option Nat) (R : Nat → Int64) (Ln : Nat → Int32) (Ky : Nat → Int64) (Ch : Nat → Int64) (X : va_W) (run0 : Int64) (p0 c0 : Int32) (n0 : Int64) (hz : pz ≤ 24) : nkML l yX3_span wsX3_span ({ frames := 3, cells := 0, slots := 0, locals := 85 }) D (tC ca) [.ref (ad 0), .long run0, .int p0, .int c0, .long n0] (wC ad ca sd tc sc tr st pz T Wt O SA KA R Ln Ky Ch X) (fun u : Int32 => wC ad ca sd tc sc u st pz T Wt O SA KA R Ln Ky Ch X) (fun r u => fSpanC sd pz Ky run0 p0 c0 n0 tr = (r, u)) 0 0 := by
  refine nk_ofM (Qf := fun A => va_Ql (fun r u => fSpanC sd pz Ky run0 p0 c0 n0 tr = (r, u)) (nkB D A (fun u : Int32 => wC ad ca sd tc sc u st pz T Wt O SA KA R Ln Ky Ch X)) A) (cc := cX3_span) (maxL := 7) (ret := (some .long)) (by decide) rfl (Nat.le_of_ble_eq_true rfl) ?_
  intro p e s m below meth c A hx hb hr hml hts hown hlocks hin hK hP hD hA hS ls hl
  replace hown : s.vm.findClass RX3 = some m.cls := hown
  replace hl : lv_has ls 7 [(0, .ref (ad 0)), (1, .long run0), (3, .int p0), (4, .int c0), (5, .long n0)] := hl
  have hP : va_P D vwCl (wC ad ca sd tc sc tr st pz T Wt O SA KA R Ln Ky Ch X) s.heap := hP
  have iX1 : ∀ w ∈ u_ws RX1 TX1 5, w ∈ wsX3_span := by decide +kernel
  have iX3 : ∀ w ∈ u_ws RX3 TX3 11, w ∈ wsX3_span := by decide +kernel
  refine lv_lload hx hb dX3_span_0 (lv_at hl 4 rfl) ?_
  refine lv_lconst (v := 0) hx hb dX3_span_2 (by decide) ?_
  refine W.lcmp hx hb dX3_span_3 ?_
  refine lv_if_ne (tgt := 11) hx hb dX3_span_4 (by decide) (fun c4 => ?_) (fun c4 => ?_)
  · skip
    have c4 : ¬ (n0 = (0 : Int64)) := fun h => c4 ((lg_cmp_eq _ _).mpr h)
    refine lv_aload_n hx hb dX3_span_11 rfl (lv_at hl 0 rfl) ?_
    refine va_get (D := D) (ci := 3) (v := .ref (ad 2)) (C := RX3) (T := TX3) (N := 11) hx hb hts iX3 hown hK.1 hP 0 rfl rfl 3 (by decide) (hts (.fieldLink RX3 20 "NamedStreams" "paths" "LNamedStreams$Paths;") (by decide +kernel)) (fun _ h9 => h9) rfl dX3_span_12 ?_
    refine lv_iload_n hx hb dX3_span_15 rfl (lv_at hl 2 rfl) ?_
    refine nk_VRI (As := [.int p0]) (rest := []) ⟨hx, hb, hml, hown, hts⟩ (mX1_has l D ad ca sd tc sc tr st pz T Wt O SA KA R Ln Ky Ch X p0) (cwV 1 hts gX3_span_X1_has rfl rfl rfl (by decide +kernel) ⟨Nat.le_of_ble_eq_true rfl, Nat.le_of_ble_eq_true rfl⟩) hK hP 2 1 rfl rfl rfl rfl hl.1 rfl (Nat.le_of_ble_eq_true rfl) dX3_span_16 ⟨Nat.zero_le _, Nat.zero_le _⟩ (fun r1 hr1 => ?_)
    subst hr1
    refine lv_if_eq (tgt := 34) hx hb dX3_span_19 (by decide) (fun c19 => ?_) (fun c19 => ?_)
    · skip
      refine lv_ldc2 (v := -1) hx hb hown (hts (.constantLong RX3 77 (-1)) (by decide +kernel)) dX3_span_34 ?_
      exact nk_retL (g := _) tr hx hb hr hlocks hP hD hS dX3_span_37 (by exact ((if_neg c4).trans (if_pos c19)))
    · skip
      refine lv_iload hx hb dX3_span_22 (lv_at hl 3 rfl) ?_
      refine lv_if_lt (tgt := 34) hx hb dX3_span_24 (by decide) (fun c24 => ?_) (fun c24 => ?_)
      · skip
        refine lv_ldc2 (v := -1) hx hb hown (hts (.constantLong RX3 77 (-1)) (by decide +kernel)) dX3_span_34 ?_
        exact nk_retL (g := _) tr hx hb hr hlocks hP hD hS dX3_span_37 (by exact ((if_neg c4).trans ((if_neg c19).trans (if_pos c24))))
      · skip
        refine lv_lload hx hb dX3_span_27 (lv_at hl 4 rfl) ?_
        refine lv_lconst (v := 0) hx hb dX3_span_29 (by decide) ?_
        refine W.lcmp hx hb dX3_span_30 ?_
        refine lv_if_ge (tgt := 38) hx hb dX3_span_31 (by decide) (fun c31 => ?_) (fun c31 => ?_)
        · skip
          have c31 : (0 : Int64) ≤ n0 := (lg_cmp_ge _ _).mp c31
          refine lv_aload_n hx hb dX3_span_38 rfl (lv_at hl 0 rfl) ?_
          refine lv_lload_n hx hb dX3_span_39 rfl (lv_at hl 1 rfl) ?_
          refine lv_iload_n hx hb dX3_span_40 rfl (lv_at hl 2 rfl) ?_
          refine lv_iload hx hb dX3_span_41 (lv_at hl 3 rfl) ?_
          refine lv_lload hx hb dX3_span_43 (lv_at hl 4 rfl) ?_
          refine nk_VL (As := [.long run0, .int p0, .int c0, .long n0]) (rest := []) ⟨hx, hb, hml, hown, hts⟩ (mX3_drawSpan l D ad ca sd tc sc tr st pz T Wt O SA KA R Ln Ky Ch X run0 p0 c0 n0 (ns_hasIn c19 hz) c4) (cwV 4 hts gX3_span_X3_drawSpan rfl rfl rfl (by decide +kernel) ⟨Nat.le_of_ble_eq_true rfl, Nat.le_of_ble_eq_true rfl⟩) hK hP hD hS hA 0 3 rfl rfl rfl rfl hl.1 rfl (Nat.le_of_ble_eq_true rfl) dX3_span_45 ⟨Nat.zero_le _, Nat.zero_le _⟩ (fun r2 ur2 H locs hr2 hP hD hS => ?_)
          obtain ⟨rfl, rfl⟩ : r2 = (fSpan (fBase sd run0 (Ky (Int32.toNatClampNeg p0))) (fFirst c0) n0 tr).1 ∧ ur2 = (fSpan (fBase sd run0 (Ky (Int32.toNatClampNeg p0))) (fFirst c0) n0 tr).2 := by rw [hr2]; exact ⟨rfl, rfl⟩
          have hP : va_P D vwCl (wC ad ca sd tc sc ((fSpan (fBase sd run0 (Ky (Int32.toNatClampNeg p0))) (fFirst c0) n0 tr).2) st pz T Wt O SA KA R Ln Ky Ch X) H := hP
          have hD : va_D A (wC ad ca sd tc sc ((fSpan (fBase sd run0 (Ky (Int32.toNatClampNeg p0))) (fFirst c0) n0 tr).2) st pz T Wt O SA KA R Ln Ky Ch X) := hD
          exact nk_retL (g := _) ((fSpan (fBase sd run0 (Ky (Int32.toNatClampNeg p0))) (fFirst c0) n0 tr).2) hx hb hr hlocks hP hD hS dX3_span_48 (by exact ((if_neg c4).trans ((if_neg c19).trans ((if_neg c24).trans (if_pos c31)))))
        · skip
          have c31 : ¬ ((0 : Int64) ≤ n0) := fun h => c31 ((lg_cmp_ge _ _).mpr h)
          refine lv_ldc2 (v := -1) hx hb hown (hts (.constantLong RX3 77 (-1)) (by decide +kernel)) dX3_span_34 ?_
          exact nk_retL (g := _) tr hx hb hr hlocks hP hD hS dX3_span_37 (by exact ((if_neg c4).trans ((if_neg c19).trans ((if_neg c24).trans (if_neg c31)))))
  · skip
    have c4 : n0 = (0 : Int64) := (lg_cmp_eq _ _).mp c4
    refine lv_ldc2 (v := -4) hx hb hown (hts (.constantLong RX3 75 (-4)) (by decide +kernel)) dX3_span_7 ?_
    exact nk_retL (g := _) tr hx hb hr hlocks hP hD hS dX3_span_10 (by exact (if_pos c4))

set_option maxHeartbeats 4000000 in
set_option maxRecDepth 100000 in
theorem mX3_drawFraction (l : Launch) (D : va_G) (ad : Nat → Nat) (ca : Nat → ClassId) (sd : Int64) (tc : Int32) (sc : Int32) (tr : Int32) (st : Int32) (pz : Int32) (T : Nat → Int64) (Wt : Nat → Int64) (O : Nat → Int32) (SA : Nat → Option Nat) (KA : Nat → Option Nat) (R : Nat → Int64) (Ln : Nat → Int32) (Ky : Nat → Int64) (Ch : Nat → Int64) (X : va_W) (run0 : Int64) (p0 c0 : Int32) (a0 b0 : Int64) (hp0 : vp_in p0 24) : nkMI l yX3_drawFraction wsX3_drawFraction ({ frames := 2, cells := 0, slots := 0, locals := 46 }) D (tC ca) [.ref (ad 0), .long run0, .int p0, .int c0, .long a0, .long b0] (wC ad ca sd tc sc tr st pz T Wt O SA KA R Ln Ky Ch X) (fun u : Int32 => wC ad ca sd tc sc u st pz T Wt O SA KA R Ln Ky Ch X) (fun r u => fFracD (fBase sd run0 (Ky p0.toNatClampNeg)) (fFirst c0) a0 b0 = (r, u)) 0 0 := by
  refine nk_ofM (Qf := fun A => va_Qi (fun r u => fFracD (fBase sd run0 (Ky p0.toNatClampNeg)) (fFirst c0) a0 b0 = (r, u)) (nkB D A (fun u : Int32 => wC ad ca sd tc sc u st pz T Wt O SA KA R Ln Ky Ch X)) A) (cc := cX3_drawFraction) (maxL := 21) (ret := (some .int)) (by decide) rfl (Nat.le_of_ble_eq_true rfl) ?_
  intro p e s m below meth c A hx hb hr hml hts hown hlocks hin hK hP hD hA hS ls hl
  replace hown : s.vm.findClass RX3 = some m.cls := hown
  replace hl : lv_has ls 21 [(0, .ref (ad 0)), (1, .long run0), (3, .int p0), (4, .int c0), (5, .long a0), (7, .long b0)] := hl
  have hP : va_P D vwCl (wC ad ca sd tc sc tr st pz T Wt O SA KA R Ln Ky Ch X) s.heap := hP
  have iX1 : ∀ w ∈ u_ws RX1 TX1 5, w ∈ wsX3_drawFraction := by decide +kernel
  have iX3 : ∀ w ∈ u_ws RX3 TX3 11, w ∈ wsX3_drawFraction := by decide +kernel
  refine lv_aload_n hx hb dX3_drawFraction_0 rfl (lv_at hl 0 rfl) ?_
  refine lv_iconst (v := 0) hx hb dX3_drawFraction_1 (by decide) ?_
  refine va_put (D := D) (ci := 3) (v := .int (0 : Int32)) (ty := .int) (C := RX3) (T := TX3) (N := 11) hx hb hts iX3 tyX3 tyX3_ok nmX3 hown hK.1 hP hD hS 0 rfl rfl 9 (by decide) (hts (.fieldLink RX3 46 "NamedStreams" "latestTries" "I") (by decide +kernel)) (fun _ h9 => h9) rfl (by decide +kernel) rfl rfl (Nat.le_of_ble_eq_true rfl) dX3_drawFraction_2 (fun H locs hP hD hS => ?_)
  have hP : va_P D vwCl (wC ad ca sd tc sc (0 : Int32) st pz T Wt O SA KA R Ln Ky Ch X) H := hP
  have hD : va_D A (wC ad ca sd tc sc (0 : Int32) st pz T Wt O SA KA R Ln Ky Ch X) := hD
  refine lv_lload hx hb dX3_drawFraction_5 (lv_at hl 4 rfl) ?_
  refine lv_lload hx hb dX3_drawFraction_7 (lv_at hl 5 rfl) ?_
  refine W.lcmp hx hb dX3_drawFraction_9 ?_
  refine lv_if_ne (tgt := 15) hx hb dX3_drawFraction_10 (by decide) (fun c10 => ?_) (fun c10 => ?_)
  · skip
    have c10 : ¬ (a0 = b0) := fun h => c10 ((lg_cmp_eq _ _).mpr h)
    refine lv_lload hx hb dX3_drawFraction_15 (lv_at hl 4 rfl) ?_
    refine lv_lconst (v := 0) hx hb dX3_drawFraction_17 (by decide) ?_
    refine W.lcmp hx hb dX3_drawFraction_18 ?_
    refine lv_if_ne (tgt := 24) hx hb dX3_drawFraction_19 (by decide) (fun c19 => ?_) (fun c19 => ?_)
    · skip
      have c19 : ¬ (a0 = (0 : Int64)) := fun h => c19 ((lg_cmp_eq _ _).mpr h)
      refine lv_aload_n hx hb dX3_drawFraction_24 rfl (lv_at hl 0 rfl) ?_
      refine lv_lload_n hx hb dX3_drawFraction_25 rfl (lv_at hl 1 rfl) ?_
      refine lv_iload_n hx hb dX3_drawFraction_26 rfl (lv_at hl 2 rfl) ?_
      refine nk_VRL (As := [.long run0, .int p0]) (rest := []) ⟨hx, hb, hml, hown, hts⟩ (mX3_baseOf l D ad ca sd tc sc (0 : Int32) st pz T Wt O SA KA R Ln Ky Ch X run0 p0 hp0) (cwV 2 hts gX3_drawFraction_X3_baseOf rfl rfl rfl (by decide +kernel) ⟨Nat.le_of_ble_eq_true rfl, Nat.le_of_ble_eq_true rfl⟩) hK hP 0 3 rfl rfl rfl rfl hl.1 rfl (Nat.le_of_ble_eq_true rfl) dX3_drawFraction_27 ⟨Nat.zero_le _, Nat.zero_le _⟩ (fun r1 hr1 => ?_)
      subst hr1
      refine lv_topl (fun z2 ez2 => ?_)
      refine lv_lstore (lv' := [(9, .long z2), (0, .ref (ad 0)), (1, .long run0), (3, .int p0), (4, .int c0), (5, .long a0), (7, .long b0)]) hx hb dX3_drawFraction_30 hl (by decide) rfl (fun ls hl => ?_)
      refine lv_iload hx hb dX3_drawFraction_32 (lv_at hl 4 rfl) ?_
      refine nk_SSL (As := [.int c0]) (rest := []) ⟨hx, hb, hml, hown, hts⟩ (mX3_firstCounter l c0) (va_cwS 1 hts gX3_drawFraction_X3_firstCounter rfl rfl rfl (by decide +kernel) ⟨Nat.le_of_ble_eq_true rfl, Nat.le_of_ble_eq_true rfl⟩) rfl hl.1 rfl (Nat.le_of_ble_eq_true rfl) dX3_drawFraction_34 ⟨Nat.zero_le _, Nat.zero_le _⟩ (fun r3 hr3 => ?_)
      subst hr3
      refine lv_topl (fun z4 ez4 => ?_)
      refine lv_lstore (lv' := [(11, .long z4), (9, .long z2), (0, .ref (ad 0)), (1, .long run0), (3, .int p0), (4, .int c0), (5, .long a0), (7, .long b0)]) hx hb dX3_drawFraction_37 hl (by decide) rfl (fun ls hl => ?_)
      refine lv_lload hx hb dX3_drawFraction_39 (lv_at hl 6 rfl) ?_
      refine lv_lstore (lv' := [(13, .long a0), (11, .long z4), (9, .long z2), (0, .ref (ad 0)), (1, .long run0), (3, .int p0), (4, .int c0), (5, .long a0), (7, .long b0)]) hx hb dX3_drawFraction_41 hl (by decide) rfl (fun ls hl => ?_)
      refine lv_iconst (v := 0) hx hb dX3_drawFraction_43 (by decide) ?_
      refine lv_istore (lv' := [(15, .int (0 : Int32)), (13, .long a0), (11, .long z4), (9, .long z2), (0, .ref (ad 0)), (1, .long run0), (3, .int p0), (4, .int c0), (5, .long a0), (7, .long b0)]) hx hb dX3_drawFraction_44 hl (by decide) rfl (fun ls hl => ?_)
      have lp46 : ∀ (k : Nat) (i : Int32) (r1 : Int64) (tr1 : Int32) (H : Heap) (locs : List Loc) (ls : Array Slot), k ≤ 32 → i = nI (32 - k) → fFrac z2 z4 b0 k r1 tr1 = fFracD (fBase sd run0 (Ky p0.toNatClampNeg)) (fFirst c0) a0 b0 → va_P D vwCl (wC ad ca sd tc sc tr1 st pz T Wt O SA KA R Ln Ky Ch X) H → va_D A (wC ad ca sd tc sc tr1 st pz T Wt O SA KA R Ln Ky Ch X) → va_S A s.heap H locs → lv_has ls 21 [(15, .int i), (13, .long r1), (11, .long z4), (9, .long z2), (0, .ref (ad 0)), (1, .long run0), (3, .int p0), (4, .int c0), (5, .long a0), (7, .long b0)] → W p l e ({ frames := 2, cells := 0, slots := 0, locals := 46 } : Room) s m ([.ref (ad 0), .long run0, .int p0, .int c0, .long a0, .long b0] : List Value).toArray below meth c H locs 0 0 (MQ below (va_Qi (fun r u => fFracD (fBase sd run0 (Ky p0.toNatClampNeg)) (fFirst c0) a0 b0 = (r, u)) (nkB D A (fun u : Int32 => wC ad ca sd tc sc u st pz T Wt O SA KA R Ln Ky Ch X)) A) ([.ref (ad 0), .long run0, .int p0, .int c0, .long a0, .long b0] : List Value).toArray s 0 0 A) (F0 m 46 ls []) := by
        intro k
        induction k with
        | zero =>
          intro i r1 tr1 H locs ls hk hi ht hP hD hS hl
          refine lv_iload hx hb dX3_drawFraction_46 (lv_at hl 0 rfl) ?_
          refine lv_bipush (v := 32) hx hb dX3_drawFraction_48 (by decide) ?_
          refine lv_icmp_ge (tgt := 184) hx hb dX3_drawFraction_50 (by decide) (fun c50 => ?_) (fun c50 => ?_)
          · skip
            refine lv_bipush (v := -3) hx hb dX3_drawFraction_184 (by decide) ?_
            exact nk_retI (g := _) tr1 hx hb hr hlocks hP hD hS dX3_drawFraction_186 (by rw [← ht]; rfl)
          · skip
            exact absurd (by rw [hi]; decide) c50
        | succ k ih46 =>
          intro i r1 tr1 H locs ls hk hi ht hP hD hS hl
          refine lv_iload hx hb dX3_drawFraction_46 (lv_at hl 0 rfl) ?_
          refine lv_bipush (v := 32) hx hb dX3_drawFraction_48 (by decide) ?_
          refine lv_icmp_ge (tgt := 184) hx hb dX3_drawFraction_50 (by decide) (fun c50 => ?_) (fun c50 => ?_)
          · skip
            exact absurd c50 (Int32.not_le.mpr (by rw [hi]; exact ns_nI_lt (n := 32) rfl (by omega) (by decide)))
          · skip
            refine lv_lload hx hb dX3_drawFraction_53 (lv_at hl 3 rfl) ?_
            refine lv_lload hx hb dX3_drawFraction_55 (lv_at hl 2 rfl) ?_
            refine lv_iload hx hb dX3_drawFraction_57 (lv_at hl 0 rfl) ?_
            refine lv_i2l hx hb dX3_drawFraction_59 rfl ?_
            refine lv_ladd hx hb dX3_drawFraction_60 ?_
            refine nk_SSL (As := [.long z2, .long (z4 + (Int32.toInt64 i))]) (rest := []) ⟨hx, hb, hml, hown, hts⟩ (mX3_wordAt l z2 (z4 + (Int32.toInt64 i))) (va_cwS 2 hts gX3_drawFraction_X3_wordAt rfl rfl rfl (by decide +kernel) ⟨Nat.le_of_ble_eq_true rfl, Nat.le_of_ble_eq_true rfl⟩) rfl hl.1 rfl (Nat.le_of_ble_eq_true rfl) dX3_drawFraction_61 ⟨Nat.zero_le _, Nat.zero_le _⟩ (fun r5 hr5 => ?_)
            subst hr5
            refine lv_topl (fun z6 ez6 => ?_)
            refine lv_lstore (lv' := [(16, .long z6), (15, .int i), (13, .long r1), (11, .long z4), (9, .long z2), (0, .ref (ad 0)), (1, .long run0), (3, .int p0), (4, .int c0), (5, .long a0), (7, .long b0)]) hx hb dX3_drawFraction_64 hl (by decide) rfl (fun ls hl => ?_)
            refine lv_bipush (v := 63) hx hb dX3_drawFraction_66 (by decide) ?_
            refine lv_istore (lv' := [(18, .int (63 : Int32)), (16, .long z6), (15, .int i), (13, .long r1), (11, .long z4), (9, .long z2), (0, .ref (ad 0)), (1, .long run0), (3, .int p0), (4, .int c0), (5, .long a0), (7, .long b0)]) hx hb dX3_drawFraction_68 hl (by decide) rfl (fun ls hl => ?_)
            have lp70 : ∀ (j : Nat) (pl : Int32) (r2 : Int64) (tr2 : Int32) (H : Heap) (locs : List Loc) (ls : Array Slot), j ≤ 64 → pl = nI j - 1 → fFrW z6 b0 j r2 tr2 (fun r t => fFrac z2 z4 b0 k r t) = fFracD (fBase sd run0 (Ky p0.toNatClampNeg)) (fFirst c0) a0 b0 → va_P D vwCl (wC ad ca sd tc sc tr2 st pz T Wt O SA KA R Ln Ky Ch X) H → va_D A (wC ad ca sd tc sc tr2 st pz T Wt O SA KA R Ln Ky Ch X) → va_S A s.heap H locs → lv_has ls 21 [(18, .int pl), (16, .long z6), (15, .int i), (13, .long r2), (11, .long z4), (9, .long z2), (0, .ref (ad 0)), (1, .long run0), (3, .int p0), (4, .int c0), (5, .long a0), (7, .long b0)] → W p l e ({ frames := 2, cells := 0, slots := 0, locals := 46 } : Room) s m ([.ref (ad 0), .long run0, .int p0, .int c0, .long a0, .long b0] : List Value).toArray below meth c H locs 0 0 (MQ below (va_Qi (fun r u => fFracD (fBase sd run0 (Ky p0.toNatClampNeg)) (fFirst c0) a0 b0 = (r, u)) (nkB D A (fun u : Int32 => wC ad ca sd tc sc u st pz T Wt O SA KA R Ln Ky Ch X)) A) ([.ref (ad 0), .long run0, .int p0, .int c0, .long a0, .long b0] : List Value).toArray s 0 0 A) (F0 m 70 ls []) := by
              intro j
              induction j with
              | zero =>
                intro pl r2 tr2 H locs ls hj hpl htI hP hD hS hl
                refine lv_iload hx hb dX3_drawFraction_70 (lv_at hl 0 rfl) ?_
                refine lv_if_lt (tgt := 178) hx hb dX3_drawFraction_72 (by decide) (fun c72 => ?_) (fun c72 => ?_)
                · skip
                  obtain ⟨i7, ei7⟩ : ∃ y : Int32, y = i + 1 := ⟨_, rfl⟩
                  refine lv_iinc (v := i7) (lv' := [(15, .int i7), (18, .int pl), (16, .long z6), (13, .long r2), (11, .long z4), (9, .long z2), (0, .ref (ad 0)), (1, .long run0), (3, .int p0), (4, .int c0), (5, .long a0), (7, .long b0)]) hx hb dX3_drawFraction_178 hl (k := 2) rfl (by rw [ei7]; rfl) (by decide) rfl (fun ls hl => ?_)
                  refine lv_goto (tgt := 46) hx hb dX3_drawFraction_181 (by decide) ?_
                  exact ih46 i7 r2 tr2 _ _ _ (Nat.le_of_succ_le hk) (ns_step hi hk ei7) htI hP hD hS (lv_sub hl [0, 3, 4, 5, 6, 7, 8, 9, 10, 11] rfl)
                · skip
                  exact absurd (by rw [hpl]; decide) c72
              | succ j ih70 =>
                intro pl r2 tr2 H locs ls hj hpl htI hP hD hS hl
                refine lv_iload hx hb dX3_drawFraction_70 (lv_at hl 0 rfl) ?_
                refine lv_if_lt (tgt := 178) hx hb dX3_drawFraction_72 (by decide) (fun c72 => ?_) (fun c72 => ?_)
                · skip
                  exact absurd c72 (by rw [hpl, nI_pred]; exact nI_pos (by omega))
                · skip
                  refine lv_lload hx hb dX3_drawFraction_75 (lv_at hl 3 rfl) ?_
                  refine lv_lload hx hb dX3_drawFraction_77 (lv_at hl 11 rfl) ?_
                  refine lv_lload hx hb dX3_drawFraction_79 (lv_at hl 3 rfl) ?_
                  refine lv_lsub hx hb dX3_drawFraction_81 ?_
                  refine W.lcmp hx hb dX3_drawFraction_82 ?_
                  refine lv_if_lt (tgt := 90) hx hb dX3_drawFraction_83 (by decide) (fun c83 => ?_) (fun c83 => ?_)
                  · skip
                    have c83 : r2 < (b0 - r2) := (lg_cmp_lt _ _).mp c83
                    refine lv_iconst (v := 0) hx hb dX3_drawFraction_90 (by decide) ?_
                    refine lv_istore (lv' := [(19, .int (0 : Int32)), (18, .int pl), (16, .long z6), (15, .int i), (13, .long r2), (11, .long z4), (9, .long z2), (0, .ref (ad 0)), (1, .long run0), (3, .int p0), (4, .int c0), (5, .long a0), (7, .long b0)]) hx hb dX3_drawFraction_91 hl (by decide) rfl (fun ls hl => ?_)
                    refine lv_iload hx hb dX3_drawFraction_93 (lv_at hl 0 rfl) ?_
                    refine lv_if_eq (tgt := 109) hx hb dX3_drawFraction_95 (by decide) (fun c95 => ?_) (fun c95 => ?_)
                    · skip
                      refine lv_lload hx hb dX3_drawFraction_109 (lv_at hl 4 rfl) ?_
                      refine lv_lload hx hb dX3_drawFraction_111 (lv_at hl 4 rfl) ?_
                      refine lv_ladd hx hb dX3_drawFraction_113 ?_
                      refine lv_topl (fun z8 ez8 => ?_)
                      refine lv_lstore (lv' := [(13, .long z8), (19, .int (0 : Int32)), (18, .int pl), (16, .long z6), (15, .int i), (11, .long z4), (9, .long z2), (0, .ref (ad 0)), (1, .long run0), (3, .int p0), (4, .int c0), (5, .long a0), (7, .long b0)]) hx hb dX3_drawFraction_114 hl (by decide) rfl (fun ls hl => ?_)
                      refine lv_lload hx hb dX3_drawFraction_116 (lv_at hl 3 rfl) ?_
                      refine lv_iload hx hb dX3_drawFraction_118 (lv_at hl 2 rfl) ?_
                      refine lv_lushr (v := (nsU z6 pl)) hx hb dX3_drawFraction_120 rfl ?_
                      refine lv_lconst (v := 1) hx hb dX3_drawFraction_121 (by decide) ?_
                      refine lv_land hx hb dX3_drawFraction_122 ?_
                      refine lv_lconst (v := 1) hx hb dX3_drawFraction_123 (by decide) ?_
                      refine W.lcmp hx hb dX3_drawFraction_124 ?_
                      refine lv_if_ne (tgt := 132) hx hb dX3_drawFraction_125 (by decide) (fun c125 => ?_) (fun c125 => ?_)
                      · skip
                        have c125 : ¬ (((nsU z6 pl) &&& (1 : Int64)) = (1 : Int64)) := fun h => c125 ((lg_cmp_eq _ _).mpr h)
                        refine lv_iconst (v := 0) hx hb dX3_drawFraction_132 (by decide) ?_
                        refine lv_istore (lv' := [(20, .int (0 : Int32)), (13, .long z8), (19, .int (0 : Int32)), (18, .int pl), (16, .long z6), (15, .int i), (11, .long z4), (9, .long z2), (0, .ref (ad 0)), (1, .long run0), (3, .int p0), (4, .int c0), (5, .long a0), (7, .long b0)]) hx hb dX3_drawFraction_133 hl (by decide) rfl (fun ls hl => ?_)
                        refine lv_aload_n hx hb dX3_drawFraction_135 rfl (lv_at hl 8 rfl) ?_
                        refine lv_dup hx hb dX3_drawFraction_136 rfl ?_
                        refine va_get (D := D) (ci := 3) (v := .int tr2) (C := RX3) (T := TX3) (N := 11) hx hb hts iX3 hown hK.1 hP 0 rfl rfl 9 (by decide) (hts (.fieldLink RX3 46 "NamedStreams" "latestTries" "I") (by decide +kernel)) (fun _ h9 => h9) rfl dX3_drawFraction_137 ?_
                        refine lv_iconst (v := 1) hx hb dX3_drawFraction_140 (by decide) ?_
                        refine lv_iadd hx hb dX3_drawFraction_141 ?_
                        refine lv_topi (fun z9 ez9 => ?_)
                        refine va_put (D := D) (ci := 3) (v := .int z9) (ty := .int) (C := RX3) (T := TX3) (N := 11) hx hb hts iX3 tyX3 tyX3_ok nmX3 hown hK.1 hP hD hS 0 rfl rfl 9 (by decide) (hts (.fieldLink RX3 46 "NamedStreams" "latestTries" "I") (by decide +kernel)) (fun _ h9 => h9) rfl (by decide +kernel) rfl rfl (Nat.le_of_ble_eq_true rfl) dX3_drawFraction_142 (fun H locs hP hD hS => ?_)
                        have hP : va_P D vwCl (wC ad ca sd tc sc z9 st pz T Wt O SA KA R Ln Ky Ch X) H := hP
                        have hD : va_D A (wC ad ca sd tc sc z9 st pz T Wt O SA KA R Ln Ky Ch X) := hD
                        refine lv_iload hx hb dX3_drawFraction_145 (lv_at hl 0 rfl) ?_
                        refine lv_iload hx hb dX3_drawFraction_147 (lv_at hl 2 rfl) ?_
                        refine lv_icmp_eq (tgt := 163) hx hb dX3_drawFraction_149 (by decide) (fun c149 => ?_) (fun c149 => ?_)
                        · skip
                          refine lv_lload hx hb dX3_drawFraction_163 (lv_at hl 1 rfl) ?_
                          refine lv_lconst (v := 0) hx hb dX3_drawFraction_165 (by decide) ?_
                          refine W.lcmp hx hb dX3_drawFraction_166 ?_
                          refine lv_if_ne (tgt := 172) hx hb dX3_drawFraction_167 (by decide) (fun c167 => ?_) (fun c167 => ?_)
                          · skip
                            have c167 : ¬ (z8 = (0 : Int64)) := fun h => c167 ((lg_cmp_eq _ _).mpr h)
                            obtain ⟨i10, ei10⟩ : ∃ y : Int32, y = pl + (-1) := ⟨_, rfl⟩
                            refine lv_iinc (v := i10) (lv' := [(18, .int i10), (20, .int (0 : Int32)), (13, .long z8), (19, .int (0 : Int32)), (16, .long z6), (15, .int i), (11, .long z4), (9, .long z2), (0, .ref (ad 0)), (1, .long run0), (3, .int p0), (4, .int c0), (5, .long a0), (7, .long b0)]) hx hb dX3_drawFraction_172 hl (k := 3) rfl (by rw [ei10]; rfl) (by decide) rfl (fun ls hl => ?_)
                            refine lv_goto (tgt := 70) hx hb dX3_drawFraction_175 (by decide) ?_
                            exact ih70 i10 z8 z9 _ _ _ (Nat.le_of_succ_le hj) (by rw [ei10, hpl, nI_pred]; exact ns_m1 _) (by rw [nI_pred] at hpl; subst hpl; subst ez8; subst ez9; subst ei10; rw [← htI, fFrW, if_pos c83, if_neg c125, if_neg c167]) hP hD hS (lv_sub hl [0, 4, 5, 2, 6, 7, 8, 9, 10, 11, 12, 13] rfl)
                          · skip
                            have c167 : z8 = (0 : Int64) := (lg_cmp_eq _ _).mp c167
                            refine lv_iconst (v := 0) hx hb dX3_drawFraction_170 (by decide) ?_
                            exact nk_retI (g := _) z9 hx hb hr hlocks hP hD hS dX3_drawFraction_171 (by rw [nI_pred] at hpl; subst hpl; subst ez8; subst ez9; rw [← htI]; exact ((if_pos c83).trans ((if_neg c125).trans (if_pos c167))))
                        · skip
                          exact absurd c149 (by decide)
                      · skip
                        have c125 : ((nsU z6 pl) &&& (1 : Int64)) = (1 : Int64) := (lg_cmp_eq _ _).mp c125
                        refine lv_iconst (v := 1) hx hb dX3_drawFraction_128 (by decide) ?_
                        refine lv_goto (tgt := 133) hx hb dX3_drawFraction_129 (by decide) ?_
                        refine lv_istore (lv' := [(20, .int (1 : Int32)), (13, .long z8), (19, .int (0 : Int32)), (18, .int pl), (16, .long z6), (15, .int i), (11, .long z4), (9, .long z2), (0, .ref (ad 0)), (1, .long run0), (3, .int p0), (4, .int c0), (5, .long a0), (7, .long b0)]) hx hb dX3_drawFraction_133 hl (by decide) rfl (fun ls hl => ?_)
                        refine lv_aload_n hx hb dX3_drawFraction_135 rfl (lv_at hl 8 rfl) ?_
                        refine lv_dup hx hb dX3_drawFraction_136 rfl ?_
                        refine va_get (D := D) (ci := 3) (v := .int tr2) (C := RX3) (T := TX3) (N := 11) hx hb hts iX3 hown hK.1 hP 0 rfl rfl 9 (by decide) (hts (.fieldLink RX3 46 "NamedStreams" "latestTries" "I") (by decide +kernel)) (fun _ h9 => h9) rfl dX3_drawFraction_137 ?_
                        refine lv_iconst (v := 1) hx hb dX3_drawFraction_140 (by decide) ?_
                        refine lv_iadd hx hb dX3_drawFraction_141 ?_
                        refine lv_topi (fun z11 ez11 => ?_)
                        refine va_put (D := D) (ci := 3) (v := .int z11) (ty := .int) (C := RX3) (T := TX3) (N := 11) hx hb hts iX3 tyX3 tyX3_ok nmX3 hown hK.1 hP hD hS 0 rfl rfl 9 (by decide) (hts (.fieldLink RX3 46 "NamedStreams" "latestTries" "I") (by decide +kernel)) (fun _ h9 => h9) rfl (by decide +kernel) rfl rfl (Nat.le_of_ble_eq_true rfl) dX3_drawFraction_142 (fun H locs hP hD hS => ?_)
                        have hP : va_P D vwCl (wC ad ca sd tc sc z11 st pz T Wt O SA KA R Ln Ky Ch X) H := hP
                        have hD : va_D A (wC ad ca sd tc sc z11 st pz T Wt O SA KA R Ln Ky Ch X) := hD
                        refine lv_iload hx hb dX3_drawFraction_145 (lv_at hl 0 rfl) ?_
                        refine lv_iload hx hb dX3_drawFraction_147 (lv_at hl 2 rfl) ?_
                        refine lv_icmp_eq (tgt := 163) hx hb dX3_drawFraction_149 (by decide) (fun c149 => ?_) (fun c149 => ?_)
                        · skip
                          exact absurd c149 (by decide)
                        · skip
                          refine lv_iload hx hb dX3_drawFraction_152 (lv_at hl 0 rfl) ?_
                          refine lv_if_eq (tgt := 161) hx hb dX3_drawFraction_154 (by decide) (fun c154 => ?_) (fun c154 => ?_)
                          · skip
                            exact absurd c154 (by decide)
                          · skip
                            refine lv_iconst (v := 0) hx hb dX3_drawFraction_157 (by decide) ?_
                            refine lv_goto (tgt := 162) hx hb dX3_drawFraction_158 (by decide) ?_
                            exact nk_retI (g := _) z11 hx hb hr hlocks hP hD hS dX3_drawFraction_162 (by rw [nI_pred] at hpl; subst hpl; subst ez8; subst ez11; rw [← htI]; exact ((if_pos c83).trans (if_pos c125)))
                    · skip
                      exact absurd c95 (by decide)
                  · skip
                    have c83 : ¬ (r2 < (b0 - r2)) := fun h => c83 ((lg_cmp_lt _ _).mpr h)
                    refine lv_iconst (v := 1) hx hb dX3_drawFraction_86 (by decide) ?_
                    refine lv_goto (tgt := 91) hx hb dX3_drawFraction_87 (by decide) ?_
                    refine lv_istore (lv' := [(19, .int (1 : Int32)), (18, .int pl), (16, .long z6), (15, .int i), (13, .long r2), (11, .long z4), (9, .long z2), (0, .ref (ad 0)), (1, .long run0), (3, .int p0), (4, .int c0), (5, .long a0), (7, .long b0)]) hx hb dX3_drawFraction_91 hl (by decide) rfl (fun ls hl => ?_)
                    refine lv_iload hx hb dX3_drawFraction_93 (lv_at hl 0 rfl) ?_
                    refine lv_if_eq (tgt := 109) hx hb dX3_drawFraction_95 (by decide) (fun c95 => ?_) (fun c95 => ?_)
                    · skip
                      exact absurd c95 (by decide)
                    · skip
                      refine lv_lload hx hb dX3_drawFraction_98 (lv_at hl 4 rfl) ?_
                      refine lv_lload hx hb dX3_drawFraction_100 (lv_at hl 12 rfl) ?_
                      refine lv_lload hx hb dX3_drawFraction_102 (lv_at hl 4 rfl) ?_
                      refine lv_lsub hx hb dX3_drawFraction_104 ?_
                      refine lv_lsub hx hb dX3_drawFraction_105 ?_
                      refine lv_goto (tgt := 114) hx hb dX3_drawFraction_106 (by decide) ?_
                      refine lv_topl (fun z12 ez12 => ?_)
                      refine lv_lstore (lv' := [(13, .long z12), (19, .int (1 : Int32)), (18, .int pl), (16, .long z6), (15, .int i), (11, .long z4), (9, .long z2), (0, .ref (ad 0)), (1, .long run0), (3, .int p0), (4, .int c0), (5, .long a0), (7, .long b0)]) hx hb dX3_drawFraction_114 hl (by decide) rfl (fun ls hl => ?_)
                      refine lv_lload hx hb dX3_drawFraction_116 (lv_at hl 3 rfl) ?_
                      refine lv_iload hx hb dX3_drawFraction_118 (lv_at hl 2 rfl) ?_
                      refine lv_lushr (v := (nsU z6 pl)) hx hb dX3_drawFraction_120 rfl ?_
                      refine lv_lconst (v := 1) hx hb dX3_drawFraction_121 (by decide) ?_
                      refine lv_land hx hb dX3_drawFraction_122 ?_
                      refine lv_lconst (v := 1) hx hb dX3_drawFraction_123 (by decide) ?_
                      refine W.lcmp hx hb dX3_drawFraction_124 ?_
                      refine lv_if_ne (tgt := 132) hx hb dX3_drawFraction_125 (by decide) (fun c125 => ?_) (fun c125 => ?_)
                      · skip
                        have c125 : ¬ (((nsU z6 pl) &&& (1 : Int64)) = (1 : Int64)) := fun h => c125 ((lg_cmp_eq _ _).mpr h)
                        refine lv_iconst (v := 0) hx hb dX3_drawFraction_132 (by decide) ?_
                        refine lv_istore (lv' := [(20, .int (0 : Int32)), (13, .long z12), (19, .int (1 : Int32)), (18, .int pl), (16, .long z6), (15, .int i), (11, .long z4), (9, .long z2), (0, .ref (ad 0)), (1, .long run0), (3, .int p0), (4, .int c0), (5, .long a0), (7, .long b0)]) hx hb dX3_drawFraction_133 hl (by decide) rfl (fun ls hl => ?_)
                        refine lv_aload_n hx hb dX3_drawFraction_135 rfl (lv_at hl 8 rfl) ?_
                        refine lv_dup hx hb dX3_drawFraction_136 rfl ?_
                        refine va_get (D := D) (ci := 3) (v := .int tr2) (C := RX3) (T := TX3) (N := 11) hx hb hts iX3 hown hK.1 hP 0 rfl rfl 9 (by decide) (hts (.fieldLink RX3 46 "NamedStreams" "latestTries" "I") (by decide +kernel)) (fun _ h9 => h9) rfl dX3_drawFraction_137 ?_
                        refine lv_iconst (v := 1) hx hb dX3_drawFraction_140 (by decide) ?_
                        refine lv_iadd hx hb dX3_drawFraction_141 ?_
                        refine lv_topi (fun z13 ez13 => ?_)
                        refine va_put (D := D) (ci := 3) (v := .int z13) (ty := .int) (C := RX3) (T := TX3) (N := 11) hx hb hts iX3 tyX3 tyX3_ok nmX3 hown hK.1 hP hD hS 0 rfl rfl 9 (by decide) (hts (.fieldLink RX3 46 "NamedStreams" "latestTries" "I") (by decide +kernel)) (fun _ h9 => h9) rfl (by decide +kernel) rfl rfl (Nat.le_of_ble_eq_true rfl) dX3_drawFraction_142 (fun H locs hP hD hS => ?_)
                        have hP : va_P D vwCl (wC ad ca sd tc sc z13 st pz T Wt O SA KA R Ln Ky Ch X) H := hP
                        have hD : va_D A (wC ad ca sd tc sc z13 st pz T Wt O SA KA R Ln Ky Ch X) := hD
                        refine lv_iload hx hb dX3_drawFraction_145 (lv_at hl 0 rfl) ?_
                        refine lv_iload hx hb dX3_drawFraction_147 (lv_at hl 2 rfl) ?_
                        refine lv_icmp_eq (tgt := 163) hx hb dX3_drawFraction_149 (by decide) (fun c149 => ?_) (fun c149 => ?_)
                        · skip
                          exact absurd c149 (by decide)
                        · skip
                          refine lv_iload hx hb dX3_drawFraction_152 (lv_at hl 0 rfl) ?_
                          refine lv_if_eq (tgt := 161) hx hb dX3_drawFraction_154 (by decide) (fun c154 => ?_) (fun c154 => ?_)
                          · skip
                            refine lv_iconst (v := 1) hx hb dX3_drawFraction_161 (by decide) ?_
                            exact nk_retI (g := _) z13 hx hb hr hlocks hP hD hS dX3_drawFraction_162 (by rw [nI_pred] at hpl; subst hpl; subst ez12; subst ez13; rw [← htI]; exact ((if_neg c83).trans (if_neg c125)))
                          · skip
                            exact absurd c154 (by decide)
                      · skip
                        have c125 : ((nsU z6 pl) &&& (1 : Int64)) = (1 : Int64) := (lg_cmp_eq _ _).mp c125
                        refine lv_iconst (v := 1) hx hb dX3_drawFraction_128 (by decide) ?_
                        refine lv_goto (tgt := 133) hx hb dX3_drawFraction_129 (by decide) ?_
                        refine lv_istore (lv' := [(20, .int (1 : Int32)), (13, .long z12), (19, .int (1 : Int32)), (18, .int pl), (16, .long z6), (15, .int i), (11, .long z4), (9, .long z2), (0, .ref (ad 0)), (1, .long run0), (3, .int p0), (4, .int c0), (5, .long a0), (7, .long b0)]) hx hb dX3_drawFraction_133 hl (by decide) rfl (fun ls hl => ?_)
                        refine lv_aload_n hx hb dX3_drawFraction_135 rfl (lv_at hl 8 rfl) ?_
                        refine lv_dup hx hb dX3_drawFraction_136 rfl ?_
                        refine va_get (D := D) (ci := 3) (v := .int tr2) (C := RX3) (T := TX3) (N := 11) hx hb hts iX3 hown hK.1 hP 0 rfl rfl 9 (by decide) (hts (.fieldLink RX3 46 "NamedStreams" "latestTries" "I") (by decide +kernel)) (fun _ h9 => h9) rfl dX3_drawFraction_137 ?_
                        refine lv_iconst (v := 1) hx hb dX3_drawFraction_140 (by decide) ?_
                        refine lv_iadd hx hb dX3_drawFraction_141 ?_
                        refine lv_topi (fun z14 ez14 => ?_)
                        refine va_put (D := D) (ci := 3) (v := .int z14) (ty := .int) (C := RX3) (T := TX3) (N := 11) hx hb hts iX3 tyX3 tyX3_ok nmX3 hown hK.1 hP hD hS 0 rfl rfl 9 (by decide) (hts (.fieldLink RX3 46 "NamedStreams" "latestTries" "I") (by decide +kernel)) (fun _ h9 => h9) rfl (by decide +kernel) rfl rfl (Nat.le_of_ble_eq_true rfl) dX3_drawFraction_142 (fun H locs hP hD hS => ?_)
                        have hP : va_P D vwCl (wC ad ca sd tc sc z14 st pz T Wt O SA KA R Ln Ky Ch X) H := hP
                        have hD : va_D A (wC ad ca sd tc sc z14 st pz T Wt O SA KA R Ln Ky Ch X) := hD
                        refine lv_iload hx hb dX3_drawFraction_145 (lv_at hl 0 rfl) ?_
                        refine lv_iload hx hb dX3_drawFraction_147 (lv_at hl 2 rfl) ?_
                        refine lv_icmp_eq (tgt := 163) hx hb dX3_drawFraction_149 (by decide) (fun c149 => ?_) (fun c149 => ?_)
                        · skip
                          refine lv_lload hx hb dX3_drawFraction_163 (lv_at hl 1 rfl) ?_
                          refine lv_lconst (v := 0) hx hb dX3_drawFraction_165 (by decide) ?_
                          refine W.lcmp hx hb dX3_drawFraction_166 ?_
                          refine lv_if_ne (tgt := 172) hx hb dX3_drawFraction_167 (by decide) (fun c167 => ?_) (fun c167 => ?_)
                          · skip
                            have c167 : ¬ (z12 = (0 : Int64)) := fun h => c167 ((lg_cmp_eq _ _).mpr h)
                            obtain ⟨i15, ei15⟩ : ∃ y : Int32, y = pl + (-1) := ⟨_, rfl⟩
                            refine lv_iinc (v := i15) (lv' := [(18, .int i15), (20, .int (1 : Int32)), (13, .long z12), (19, .int (1 : Int32)), (16, .long z6), (15, .int i), (11, .long z4), (9, .long z2), (0, .ref (ad 0)), (1, .long run0), (3, .int p0), (4, .int c0), (5, .long a0), (7, .long b0)]) hx hb dX3_drawFraction_172 hl (k := 3) rfl (by rw [ei15]; rfl) (by decide) rfl (fun ls hl => ?_)
                            refine lv_goto (tgt := 70) hx hb dX3_drawFraction_175 (by decide) ?_
                            exact ih70 i15 z12 z14 _ _ _ (Nat.le_of_succ_le hj) (by rw [ei15, hpl, nI_pred]; exact ns_m1 _) (by rw [nI_pred] at hpl; subst hpl; subst ez12; subst ez14; subst ei15; rw [← htI, fFrW, if_neg c83, if_pos c125, if_neg c167]) hP hD hS (lv_sub hl [0, 4, 5, 2, 6, 7, 8, 9, 10, 11, 12, 13] rfl)
                          · skip
                            have c167 : z12 = (0 : Int64) := (lg_cmp_eq _ _).mp c167
                            refine lv_iconst (v := 0) hx hb dX3_drawFraction_170 (by decide) ?_
                            exact nk_retI (g := _) z14 hx hb hr hlocks hP hD hS dX3_drawFraction_171 (by rw [nI_pred] at hpl; subst hpl; subst ez12; subst ez14; rw [← htI]; exact ((if_neg c83).trans ((if_pos c125).trans (if_pos c167))))
                        · skip
                          exact absurd c149 (by decide)
            exact lp70 64 (63 : Int32) r1 tr1 _ _ _ (Nat.le_refl 64) (by decide) (by subst hi; subst ez6; exact ht) hP hD hS (lv_sub hl [0, 1, 2, 3, 4, 5, 6, 7, 8, 9, 10, 11] rfl)
      exact lp46 32 (0 : Int32) a0 (0 : Int32) _ _ _ (Nat.le_refl 32) (by decide) (by subst ez2; subst ez4; exact ((if_neg c10).trans (if_neg c19)).symm) hP hD hS (lv_sub hl [0, 1, 2, 3, 4, 5, 6, 7, 8, 9] rfl)
    · skip
      have c19 : a0 = (0 : Int64) := (lg_cmp_eq _ _).mp c19
      refine lv_iconst (v := 0) hx hb dX3_drawFraction_22 (by decide) ?_
      exact nk_retI (g := _) (0 : Int32) hx hb hr hlocks hP hD hS dX3_drawFraction_23 (by exact ((if_neg c10).trans (if_pos c19)))
  · skip
    have c10 : a0 = b0 := (lg_cmp_eq _ _).mp c10
    refine lv_iconst (v := 1) hx hb dX3_drawFraction_13 (by decide) ?_
    exact nk_retI (g := _) (0 : Int32) hx hb hr hlocks hP hD hS dX3_drawFraction_14 (by exact (if_pos c10))

set_option maxHeartbeats 4000000 in
set_option maxRecDepth 100000 in
theorem mX3_fraction (l : Launch) (D : va_G) (ad : Nat → Nat) (ca : Nat → ClassId) (sd : Int64) (tc : Int32) (sc : Int32) (tr : Int32) (st : Int32) (pz : Int32) (T : Nat → Int64) (Wt : Nat → Int64) (O : Nat → Int32) (SA : Nat → Option Nat) (KA : Nat → Option Nat) (R : Nat → Int64) (Ln : Nat → Int32) (Ky : Nat → Int64) (Ch : Nat → Int64) (X : va_W) (run0 : Int64) (p0 c0 : Int32) (a0 b0 : Int64) (hz : pz ≤ 24) : nkMI l yX3_fraction wsX3_fraction ({ frames := 3, cells := 0, slots := 0, locals := 86 }) D (tC ca) [.ref (ad 0), .long run0, .int p0, .int c0, .long a0, .long b0] (wC ad ca sd tc sc tr st pz T Wt O SA KA R Ln Ky Ch X) (fun u : Int32 => wC ad ca sd tc sc u st pz T Wt O SA KA R Ln Ky Ch X) (fun r u => fFracC sd pz Ky run0 p0 c0 a0 b0 tr = (r, u)) 0 0 := by
  refine nk_ofM (Qf := fun A => va_Qi (fun r u => fFracC sd pz Ky run0 p0 c0 a0 b0 tr = (r, u)) (nkB D A (fun u : Int32 => wC ad ca sd tc sc u st pz T Wt O SA KA R Ln Ky Ch X)) A) (cc := cX3_fraction) (maxL := 9) (ret := (some .int)) (by decide) rfl (Nat.le_of_ble_eq_true rfl) ?_
  intro p e s m below meth c A hx hb hr hml hts hown hlocks hin hK hP hD hA hS ls hl
  replace hown : s.vm.findClass RX3 = some m.cls := hown
  replace hl : lv_has ls 9 [(0, .ref (ad 0)), (1, .long run0), (3, .int p0), (4, .int c0), (5, .long a0), (7, .long b0)] := hl
  have hP : va_P D vwCl (wC ad ca sd tc sc tr st pz T Wt O SA KA R Ln Ky Ch X) s.heap := hP
  have iX1 : ∀ w ∈ u_ws RX1 TX1 5, w ∈ wsX3_fraction := by decide +kernel
  have iX3 : ∀ w ∈ u_ws RX3 TX3 11, w ∈ wsX3_fraction := by decide +kernel
  refine lv_aload_n hx hb dX3_fraction_0 rfl (lv_at hl 0 rfl) ?_
  refine va_get (D := D) (ci := 3) (v := .ref (ad 2)) (C := RX3) (T := TX3) (N := 11) hx hb hts iX3 hown hK.1 hP 0 rfl rfl 3 (by decide) (hts (.fieldLink RX3 20 "NamedStreams" "paths" "LNamedStreams$Paths;") (by decide +kernel)) (fun _ h9 => h9) rfl dX3_fraction_1 ?_
  refine lv_iload_n hx hb dX3_fraction_4 rfl (lv_at hl 2 rfl) ?_
  refine nk_VRI (As := [.int p0]) (rest := []) ⟨hx, hb, hml, hown, hts⟩ (mX1_has l D ad ca sd tc sc tr st pz T Wt O SA KA R Ln Ky Ch X p0) (cwV 1 hts gX3_fraction_X1_has rfl rfl rfl (by decide +kernel) ⟨Nat.le_of_ble_eq_true rfl, Nat.le_of_ble_eq_true rfl⟩) hK hP 2 1 rfl rfl rfl rfl hl.1 rfl (Nat.le_of_ble_eq_true rfl) dX3_fraction_5 ⟨Nat.zero_le _, Nat.zero_le _⟩ (fun r1 hr1 => ?_)
  subst hr1
  refine lv_if_eq (tgt := 38) hx hb dX3_fraction_8 (by decide) (fun c8 => ?_) (fun c8 => ?_)
  · skip
    refine lv_iconst (v := -1) hx hb dX3_fraction_38 (by decide) ?_
    exact nk_retI (g := _) tr hx hb hr hlocks hP hD hS dX3_fraction_39 (by exact (if_pos c8))
  · skip
    refine lv_iload hx hb dX3_fraction_11 (lv_at hl 3 rfl) ?_
    refine lv_if_lt (tgt := 38) hx hb dX3_fraction_13 (by decide) (fun c13 => ?_) (fun c13 => ?_)
    · skip
      refine lv_iconst (v := -1) hx hb dX3_fraction_38 (by decide) ?_
      exact nk_retI (g := _) tr hx hb hr hlocks hP hD hS dX3_fraction_39 (by exact ((if_neg c8).trans (if_pos c13)))
    · skip
      refine lv_lload hx hb dX3_fraction_16 (lv_at hl 5 rfl) ?_
      refine lv_lconst (v := 0) hx hb dX3_fraction_18 (by decide) ?_
      refine W.lcmp hx hb dX3_fraction_19 ?_
      refine lv_if_lt (tgt := 38) hx hb dX3_fraction_20 (by decide) (fun c20 => ?_) (fun c20 => ?_)
      · skip
        have c20 : b0 < (0 : Int64) := (lg_cmp_lt _ _).mp c20
        refine lv_iconst (v := -1) hx hb dX3_fraction_38 (by decide) ?_
        exact nk_retI (g := _) tr hx hb hr hlocks hP hD hS dX3_fraction_39 (by exact ((if_neg c8).trans ((if_neg c13).trans (if_pos c20))))
      · skip
        have c20 : ¬ (b0 < (0 : Int64)) := fun h => c20 ((lg_cmp_lt _ _).mpr h)
        refine lv_lload hx hb dX3_fraction_23 (lv_at hl 4 rfl) ?_
        refine lv_lconst (v := 0) hx hb dX3_fraction_25 (by decide) ?_
        refine W.lcmp hx hb dX3_fraction_26 ?_
        refine lv_if_lt (tgt := 38) hx hb dX3_fraction_27 (by decide) (fun c27 => ?_) (fun c27 => ?_)
        · skip
          have c27 : a0 < (0 : Int64) := (lg_cmp_lt _ _).mp c27
          refine lv_iconst (v := -1) hx hb dX3_fraction_38 (by decide) ?_
          exact nk_retI (g := _) tr hx hb hr hlocks hP hD hS dX3_fraction_39 (by exact ((if_neg c8).trans ((if_neg c13).trans ((if_neg c20).trans (if_pos c27)))))
        · skip
          have c27 : ¬ (a0 < (0 : Int64)) := fun h => c27 ((lg_cmp_lt _ _).mpr h)
          refine lv_lload hx hb dX3_fraction_30 (lv_at hl 4 rfl) ?_
          refine lv_lload hx hb dX3_fraction_32 (lv_at hl 5 rfl) ?_
          refine W.lcmp hx hb dX3_fraction_34 ?_
          refine lv_if_le (tgt := 40) hx hb dX3_fraction_35 (by decide) (fun c35 => ?_) (fun c35 => ?_)
          · skip
            have c35 : a0 ≤ b0 := (lg_cmp_le _ _).mp c35
            refine lv_lload hx hb dX3_fraction_40 (lv_at hl 5 rfl) ?_
            refine lv_lconst (v := 0) hx hb dX3_fraction_42 (by decide) ?_
            refine W.lcmp hx hb dX3_fraction_43 ?_
            refine lv_if_ne (tgt := 50) hx hb dX3_fraction_44 (by decide) (fun c44 => ?_) (fun c44 => ?_)
            · skip
              have c44 : ¬ (b0 = (0 : Int64)) := fun h => c44 ((lg_cmp_eq _ _).mpr h)
              refine lv_aload_n hx hb dX3_fraction_50 rfl (lv_at hl 0 rfl) ?_
              refine lv_lload_n hx hb dX3_fraction_51 rfl (lv_at hl 1 rfl) ?_
              refine lv_iload_n hx hb dX3_fraction_52 rfl (lv_at hl 2 rfl) ?_
              refine lv_iload hx hb dX3_fraction_53 (lv_at hl 3 rfl) ?_
              refine lv_lload hx hb dX3_fraction_55 (lv_at hl 4 rfl) ?_
              refine lv_lload hx hb dX3_fraction_57 (lv_at hl 5 rfl) ?_
              refine nk_VI (As := [.long run0, .int p0, .int c0, .long a0, .long b0]) (rest := []) ⟨hx, hb, hml, hown, hts⟩ (mX3_drawFraction l D ad ca sd tc sc tr st pz T Wt O SA KA R Ln Ky Ch X run0 p0 c0 a0 b0 (ns_hasIn c8 hz)) (cwV 5 hts gX3_fraction_X3_drawFraction rfl rfl rfl (by decide +kernel) ⟨Nat.le_of_ble_eq_true rfl, Nat.le_of_ble_eq_true rfl⟩) hK hP hD hS hA 0 3 rfl rfl rfl rfl hl.1 rfl (Nat.le_of_ble_eq_true rfl) dX3_fraction_59 ⟨Nat.zero_le _, Nat.zero_le _⟩ (fun r2 ur2 H locs hr2 hP hD hS => ?_)
              obtain ⟨rfl, rfl⟩ : r2 = (fFracD (fBase sd run0 (Ky (Int32.toNatClampNeg p0))) (fFirst c0) a0 b0).1 ∧ ur2 = (fFracD (fBase sd run0 (Ky (Int32.toNatClampNeg p0))) (fFirst c0) a0 b0).2 := by rw [hr2]; exact ⟨rfl, rfl⟩
              have hP : va_P D vwCl (wC ad ca sd tc sc ((fFracD (fBase sd run0 (Ky (Int32.toNatClampNeg p0))) (fFirst c0) a0 b0).2) st pz T Wt O SA KA R Ln Ky Ch X) H := hP
              have hD : va_D A (wC ad ca sd tc sc ((fFracD (fBase sd run0 (Ky (Int32.toNatClampNeg p0))) (fFirst c0) a0 b0).2) st pz T Wt O SA KA R Ln Ky Ch X) := hD
              exact nk_retI (g := _) ((fFracD (fBase sd run0 (Ky (Int32.toNatClampNeg p0))) (fFirst c0) a0 b0).2) hx hb hr hlocks hP hD hS dX3_fraction_62 (by exact ((if_neg c8).trans ((if_neg c13).trans ((if_neg c20).trans ((if_neg c27).trans ((if_pos c35).trans (if_neg c44)))))))
            · skip
              have c44 : b0 = (0 : Int64) := (lg_cmp_eq _ _).mp c44
              refine lv_bipush (v := -4) hx hb dX3_fraction_47 (by decide) ?_
              exact nk_retI (g := _) tr hx hb hr hlocks hP hD hS dX3_fraction_49 (by exact ((if_neg c8).trans ((if_neg c13).trans ((if_neg c20).trans ((if_neg c27).trans ((if_pos c35).trans (if_pos c44)))))))
          · skip
            have c35 : ¬ (a0 ≤ b0) := fun h => c35 ((lg_cmp_le _ _).mpr h)
            refine lv_iconst (v := -1) hx hb dX3_fraction_38 (by decide) ?_
            exact nk_retI (g := _) tr hx hb hr hlocks hP hD hS dX3_fraction_39 (by exact ((if_neg c8).trans ((if_neg c13).trans ((if_neg c20).trans ((if_neg c27).trans (if_neg c35))))))

set_option maxHeartbeats 4000000 in
set_option maxRecDepth 100000 in
theorem mX3_weight (l : Launch) (D : va_G) (ad : Nat → Nat) (ca : Nat → ClassId) (sd : Int64) (tc : Int32) (sc : Int32) (tr : Int32) (st : Int32) (pz : Int32) (T : Nat → Int64) (Wt : Nat → Int64) (O : Nat → Int32) (SA : Nat → Option Nat) (KA : Nat → Option Nat) (R : Nat → Int64) (Ln : Nat → Int32) (Ky : Nat → Int64) (Ch : Nat → Int64) (X : va_W) (k0 : Int32) (w0 : Int64) : nkMI l yX3_weight wsX3_weight ({ frames := 0, cells := 0, slots := 0, locals := 0 }) D (tC ca) [.ref (ad 0), .int k0, .long w0] (wC ad ca sd tc sc tr st pz T Wt O SA KA R Ln Ky Ch X) (fun u : Nat → Int64 => wC ad ca sd tc sc tr st pz T u O SA KA R Ln Ky Ch X) (fun r u => fWeight Wt k0 w0 = (r, u)) 0 0 := by
  refine nk_ofM (Qf := fun A => va_Qi (fun r u => fWeight Wt k0 w0 = (r, u)) (nkB D A (fun u : Nat → Int64 => wC ad ca sd tc sc tr st pz T u O SA KA R Ln Ky Ch X)) A) (cc := cX3_weight) (maxL := 4) (ret := (some .int)) (by decide) rfl (Nat.le_of_ble_eq_true rfl) ?_
  intro p e s m below meth c A hx hb hr hml hts hown hlocks hin hK hP hD hA hS ls hl
  replace hown : s.vm.findClass RX3 = some m.cls := hown
  replace hl : lv_has ls 4 [(0, .ref (ad 0)), (1, .int k0), (2, .long w0)] := hl
  have hP : va_P D vwCl (wC ad ca sd tc sc tr st pz T Wt O SA KA R Ln Ky Ch X) s.heap := hP
  have iX3 : ∀ w ∈ u_ws RX3 TX3 11, w ∈ wsX3_weight := by decide +kernel
  refine lv_iload_n hx hb dX3_weight_0 rfl (lv_at hl 1 rfl) ?_
  refine lv_if_lt (tgt := 16) hx hb dX3_weight_1 (by decide) (fun c1 => ?_) (fun c1 => ?_)
  · skip
    refine lv_iconst (v := -1) hx hb dX3_weight_16 (by decide) ?_
    exact nk_retI (g := _) Wt hx hb hr hlocks hP hD hS dX3_weight_17 (by exact (if_pos c1))
  · skip
    refine lv_iload_n hx hb dX3_weight_4 rfl (lv_at hl 1 rfl) ?_
    refine lv_bipush (v := 10) hx hb dX3_weight_5 (by decide) ?_
    refine lv_icmp_ge (tgt := 16) hx hb dX3_weight_7 (by decide) (fun c7 => ?_) (fun c7 => ?_)
    · skip
      refine lv_iconst (v := -1) hx hb dX3_weight_16 (by decide) ?_
      exact nk_retI (g := _) Wt hx hb hr hlocks hP hD hS dX3_weight_17 (by exact ((if_neg c1).trans (if_pos c7)))
    · skip
      refine lv_lload_n hx hb dX3_weight_10 rfl (lv_at hl 2 rfl) ?_
      refine lv_lconst (v := 0) hx hb dX3_weight_11 (by decide) ?_
      refine W.lcmp hx hb dX3_weight_12 ?_
      refine lv_if_ge (tgt := 18) hx hb dX3_weight_13 (by decide) (fun c13 => ?_) (fun c13 => ?_)
      · skip
        have c13 : (0 : Int64) ≤ w0 := (lg_cmp_ge _ _).mp c13
        refine lv_aload_n hx hb dX3_weight_18 rfl (lv_at hl 0 rfl) ?_
        refine va_get (D := D) (ci := 3) (v := .ref (ad 3)) (C := RX3) (T := TX3) (N := 11) hx hb hts iX3 hown hK.1 hP 0 rfl rfl 4 (by decide) (hts (.fieldLink RX3 24 "NamedStreams" "weights" "[J") (by decide +kernel)) (fun _ h9 => h9) rfl dX3_weight_19 ?_
        refine lv_iload_n hx hb dX3_weight_22 rfl (lv_at hl 1 rfl) ?_
        refine lv_lload_n hx hb dX3_weight_23 rfl (lv_at hl 2 rfl) ?_
        refine va_last hx hb hK.1 hP hD hS 3 1 rfl rfl (ns_in (ns_nn c1) (Int32.not_le.mp c7) (by decide)) dX3_weight_24 (fun H locs hP hD hS => ?_)
        have hP : va_P D vwCl (wC ad ca sd tc sc tr st pz T (vp_updL Wt (Int32.toNatClampNeg k0) w0) O SA KA R Ln Ky Ch X) H := hP
        have hD : va_D A (wC ad ca sd tc sc tr st pz T (vp_updL Wt (Int32.toNatClampNeg k0) w0) O SA KA R Ln Ky Ch X) := hD
        refine lv_iconst (v := 1) hx hb dX3_weight_25 (by decide) ?_
        exact nk_retI (g := _) (vp_updL Wt (Int32.toNatClampNeg k0) w0) hx hb hr hlocks hP hD hS dX3_weight_26 (by exact ((if_neg c1).trans ((if_neg c7).trans (if_pos c13))))
      · skip
        have c13 : ¬ ((0 : Int64) ≤ w0) := fun h => c13 ((lg_cmp_ge _ _).mpr h)
        refine lv_iconst (v := -1) hx hb dX3_weight_16 (by decide) ?_
        exact nk_retI (g := _) Wt hx hb hr hlocks hP hD hS dX3_weight_17 (by exact ((if_neg c1).trans ((if_neg c7).trans (if_neg c13))))

set_option maxHeartbeats 4000000 in
set_option maxRecDepth 100000 in
theorem mX3_sumOfWeights (l : Launch) (D : va_G) (ad : Nat → Nat) (ca : Nat → ClassId) (sd : Int64) (tc : Int32) (sc : Int32) (tr : Int32) (st : Int32) (pz : Int32) (T : Nat → Int64) (Wt : Nat → Int64) (O : Nat → Int32) (SA : Nat → Option Nat) (KA : Nat → Option Nat) (R : Nat → Int64) (Ln : Nat → Int32) (Ky : Nat → Int64) (Ch : Nat → Int64) (X : va_W) : nkRL l yX3_sumOfWeights wsX3_sumOfWeights ({ frames := 0, cells := 0, slots := 0, locals := 0 }) D (tC ca) [.ref (ad 0)] (wC ad ca sd tc sc tr st pz T Wt O SA KA R Ln Ky Ch X) (fun r => r = fSum Wt 10 0) := by
  refine nk_ofR (cc := cX3_sumOfWeights) (maxL := 4) (ret := (some .long)) (by decide) rfl (Nat.le_of_ble_eq_true rfl) ?_
  intro p e s m below meth c hx hb hr hml hts hown hlocks hK hP ls hl
  replace hown : s.vm.findClass RX3 = some m.cls := hown
  replace hl : lv_has ls 4 [(0, .ref (ad 0))] := hl
  have hP : va_P D vwCl (wC ad ca sd tc sc tr st pz T Wt O SA KA R Ln Ky Ch X) s.heap := hP
  have iX3 : ∀ w ∈ u_ws RX3 TX3 11, w ∈ wsX3_sumOfWeights := by decide +kernel
  refine lv_lconst (v := 0) hx hb dX3_sumOfWeights_0 (by decide) ?_
  refine lv_lstore_n (lv' := [(1, .long (0 : Int64)), (0, .ref (ad 0))]) hx hb dX3_sumOfWeights_1 rfl hl (by decide) rfl (fun ls hl => ?_)
  refine lv_iconst (v := 0) hx hb dX3_sumOfWeights_2 (by decide) ?_
  refine lv_istore_n (lv' := [(3, .int (0 : Int32)), (1, .long (0 : Int64)), (0, .ref (ad 0))]) hx hb dX3_sumOfWeights_3 rfl hl (by decide) rfl (fun ls hl => ?_)
  have lp4 : ∀ (k : Nat) (i : Int32) (s1 : Int64) (ls : Array Slot), k ≤ 10 → i = nI (10 - k) → fSum Wt k s1 = fSum Wt 10 0 → lv_has ls 4 [(3, .int i), (1, .long s1), (0, .ref (ad 0))] → W p l e ({ frames := 0, cells := 0, slots := 0, locals := 0 } : Room) s m ([.ref (ad 0)] : List Value).toArray below meth c s.heap [] 0 0 (MQ below (vp_Sl (fun r => r = fSum Wt 10 0)) ([.ref (ad 0)] : List Value).toArray s 0 0 (fun _ => False)) (F0 m 4 ls []) := by
    intro k
    induction k with
    | zero =>
      intro i s1 ls hk hi ht hl
      refine lv_iload_n hx hb dX3_sumOfWeights_4 rfl (lv_at hl 0 rfl) ?_
      refine lv_bipush (v := 10) hx hb dX3_sumOfWeights_5 (by decide) ?_
      refine lv_icmp_ge (tgt := 35) hx hb dX3_sumOfWeights_7 (by decide) (fun c7 => ?_) (fun c7 => ?_)
      · skip
        refine lv_lload_n hx hb dX3_sumOfWeights_35 rfl (lv_at hl 1 rfl) ?_
        exact nk_endL hx hb hr hlocks dX3_sumOfWeights_36 (by rw [← ht]; rfl)
      · skip
        exact absurd (by rw [hi]; decide) c7
    | succ k ih4 =>
      intro i s1 ls hk hi ht hl
      refine lv_iload_n hx hb dX3_sumOfWeights_4 rfl (lv_at hl 0 rfl) ?_
      refine lv_bipush (v := 10) hx hb dX3_sumOfWeights_5 (by decide) ?_
      refine lv_icmp_ge (tgt := 35) hx hb dX3_sumOfWeights_7 (by decide) (fun c7 => ?_) (fun c7 => ?_)
      · skip
        exact absurd c7 (Int32.not_le.mpr (by rw [hi]; exact ns_nI_lt (n := 10) rfl (by omega) (by decide)))
      · skip
        refine lv_lload_n hx hb dX3_sumOfWeights_10 rfl (lv_at hl 1 rfl) ?_
        refine lv_aload_n hx hb dX3_sumOfWeights_11 rfl (lv_at hl 2 rfl) ?_
        refine va_get (D := D) (ci := 3) (v := .ref (ad 3)) (C := RX3) (T := TX3) (N := 11) hx hb hts iX3 hown hK.1 hP 0 rfl rfl 4 (by decide) (hts (.fieldLink RX3 24 "NamedStreams" "weights" "[J") (by decide +kernel)) (fun _ h9 => h9) rfl dX3_sumOfWeights_12 ?_
        refine lv_iload_n hx hb dX3_sumOfWeights_15 rfl (lv_at hl 0 rfl) ?_
        refine va_lald hx hb hK.1 hP 3 1 rfl rfl (by rw [hi]; exact vp_in_nI (by omega) (by decide)) dX3_sumOfWeights_16 ?_
        refine lv_ladd hx hb dX3_sumOfWeights_17 ?_
        refine lv_topl (fun z1 ez1 => ?_)
        refine lv_lstore_n (lv' := [(1, .long z1), (3, .int i), (0, .ref (ad 0))]) hx hb dX3_sumOfWeights_18 rfl hl (by decide) rfl (fun ls hl => ?_)
        refine lv_lload_n hx hb dX3_sumOfWeights_19 rfl (lv_at hl 0 rfl) ?_
        refine lv_lconst (v := 0) hx hb dX3_sumOfWeights_20 (by decide) ?_
        refine W.lcmp hx hb dX3_sumOfWeights_21 ?_
        refine lv_if_ge (tgt := 29) hx hb dX3_sumOfWeights_22 (by decide) (fun c22 => ?_) (fun c22 => ?_)
        · skip
          have c22 : (0 : Int64) ≤ z1 := (lg_cmp_ge _ _).mp c22
          obtain ⟨i2, ei2⟩ : ∃ y : Int32, y = i + 1 := ⟨_, rfl⟩
          refine lv_iinc (v := i2) (lv' := [(3, .int i2), (1, .long z1), (0, .ref (ad 0))]) hx hb dX3_sumOfWeights_29 hl (k := 1) rfl (by rw [ei2]; rfl) (by decide) rfl (fun ls hl => ?_)
          refine lv_goto (tgt := 4) hx hb dX3_sumOfWeights_32 (by decide) ?_
          exact ih4 i2 z1 _ (Nat.le_of_succ_le hk) (ns_step hi hk ei2) (by subst hi; subst ez1; rw [← ht]; exact (if_pos c22).symm) (lv_sub hl [0, 1, 2] rfl)
        · skip
          have c22 : ¬ ((0 : Int64) ≤ z1) := fun h => c22 ((lg_cmp_ge _ _).mpr h)
          refine lv_ldc2 (v := -5) hx hb hown (hts (.constantLong RX3 158 (-5)) (by decide +kernel)) dX3_sumOfWeights_25 ?_
          exact nk_endL hx hb hr hlocks dX3_sumOfWeights_28 (by subst hi; subst ez1; rw [← ht]; exact (if_neg c22).symm)
  exact lp4 10 (0 : Int32) (0 : Int64) _ (Nat.le_refl 10) (by decide) rfl (lv_sub hl [0, 1, 2] rfl)

set_option maxHeartbeats 4000000 in
set_option maxRecDepth 100000 in
theorem mX3_weightReaching (l : Launch) (D : va_G) (ad : Nat → Nat) (ca : Nat → ClassId) (sd : Int64) (tc : Int32) (sc : Int32) (tr : Int32) (st : Int32) (pz : Int32) (T : Nat → Int64) (Wt : Nat → Int64) (O : Nat → Int32) (SA : Nat → Option Nat) (KA : Nat → Option Nat) (R : Nat → Int64) (Ln : Nat → Int32) (Ky : Nat → Int64) (Ch : Nat → Int64) (X : va_W) (d0 : Int64) : nkRI l yX3_weightReaching wsX3_weightReaching ({ frames := 0, cells := 0, slots := 0, locals := 0 }) D (tC ca) [.ref (ad 0), .long d0] (wC ad ca sd tc sc tr st pz T Wt O SA KA R Ln Ky Ch X) (fun r => r = fReach Wt 9 d0) := by
  refine nk_ofR (cc := cX3_weightReaching) (maxL := 6) (ret := (some .int)) (by decide) rfl (Nat.le_of_ble_eq_true rfl) ?_
  intro p e s m below meth c hx hb hr hml hts hown hlocks hK hP ls hl
  replace hown : s.vm.findClass RX3 = some m.cls := hown
  replace hl : lv_has ls 6 [(0, .ref (ad 0)), (1, .long d0)] := hl
  have hP : va_P D vwCl (wC ad ca sd tc sc tr st pz T Wt O SA KA R Ln Ky Ch X) s.heap := hP
  have iX3 : ∀ w ∈ u_ws RX3 TX3 11, w ∈ wsX3_weightReaching := by decide +kernel
  refine lv_lload_n hx hb dX3_weightReaching_0 rfl (lv_at hl 1 rfl) ?_
  refine lv_lstore_n (lv' := [(3, .long d0), (0, .ref (ad 0)), (1, .long d0)]) hx hb dX3_weightReaching_1 rfl hl (by decide) rfl (fun ls hl => ?_)
  refine lv_iconst (v := 0) hx hb dX3_weightReaching_2 (by decide) ?_
  refine lv_istore (lv' := [(5, .int (0 : Int32)), (3, .long d0), (0, .ref (ad 0)), (1, .long d0)]) hx hb dX3_weightReaching_3 hl (by decide) rfl (fun ls hl => ?_)
  have lp5 : ∀ (k : Nat) (i : Int32) (s1 : Int64) (ls : Array Slot), k ≤ 9 → i = nI (9 - k) → fReach Wt k s1 = fReach Wt 9 d0 → lv_has ls 6 [(5, .int i), (3, .long s1), (0, .ref (ad 0)), (1, .long d0)] → W p l e ({ frames := 0, cells := 0, slots := 0, locals := 0 } : Room) s m ([.ref (ad 0), .long d0] : List Value).toArray below meth c s.heap [] 0 0 (MQ below (vp_Si (fun r => r = fReach Wt 9 d0)) ([.ref (ad 0), .long d0] : List Value).toArray s 0 0 (fun _ => False)) (F0 m 5 ls []) := by
    intro k
    induction k with
    | zero =>
      intro i s1 ls hk hi ht hl
      refine lv_iload hx hb dX3_weightReaching_5 (lv_at hl 0 rfl) ?_
      refine lv_bipush (v := 9) hx hb dX3_weightReaching_7 (by decide) ?_
      refine lv_icmp_ge (tgt := 40) hx hb dX3_weightReaching_9 (by decide) (fun c9 => ?_) (fun c9 => ?_)
      · skip
        refine lv_iload hx hb dX3_weightReaching_40 (lv_at hl 0 rfl) ?_
        exact nk_endI hx hb hr hlocks dX3_weightReaching_42 (by rw [← ht, hi]; rfl)
      · skip
        exact absurd (by rw [hi]; decide) c9
    | succ k ih5 =>
      intro i s1 ls hk hi ht hl
      refine lv_iload hx hb dX3_weightReaching_5 (lv_at hl 0 rfl) ?_
      refine lv_bipush (v := 9) hx hb dX3_weightReaching_7 (by decide) ?_
      refine lv_icmp_ge (tgt := 40) hx hb dX3_weightReaching_9 (by decide) (fun c9 => ?_) (fun c9 => ?_)
      · skip
        exact absurd c9 (Int32.not_le.mpr (by rw [hi]; exact ns_nI_lt (n := 9) rfl (by omega) (by decide)))
      · skip
        refine lv_lload_n hx hb dX3_weightReaching_12 rfl (lv_at hl 1 rfl) ?_
        refine lv_aload_n hx hb dX3_weightReaching_13 rfl (lv_at hl 2 rfl) ?_
        refine va_get (D := D) (ci := 3) (v := .ref (ad 3)) (C := RX3) (T := TX3) (N := 11) hx hb hts iX3 hown hK.1 hP 0 rfl rfl 4 (by decide) (hts (.fieldLink RX3 24 "NamedStreams" "weights" "[J") (by decide +kernel)) (fun _ h9 => h9) rfl dX3_weightReaching_14 ?_
        refine lv_iload hx hb dX3_weightReaching_17 (lv_at hl 0 rfl) ?_
        refine va_lald hx hb hK.1 hP 3 1 rfl rfl (by rw [hi]; exact vp_in_nI (by omega) (by decide)) dX3_weightReaching_19 ?_
        refine W.lcmp hx hb dX3_weightReaching_20 ?_
        refine lv_if_lt (tgt := 40) hx hb dX3_weightReaching_21 (by decide) (fun c21 => ?_) (fun c21 => ?_)
        · skip
          have c21 : s1 < (Wt (Int32.toNatClampNeg i)) := (lg_cmp_lt _ _).mp c21
          refine lv_iload hx hb dX3_weightReaching_40 (lv_at hl 0 rfl) ?_
          exact nk_endI hx hb hr hlocks dX3_weightReaching_42 (by subst hi; rw [← ht]; exact (if_pos c21).symm)
        · skip
          have c21 : ¬ (s1 < (Wt (Int32.toNatClampNeg i))) := fun h => c21 ((lg_cmp_lt _ _).mpr h)
          refine lv_lload_n hx hb dX3_weightReaching_24 rfl (lv_at hl 1 rfl) ?_
          refine lv_aload_n hx hb dX3_weightReaching_25 rfl (lv_at hl 2 rfl) ?_
          refine va_get (D := D) (ci := 3) (v := .ref (ad 3)) (C := RX3) (T := TX3) (N := 11) hx hb hts iX3 hown hK.1 hP 0 rfl rfl 4 (by decide) (hts (.fieldLink RX3 24 "NamedStreams" "weights" "[J") (by decide +kernel)) (fun _ h9 => h9) rfl dX3_weightReaching_26 ?_
          refine lv_iload hx hb dX3_weightReaching_29 (lv_at hl 0 rfl) ?_
          refine va_lald hx hb hK.1 hP 3 1 rfl rfl (by rw [hi]; exact vp_in_nI (by omega) (by decide)) dX3_weightReaching_31 ?_
          refine lv_lsub hx hb dX3_weightReaching_32 ?_
          refine lv_topl (fun z1 ez1 => ?_)
          refine lv_lstore_n (lv' := [(3, .long z1), (5, .int i), (0, .ref (ad 0)), (1, .long d0)]) hx hb dX3_weightReaching_33 rfl hl (by decide) rfl (fun ls hl => ?_)
          obtain ⟨i2, ei2⟩ : ∃ y : Int32, y = i + 1 := ⟨_, rfl⟩
          refine lv_iinc (v := i2) (lv' := [(5, .int i2), (3, .long z1), (0, .ref (ad 0)), (1, .long d0)]) hx hb dX3_weightReaching_34 hl (k := 1) rfl (by rw [ei2]; rfl) (by decide) rfl (fun ls hl => ?_)
          refine lv_goto (tgt := 5) hx hb dX3_weightReaching_37 (by decide) ?_
          exact ih5 i2 z1 _ (Nat.le_of_succ_le hk) (ns_step hi hk ei2) (by subst hi; subst ez1; rw [← ht]; exact (if_neg c21).symm) (lv_sub hl [0, 1, 2, 3] rfl)
  exact lp5 9 (0 : Int32) d0 _ (Nat.le_refl 9) (by decide) rfl (lv_sub hl [0, 1, 2, 3] rfl)

set_option maxHeartbeats 4000000 in
set_option maxRecDepth 100000 in
theorem mX3_drawPick (l : Launch) (D : va_G) (ad : Nat → Nat) (ca : Nat → ClassId) (sd : Int64) (tc : Int32) (sc : Int32) (tr : Int32) (st : Int32) (pz : Int32) (T : Nat → Int64) (Wt : Nat → Int64) (O : Nat → Int32) (SA : Nat → Option Nat) (KA : Nat → Option Nat) (R : Nat → Int64) (Ln : Nat → Int32) (Ky : Nat → Int64) (Ch : Nat → Int64) (X : va_W) (run0 : Int64) (p0 c0 : Int32) (hp0 : vp_in p0 24) : nkMI l yX3_drawPick wsX3_drawPick ({ frames := 3, cells := 0, slots := 0, locals := 85 }) D (tC ca) [.ref (ad 0), .long run0, .int p0, .int c0] (wC ad ca sd tc sc tr st pz T Wt O SA KA R Ln Ky Ch X) (fun u : Int32 => wC ad ca sd tc sc u st pz T Wt O SA KA R Ln Ky Ch X) (fun r u => fPick (fBase sd run0 (Ky p0.toNatClampNeg)) (fFirst c0) Wt tr = (r, u)) 0 0 := by
  refine nk_ofM (Qf := fun A => va_Qi (fun r u => fPick (fBase sd run0 (Ky p0.toNatClampNeg)) (fFirst c0) Wt tr = (r, u)) (nkB D A (fun u : Int32 => wC ad ca sd tc sc u st pz T Wt O SA KA R Ln Ky Ch X)) A) (cc := cX3_drawPick) (maxL := 9) (ret := (some .int)) (by decide) rfl (Nat.le_of_ble_eq_true rfl) ?_
  intro p e s m below meth c A hx hb hr hml hts hown hlocks hin hK hP hD hA hS ls hl
  replace hown : s.vm.findClass RX3 = some m.cls := hown
  replace hl : lv_has ls 9 [(0, .ref (ad 0)), (1, .long run0), (3, .int p0), (4, .int c0)] := hl
  have hP : va_P D vwCl (wC ad ca sd tc sc tr st pz T Wt O SA KA R Ln Ky Ch X) s.heap := hP
  have iX1 : ∀ w ∈ u_ws RX1 TX1 5, w ∈ wsX3_drawPick := by decide +kernel
  have iX3 : ∀ w ∈ u_ws RX3 TX3 11, w ∈ wsX3_drawPick := by decide +kernel
  refine lv_aload_n hx hb dX3_drawPick_0 rfl (lv_at hl 0 rfl) ?_
  refine nk_VRL (As := []) (rest := []) ⟨hx, hb, hml, hown, hts⟩ (mX3_sumOfWeights l D ad ca sd tc sc tr st pz T Wt O SA KA R Ln Ky Ch X) (cwV 0 hts gX3_drawPick_X3_sumOfWeights rfl rfl rfl (by decide +kernel) ⟨Nat.le_of_ble_eq_true rfl, Nat.le_of_ble_eq_true rfl⟩) hK hP 0 3 rfl rfl rfl rfl hl.1 rfl (Nat.le_of_ble_eq_true rfl) dX3_drawPick_1 ⟨Nat.zero_le _, Nat.zero_le _⟩ (fun r1 hr1 => ?_)
  subst hr1
  refine lv_topl (fun z2 ez2 => ?_)
  refine lv_lstore (lv' := [(5, .long z2), (0, .ref (ad 0)), (1, .long run0), (3, .int p0), (4, .int c0)]) hx hb dX3_drawPick_4 hl (by decide) rfl (fun ls hl => ?_)
  refine lv_lload hx hb dX3_drawPick_6 (lv_at hl 0 rfl) ?_
  refine lv_lconst (v := 0) hx hb dX3_drawPick_8 (by decide) ?_
  refine W.lcmp hx hb dX3_drawPick_9 ?_
  refine lv_if_ne (tgt := 16) hx hb dX3_drawPick_10 (by decide) (fun c10 => ?_) (fun c10 => ?_)
  · skip
    have c10 : ¬ (z2 = (0 : Int64)) := fun h => c10 ((lg_cmp_eq _ _).mpr h)
    refine lv_lload hx hb dX3_drawPick_16 (lv_at hl 0 rfl) ?_
    refine lv_lconst (v := 0) hx hb dX3_drawPick_18 (by decide) ?_
    refine W.lcmp hx hb dX3_drawPick_19 ?_
    refine lv_if_ge (tgt := 26) hx hb dX3_drawPick_20 (by decide) (fun c20 => ?_) (fun c20 => ?_)
    · skip
      have c20 : (0 : Int64) ≤ z2 := (lg_cmp_ge _ _).mp c20
      refine lv_aload_n hx hb dX3_drawPick_26 rfl (lv_at hl 1 rfl) ?_
      refine lv_lload_n hx hb dX3_drawPick_27 rfl (lv_at hl 2 rfl) ?_
      refine lv_iload_n hx hb dX3_drawPick_28 rfl (lv_at hl 3 rfl) ?_
      refine lv_iload hx hb dX3_drawPick_29 (lv_at hl 4 rfl) ?_
      refine lv_lload hx hb dX3_drawPick_31 (lv_at hl 0 rfl) ?_
      refine nk_VL (As := [.long run0, .int p0, .int c0, .long z2]) (rest := []) ⟨hx, hb, hml, hown, hts⟩ (mX3_drawSpan l D ad ca sd tc sc tr st pz T Wt O SA KA R Ln Ky Ch X run0 p0 c0 z2 hp0 c10) (cwV 4 hts gX3_drawPick_X3_drawSpan rfl rfl rfl (by decide +kernel) ⟨Nat.le_of_ble_eq_true rfl, Nat.le_of_ble_eq_true rfl⟩) hK hP hD hS hA 0 3 rfl rfl rfl rfl hl.1 rfl (Nat.le_of_ble_eq_true rfl) dX3_drawPick_33 ⟨Nat.zero_le _, Nat.zero_le _⟩ (fun r3 ur3 H locs hr3 hP hD hS => ?_)
      obtain ⟨rfl, rfl⟩ : r3 = (fSpan (fBase sd run0 (Ky (Int32.toNatClampNeg p0))) (fFirst c0) z2 tr).1 ∧ ur3 = (fSpan (fBase sd run0 (Ky (Int32.toNatClampNeg p0))) (fFirst c0) z2 tr).2 := by rw [hr3]; exact ⟨rfl, rfl⟩
      have hP : va_P D vwCl (wC ad ca sd tc sc ((fSpan (fBase sd run0 (Ky (Int32.toNatClampNeg p0))) (fFirst c0) z2 tr).2) st pz T Wt O SA KA R Ln Ky Ch X) H := hP
      have hD : va_D A (wC ad ca sd tc sc ((fSpan (fBase sd run0 (Ky (Int32.toNatClampNeg p0))) (fFirst c0) z2 tr).2) st pz T Wt O SA KA R Ln Ky Ch X) := hD
      refine lv_topl (fun z4 ez4 => ?_)
      refine lv_lstore (lv' := [(7, .long z4), (5, .long z2), (0, .ref (ad 0)), (1, .long run0), (3, .int p0), (4, .int c0)]) hx hb dX3_drawPick_36 hl (by decide) rfl (fun ls hl => ?_)
      refine lv_lload hx hb dX3_drawPick_38 (lv_at hl 0 rfl) ?_
      refine lv_lconst (v := 0) hx hb dX3_drawPick_40 (by decide) ?_
      refine W.lcmp hx hb dX3_drawPick_41 ?_
      refine lv_if_ge (tgt := 50) hx hb dX3_drawPick_42 (by decide) (fun c42 => ?_) (fun c42 => ?_)
      · skip
        have c42 : (0 : Int64) ≤ z4 := (lg_cmp_ge _ _).mp c42
        refine lv_aload_n hx hb dX3_drawPick_50 rfl (lv_at hl 2 rfl) ?_
        refine lv_lload hx hb dX3_drawPick_51 (lv_at hl 0 rfl) ?_
        refine nk_VRI (As := [.long z4]) (rest := []) ⟨hx, hb, hml, hown, hts⟩ (mX3_weightReaching l D ad ca sd tc sc ((fSpan (fBase sd run0 (Ky (Int32.toNatClampNeg p0))) (fFirst c0) z2 tr).2) st pz T Wt O SA KA R Ln Ky Ch X z4) (cwV 1 hts gX3_drawPick_X3_weightReaching rfl rfl rfl (by decide +kernel) ⟨Nat.le_of_ble_eq_true rfl, Nat.le_of_ble_eq_true rfl⟩) hK hP 0 3 rfl rfl rfl rfl hl.1 rfl (Nat.le_of_ble_eq_true rfl) dX3_drawPick_53 ⟨Nat.zero_le _, Nat.zero_le _⟩ (fun r5 hr5 => ?_)
        subst hr5
        exact nk_retI (g := _) ((fSpan (fBase sd run0 (Ky (Int32.toNatClampNeg p0))) (fFirst c0) z2 tr).2) hx hb hr hlocks hP hD hS dX3_drawPick_56 (by subst ez2; subst ez4; exact ((if_neg c10).trans ((if_pos c20).trans (if_pos c42))))
      · skip
        have c42 : ¬ ((0 : Int64) ≤ z4) := fun h => c42 ((lg_cmp_ge _ _).mpr h)
        refine lv_bipush (v := -3) hx hb dX3_drawPick_45 (by decide) ?_
        refine lv_goto (tgt := 56) hx hb dX3_drawPick_47 (by decide) ?_
        exact nk_retI (g := _) ((fSpan (fBase sd run0 (Ky (Int32.toNatClampNeg p0))) (fFirst c0) z2 tr).2) hx hb hr hlocks hP hD hS dX3_drawPick_56 (by subst ez2; subst ez4; exact ((if_neg c10).trans ((if_pos c20).trans (if_neg c42))))
    · skip
      have c20 : ¬ ((0 : Int64) ≤ z2) := fun h => c20 ((lg_cmp_ge _ _).mpr h)
      refine lv_bipush (v := -5) hx hb dX3_drawPick_23 (by decide) ?_
      exact nk_retI (g := _) tr hx hb hr hlocks hP hD hS dX3_drawPick_25 (by subst ez2; exact ((if_neg c10).trans (if_neg c20)))
  · skip
    have c10 : z2 = (0 : Int64) := (lg_cmp_eq _ _).mp c10
    refine lv_bipush (v := -4) hx hb dX3_drawPick_13 (by decide) ?_
    exact nk_retI (g := _) tr hx hb hr hlocks hP hD hS dX3_drawPick_15 (by subst ez2; exact (if_pos c10))

set_option maxHeartbeats 4000000 in
set_option maxRecDepth 100000 in
theorem mX3_pick (l : Launch) (D : va_G) (ad : Nat → Nat) (ca : Nat → ClassId) (sd : Int64) (tc : Int32) (sc : Int32) (tr : Int32) (st : Int32) (pz : Int32) (T : Nat → Int64) (Wt : Nat → Int64) (O : Nat → Int32) (SA : Nat → Option Nat) (KA : Nat → Option Nat) (R : Nat → Int64) (Ln : Nat → Int32) (Ky : Nat → Int64) (Ch : Nat → Int64) (X : va_W) (run0 : Int64) (p0 c0 : Int32) (hz : pz ≤ 24) : nkMI l yX3_pick wsX3_pick ({ frames := 4, cells := 0, slots := 0, locals := 113 }) D (tC ca) [.ref (ad 0), .long run0, .int p0, .int c0] (wC ad ca sd tc sc tr st pz T Wt O SA KA R Ln Ky Ch X) (fun u : Int32 => wC ad ca sd tc sc u st pz T Wt O SA KA R Ln Ky Ch X) (fun r u => fPickC sd pz Ky Wt run0 p0 c0 tr = (r, u)) 0 0 := by
  refine nk_ofM (Qf := fun A => va_Qi (fun r u => fPickC sd pz Ky Wt run0 p0 c0 tr = (r, u)) (nkB D A (fun u : Int32 => wC ad ca sd tc sc u st pz T Wt O SA KA R Ln Ky Ch X)) A) (cc := cX3_pick) (maxL := 5) (ret := (some .int)) (by decide) rfl (Nat.le_of_ble_eq_true rfl) ?_
  intro p e s m below meth c A hx hb hr hml hts hown hlocks hin hK hP hD hA hS ls hl
  replace hown : s.vm.findClass RX3 = some m.cls := hown
  replace hl : lv_has ls 5 [(0, .ref (ad 0)), (1, .long run0), (3, .int p0), (4, .int c0)] := hl
  have hP : va_P D vwCl (wC ad ca sd tc sc tr st pz T Wt O SA KA R Ln Ky Ch X) s.heap := hP
  have iX1 : ∀ w ∈ u_ws RX1 TX1 5, w ∈ wsX3_pick := by decide +kernel
  have iX3 : ∀ w ∈ u_ws RX3 TX3 11, w ∈ wsX3_pick := by decide +kernel
  refine lv_aload_n hx hb dX3_pick_0 rfl (lv_at hl 0 rfl) ?_
  refine va_get (D := D) (ci := 3) (v := .ref (ad 2)) (C := RX3) (T := TX3) (N := 11) hx hb hts iX3 hown hK.1 hP 0 rfl rfl 3 (by decide) (hts (.fieldLink RX3 20 "NamedStreams" "paths" "LNamedStreams$Paths;") (by decide +kernel)) (fun _ h9 => h9) rfl dX3_pick_1 ?_
  refine lv_iload_n hx hb dX3_pick_4 rfl (lv_at hl 2 rfl) ?_
  refine nk_VRI (As := [.int p0]) (rest := []) ⟨hx, hb, hml, hown, hts⟩ (mX1_has l D ad ca sd tc sc tr st pz T Wt O SA KA R Ln Ky Ch X p0) (cwV 1 hts gX3_pick_X1_has rfl rfl rfl (by decide +kernel) ⟨Nat.le_of_ble_eq_true rfl, Nat.le_of_ble_eq_true rfl⟩) hK hP 2 1 rfl rfl rfl rfl hl.1 rfl (Nat.le_of_ble_eq_true rfl) dX3_pick_5 ⟨Nat.zero_le _, Nat.zero_le _⟩ (fun r1 hr1 => ?_)
  subst hr1
  refine lv_if_eq (tgt := 16) hx hb dX3_pick_8 (by decide) (fun c8 => ?_) (fun c8 => ?_)
  · skip
    refine lv_iconst (v := -1) hx hb dX3_pick_16 (by decide) ?_
    exact nk_retI (g := _) tr hx hb hr hlocks hP hD hS dX3_pick_17 (by exact (if_pos c8))
  · skip
    refine lv_iload hx hb dX3_pick_11 (lv_at hl 3 rfl) ?_
    refine lv_if_ge (tgt := 18) hx hb dX3_pick_13 (by decide) (fun c13 => ?_) (fun c13 => ?_)
    · skip
      refine lv_aload_n hx hb dX3_pick_18 rfl (lv_at hl 0 rfl) ?_
      refine lv_lload_n hx hb dX3_pick_19 rfl (lv_at hl 1 rfl) ?_
      refine lv_iload_n hx hb dX3_pick_20 rfl (lv_at hl 2 rfl) ?_
      refine lv_iload hx hb dX3_pick_21 (lv_at hl 3 rfl) ?_
      refine nk_VI (As := [.long run0, .int p0, .int c0]) (rest := []) ⟨hx, hb, hml, hown, hts⟩ (mX3_drawPick l D ad ca sd tc sc tr st pz T Wt O SA KA R Ln Ky Ch X run0 p0 c0 (ns_hasIn c8 hz)) (cwV 3 hts gX3_pick_X3_drawPick rfl rfl rfl (by decide +kernel) ⟨Nat.le_of_ble_eq_true rfl, Nat.le_of_ble_eq_true rfl⟩) hK hP hD hS hA 0 3 rfl rfl rfl rfl hl.1 rfl (Nat.le_of_ble_eq_true rfl) dX3_pick_23 ⟨Nat.zero_le _, Nat.zero_le _⟩ (fun r2 ur2 H locs hr2 hP hD hS => ?_)
      obtain ⟨rfl, rfl⟩ : r2 = (fPick (fBase sd run0 (Ky (Int32.toNatClampNeg p0))) (fFirst c0) Wt tr).1 ∧ ur2 = (fPick (fBase sd run0 (Ky (Int32.toNatClampNeg p0))) (fFirst c0) Wt tr).2 := by rw [hr2]; exact ⟨rfl, rfl⟩
      have hP : va_P D vwCl (wC ad ca sd tc sc ((fPick (fBase sd run0 (Ky (Int32.toNatClampNeg p0))) (fFirst c0) Wt tr).2) st pz T Wt O SA KA R Ln Ky Ch X) H := hP
      have hD : va_D A (wC ad ca sd tc sc ((fPick (fBase sd run0 (Ky (Int32.toNatClampNeg p0))) (fFirst c0) Wt tr).2) st pz T Wt O SA KA R Ln Ky Ch X) := hD
      exact nk_retI (g := _) ((fPick (fBase sd run0 (Ky (Int32.toNatClampNeg p0))) (fFirst c0) Wt tr).2) hx hb hr hlocks hP hD hS dX3_pick_26 (by exact ((if_neg c8).trans (if_pos c13)))
    · skip
      refine lv_iconst (v := -1) hx hb dX3_pick_16 (by decide) ?_
      exact nk_retI (g := _) tr hx hb hr hlocks hP hD hS dX3_pick_17 (by exact ((if_neg c8).trans (if_neg c13)))

set_option maxHeartbeats 4000000 in
set_option maxRecDepth 100000 in
theorem mX3_counted (l : Launch) (D : va_G) (ad : Nat → Nat) (ca : Nat → ClassId) (sd : Int64) (tc : Int32) (sc : Int32) (tr : Int32) (st : Int32) (pz : Int32) (T : Nat → Int64) (Wt : Nat → Int64) (O : Nat → Int32) (SA : Nat → Option Nat) (KA : Nat → Option Nat) (R : Nat → Int64) (Ln : Nat → Int32) (Ky : Nat → Int64) (Ch : Nat → Int64) (X : va_W) (b0 n0 i0 : Int32) : nkRI l yX3_counted wsX3_counted ({ frames := 0, cells := 0, slots := 0, locals := 0 }) D (tC ca) [.ref (ad 0), .int b0, .int n0, .int i0] (wC ad ca sd tc sc tr st pz T Wt O SA KA R Ln Ky Ch X) (fun r => r = fCounted b0 n0 i0) := by
  refine nk_ofR (cc := cX3_counted) (maxL := 4) (ret := (some .int)) (by decide) rfl (Nat.le_of_ble_eq_true rfl) ?_
  intro p e s m below meth c hx hb hr hml hts hown hlocks hK hP ls hl
  replace hown : s.vm.findClass RX3 = some m.cls := hown
  replace hl : lv_has ls 4 [(0, .ref (ad 0)), (1, .int b0), (2, .int n0), (3, .int i0)] := hl
  have hP : va_P D vwCl (wC ad ca sd tc sc tr st pz T Wt O SA KA R Ln Ky Ch X) s.heap := hP
  refine lv_iload_n hx hb dX3_counted_0 rfl (lv_at hl 1 rfl) ?_
  refine lv_iconst (v := 1) hx hb dX3_counted_1 (by decide) ?_
  refine lv_icmp_lt (tgt := 31) hx hb dX3_counted_2 (by decide) (fun c2 => ?_) (fun c2 => ?_)
  · skip
    refine lv_iconst (v := -1) hx hb dX3_counted_31 (by decide) ?_
    exact nk_endI hx hb hr hlocks dX3_counted_32 (by exact (if_pos c2).symm)
  · skip
    refine lv_iload_n hx hb dX3_counted_5 rfl (lv_at hl 1 rfl) ?_
    refine lv_bipush (v := 16) hx hb dX3_counted_6 (by decide) ?_
    refine lv_icmp_gt (tgt := 31) hx hb dX3_counted_8 (by decide) (fun c8 => ?_) (fun c8 => ?_)
    · skip
      refine lv_iconst (v := -1) hx hb dX3_counted_31 (by decide) ?_
      exact nk_endI hx hb hr hlocks dX3_counted_32 (by exact ((if_neg c2).trans (if_pos c8)).symm)
    · skip
      refine lv_iload_n hx hb dX3_counted_11 rfl (lv_at hl 2 rfl) ?_
      refine lv_iconst (v := 1) hx hb dX3_counted_12 (by decide) ?_
      refine lv_icmp_lt (tgt := 31) hx hb dX3_counted_13 (by decide) (fun c13 => ?_) (fun c13 => ?_)
      · skip
        refine lv_iconst (v := -1) hx hb dX3_counted_31 (by decide) ?_
        exact nk_endI hx hb hr hlocks dX3_counted_32 (by exact ((if_neg c2).trans ((if_neg c8).trans (if_pos c13))).symm)
      · skip
        refine lv_iload_n hx hb dX3_counted_16 rfl (lv_at hl 2 rfl) ?_
        refine lv_ldc (v := 65536) hx hb hown (hts (.constant RX3 127 (65536)) (by decide +kernel)) dX3_counted_17 ?_
        refine lv_icmp_gt (tgt := 31) hx hb dX3_counted_19 (by decide) (fun c19 => ?_) (fun c19 => ?_)
        · skip
          refine lv_iconst (v := -1) hx hb dX3_counted_31 (by decide) ?_
          exact nk_endI hx hb hr hlocks dX3_counted_32 (by exact ((if_neg c2).trans ((if_neg c8).trans ((if_neg c13).trans (if_pos c19)))).symm)
        · skip
          refine lv_iload_n hx hb dX3_counted_22 rfl (lv_at hl 3 rfl) ?_
          refine lv_if_lt (tgt := 31) hx hb dX3_counted_23 (by decide) (fun c23 => ?_) (fun c23 => ?_)
          · skip
            refine lv_iconst (v := -1) hx hb dX3_counted_31 (by decide) ?_
            exact nk_endI hx hb hr hlocks dX3_counted_32 (by exact ((if_neg c2).trans ((if_neg c8).trans ((if_neg c13).trans ((if_neg c19).trans (if_pos c23))))).symm)
          · skip
            refine lv_iload_n hx hb dX3_counted_26 rfl (lv_at hl 3 rfl) ?_
            refine lv_iload_n hx hb dX3_counted_27 rfl (lv_at hl 2 rfl) ?_
            refine lv_icmp_lt (tgt := 33) hx hb dX3_counted_28 (by decide) (fun c28 => ?_) (fun c28 => ?_)
            · skip
              refine lv_iconst (v := 1) hx hb dX3_counted_33 (by decide) ?_
              refine lv_iload_n hx hb dX3_counted_34 rfl (lv_at hl 1 rfl) ?_
              refine lv_ishl hx hb dX3_counted_35 ?_
              refine lv_iload_n hx hb dX3_counted_36 rfl (lv_at hl 2 rfl) ?_
              refine lv_idiv hx hb dX3_counted_37 (fun q => c13 (by rw [q]; decide)) ?_
              exact nk_endI hx hb hr hlocks dX3_counted_38 (by exact ((if_neg c2).trans ((if_neg c8).trans ((if_neg c13).trans ((if_neg c19).trans ((if_neg c23).trans (if_pos c28)))))).symm)
            · skip
              refine lv_iconst (v := -1) hx hb dX3_counted_31 (by decide) ?_
              exact nk_endI hx hb hr hlocks dX3_counted_32 (by exact ((if_neg c2).trans ((if_neg c8).trans ((if_neg c13).trans ((if_neg c19).trans ((if_neg c23).trans (if_neg c28)))))).symm)

set_option maxHeartbeats 4000000 in
set_option maxRecDepth 100000 in
theorem mX3_count (l : Launch) (D : va_G) (ad : Nat → Nat) (ca : Nat → ClassId) (sd : Int64) (tc : Int32) (sc : Int32) (tr : Int32) (st : Int32) (pz : Int32) (T : Nat → Int64) (Wt : Nat → Int64) (O : Nat → Int32) (SA : Nat → Option Nat) (KA : Nat → Option Nat) (R : Nat → Int64) (Ln : Nat → Int32) (Ky : Nat → Int64) (Ch : Nat → Int64) (X : va_W) (x0 : Int32) : nkRI l yX3_count wsX3_count ({ frames := 0, cells := 0, slots := 0, locals := 0 }) D (tC ca) [.ref (ad 0), .int x0] (wC ad ca sd tc sc tr st pz T Wt O SA KA R Ln Ky Ch X) (fun r => r = fCount pz sc tc x0) := by
  refine nk_ofR (cc := cX3_count) (maxL := 2) (ret := (some .int)) (by decide) rfl (Nat.le_of_ble_eq_true rfl) ?_
  intro p e s m below meth c hx hb hr hml hts hown hlocks hK hP ls hl
  replace hown : s.vm.findClass RX3 = some m.cls := hown
  replace hl : lv_has ls 2 [(0, .ref (ad 0)), (1, .int x0)] := hl
  have hP : va_P D vwCl (wC ad ca sd tc sc tr st pz T Wt O SA KA R Ln Ky Ch X) s.heap := hP
  have iX1 : ∀ w ∈ u_ws RX1 TX1 5, w ∈ wsX3_count := by decide +kernel
  have iX3 : ∀ w ∈ u_ws RX3 TX3 11, w ∈ wsX3_count := by decide +kernel
  refine lv_iload_n hx hb dX3_count_0 rfl (lv_at hl 1 rfl) ?_
  by_cases c1_0 : x0 = (0 : Int32)
  · skip
    refine lv_tableIn (tgt := 28) hx hb dX3_count_1 (by rw [c1_0]; decide) (by rw [c1_0]; decide) (by rw [c1_0]; rfl) (by decide) ?_
    refine lv_aload_n hx hb dX3_count_28 rfl (lv_at hl 0 rfl) ?_
    refine va_get (D := D) (ci := 3) (v := .ref (ad 2)) (C := RX3) (T := TX3) (N := 11) hx hb hts iX3 hown hK.1 hP 0 rfl rfl 3 (by decide) (hts (.fieldLink RX3 20 "NamedStreams" "paths" "LNamedStreams$Paths;") (by decide +kernel)) (fun _ h9 => h9) rfl dX3_count_29 ?_
    refine va_get (D := D) (ci := 1) (v := .int pz) (C := RX1) (T := TX1) (N := 5) hx hb hts iX1 hown hK.1 hP 2 rfl rfl 4 (by decide) (hts (.fieldLink RX3 128 "NamedStreams$Paths" "size" "I") (by decide +kernel)) (fun _ h9 => h9) rfl dX3_count_32 ?_
    exact nk_endI hx hb hr hlocks dX3_count_35 (by exact (if_pos c1_0).symm)
  · skip
    by_cases c1_1 : x0 = (1 : Int32)
    · skip
      refine lv_tableIn (tgt := 36) hx hb dX3_count_1 (by rw [c1_1]; decide) (by rw [c1_1]; decide) (by rw [c1_1]; rfl) (by decide) ?_
      refine lv_aload_n hx hb dX3_count_36 rfl (lv_at hl 0 rfl) ?_
      refine va_get (D := D) (ci := 3) (v := .int sc) (C := RX3) (T := TX3) (N := 11) hx hb hts iX3 hown hK.1 hP 0 rfl rfl 7 (by decide) (hts (.fieldLink RX3 37 "NamedStreams" "streamCount" "I") (by decide +kernel)) (fun _ h9 => h9) rfl dX3_count_37 ?_
      exact nk_endI hx hb hr hlocks dX3_count_40 (by exact ((if_neg c1_0).trans (if_pos c1_1)).symm)
    · skip
      by_cases c1_2 : x0 = (2 : Int32)
      · skip
        refine lv_tableIn (tgt := 41) hx hb dX3_count_1 (by rw [c1_2]; decide) (by rw [c1_2]; decide) (by rw [c1_2]; rfl) (by decide) ?_
        refine lv_aload_n hx hb dX3_count_41 rfl (lv_at hl 0 rfl) ?_
        refine va_get (D := D) (ci := 3) (v := .int tc) (C := RX3) (T := TX3) (N := 11) hx hb hts iX3 hown hK.1 hP 0 rfl rfl 2 (by decide) (hts (.fieldLink RX3 13 "NamedStreams" "toldCount" "I") (by decide +kernel)) (fun _ h9 => h9) rfl dX3_count_42 ?_
        exact nk_endI hx hb hr hlocks dX3_count_45 (by exact ((if_neg c1_0).trans ((if_neg c1_1).trans (if_pos c1_2))).symm)
      · skip
        refine lv_tableOut (tgt := 46) hx hb dX3_count_1 (ns_out (by decide) (by decide) (ns_out3 c1_0 c1_1 c1_2)) (by decide) ?_
        refine lv_iconst (v := -1) hx hb dX3_count_46 (by decide) ?_
        exact nk_endI hx hb hr hlocks dX3_count_47 (by exact ((if_neg c1_0).trans ((if_neg c1_1).trans (if_neg c1_2))).symm)
end
section
/-! permutations: places in range -/
theorem ns_perm0 (n : Nat) : (n - 1 = 0 → nI n - 1 < 1) ∧ (0 < n - 1 → nI n - 1 = nI (n - 1)) := by
  constructor
  · intro h
    have h2 : n = 0 ∨ n = 1 := by omega
    rcases h2 with rfl | rfl <;> decide
  · intro h
    obtain ⟨m, rfl⟩ : ∃ m, n = m + 1 := ⟨n - 1, by omega⟩
    rw [nI_pred]; rfl
theorem ns_perm1 {q : Nat} {j i : Int32} (h : 0 < q + 1 → j = nI (q + 1)) (e : i = j + (-1)) : (q = 0 → i < 1) ∧ (0 < q → i = nI q) := by
  have h1 : i = nI q := by rw [e, h (Nat.succ_pos _)]; exact pk_m1 q
  constructor
  · intro h2; rw [h1, h2]; decide
  · intro _; exact h1
theorem ns_permI {q : Nat} (h : q ≤ 38) : (nI (q + 1) + 1).toInt64 = lN (q + 2) := by
  rw [nI_1, nI_l (by omega)]
theorem ns_permN {q nn : Nat} {j : Int32} (hn : nn ≤ 40) (hq : q + 1 ≤ nn - 1) (hj : j = nI (q + 1)) : ¬ (j + 1).toInt64 = 0 := by
  rw [hj, ns_permI (by omega)]
  intro h
  have h2 : lN (q + 2) = lN 0 := h
  rw [lN_eq (by omega) (by omega)] at h2
  omega
theorem ns_permIn {q nn : Nat} {j x : Int32} {o f : Int64} {tr : Int32} (hn : nn ≤ 40) (hq : q + 1 ≤ nn - 1) (hj : j = nI (q + 1)) (hx : x = (fSpan o f (j + 1).toInt64 tr).1.toInt32) (h : 0 ≤ (fSpan o f (j + 1).toInt64 tr).1) : vp_in x 40 := by
  have e : (j + 1).toInt64 = lN (q + 2) := by rw [hj, ns_permI (by omega)]
  rw [e] at hx h
  have hp : (0 : Int64) < lN (q + 2) := by
    rw [show (0 : Int64) = lN 0 from rfl, lN_lt (by omega) (by omega)]; omega
  have h2 := fSpan_in hp h
  obtain ⟨m, hm, e2⟩ := pk_lOf (Int64.not_lt.mpr h)
  rw [e2] at h2
  rw [pk_lLT hm (by omega)] at h2
  rw [hx, e2, lN_i]
  exact vp_in_nI (by omega) (by decide)
theorem ns_le40 {n : Int32} (h0 : ¬ n < 0) (h : ¬ 40 < n) : n.toNatClampNeg ≤ 40 := by
  obtain ⟨j, hj, rfl⟩ := nI_of h0
  rw [nI_clamp hj]
  have h2 : nI j ≤ nI 40 := Int32.not_lt.mp h
  exact (nI_leI hj (by decide)).mp h2
theorem ns_back {x : Int32} (h : ¬ x < 0) : nI x.toNatClampNeg = x := by
  obtain ⟨j, hj, rfl⟩ := nI_of h
  rw [nI_clamp hj]
set_option maxHeartbeats 800000 in
set_option maxRecDepth 100000 in
theorem mX3_drawPermutation (l : Launch) (D : va_G) (ad : Nat → Nat) (ca : Nat → ClassId) (sd : Int64) (tc : Int32) (sc : Int32) (tr : Int32) (st : Int32) (pz : Int32) (T : Nat → Int64) (Wt : Nat → Int64) (O : Nat → Int32) (SA : Nat → Option Nat) (KA : Nat → Option Nat) (R : Nat → Int64) (Ln : Nat → Int32) (Ky : Nat → Int64) (Ch : Nat → Int64) (X : va_W) (run0 : Int64) (p0 c0 : Int32) (nn : Nat) (hp0 : vp_in p0 24) (hn0 : nn ≤ 40) : nkMI l yX3_drawPermutation wsX3_drawPermutation ({ frames := 3, cells := 0, slots := 0, locals := 85 }) D (tC ca) [.ref (ad 0), .long run0, .int p0, .int c0, .int (nI nn)] (wC ad ca sd tc sc tr st pz T Wt O SA KA R Ln Ky Ch X) (fun u : (Nat → Int32) × Int32 => wC ad ca sd tc sc u.2 st pz T Wt u.1 SA KA R Ln Ky Ch X) (fun r u => fPermD (fBase sd run0 (Ky p0.toNatClampNeg)) c0 nn O tr = (r, u)) 0 0 := by
  refine nk_ofM (Qf := fun A => va_Qi (fun r u => fPermD (fBase sd run0 (Ky p0.toNatClampNeg)) c0 nn O tr = (r, u)) (nkB D A (fun u : (Nat → Int32) × Int32 => wC ad ca sd tc sc u.2 st pz T Wt u.1 SA KA R Ln Ky Ch X)) A) (cc := cX3_drawPermutation) (maxL := 11) (ret := (some .boolean)) (by decide) rfl (Nat.le_of_ble_eq_true rfl) ?_
  intro p e s m below meth c A hx hb hr hml hts hown hlocks hin hK hP hD hA hS ls hl
  replace hown : s.vm.findClass RX3 = some m.cls := hown
  replace hl : lv_has ls 11 [(0, .ref (ad 0)), (1, .long run0), (3, .int p0), (4, .int c0), (5, .int (nI nn))] := hl
  have hP : va_P D vwCl (wC ad ca sd tc sc tr st pz T Wt O SA KA R Ln Ky Ch X) s.heap := hP
  have iX1 : ∀ w ∈ u_ws RX1 TX1 5, w ∈ wsX3_drawPermutation := by decide +kernel
  have iX3 : ∀ w ∈ u_ws RX3 TX3 11, w ∈ wsX3_drawPermutation := by decide +kernel
  refine lv_iconst (v := 0) hx hb dX3_drawPermutation_0 (by decide) ?_
  refine lv_istore (lv' := [(6, .int (0 : Int32)), (0, .ref (ad 0)), (1, .long run0), (3, .int p0), (4, .int c0), (5, .int (nI nn))]) hx hb dX3_drawPermutation_1 hl (by decide) rfl (fun ls hl => ?_)
  have lp3 : ∀ (k : Nat) (i : Int32) (O1 : Nat → Int32) (H : Heap) (locs : List Loc) (ls : Array Slot), k ≤ nn → i = nI (nn - k) → fFill nn k O1 = fFill nn nn O → va_P D vwCl (wC ad ca sd tc sc tr st pz T Wt O1 SA KA R Ln Ky Ch X) H → va_D A (wC ad ca sd tc sc tr st pz T Wt O1 SA KA R Ln Ky Ch X) → va_S A s.heap H locs → lv_has ls 11 [(6, .int i), (0, .ref (ad 0)), (1, .long run0), (3, .int p0), (4, .int c0), (5, .int (nI nn))] → W p l e ({ frames := 3, cells := 0, slots := 0, locals := 85 } : Room) s m ([.ref (ad 0), .long run0, .int p0, .int c0, .int (nI nn)] : List Value).toArray below meth c H locs 0 0 (MQ below (va_Qi (fun r u => fPermD (fBase sd run0 (Ky p0.toNatClampNeg)) c0 nn O tr = (r, u)) (nkB D A (fun u : (Nat → Int32) × Int32 => wC ad ca sd tc sc u.2 st pz T Wt u.1 SA KA R Ln Ky Ch X)) A) ([.ref (ad 0), .long run0, .int p0, .int c0, .int (nI nn)] : List Value).toArray s 0 0 A) (F0 m 3 ls []) := by
    intro k
    induction k with
    | zero =>
      intro i O1 H locs ls hk hi ht hP hD hS hl
      refine lv_iload hx hb dX3_drawPermutation_3 (lv_at hl 0 rfl) ?_
      refine lv_iload hx hb dX3_drawPermutation_5 (lv_at hl 5 rfl) ?_
      refine lv_icmp_ge (tgt := 25) hx hb dX3_drawPermutation_7 (by decide) (fun c7 => ?_) (fun c7 => ?_)
      · skip
        refine lv_iload hx hb dX3_drawPermutation_25 (lv_at hl 5 rfl) ?_
        refine lv_iconst (v := 1) hx hb dX3_drawPermutation_27 (by decide) ?_
        refine lv_isub hx hb dX3_drawPermutation_28 ?_
        refine lv_topi (fun z1 ez1 => ?_)
        refine lv_istore (lv' := [(6, .int z1), (0, .ref (ad 0)), (1, .long run0), (3, .int p0), (4, .int c0), (5, .int (nI nn))]) hx hb dX3_drawPermutation_29 hl (by decide) rfl (fun ls hl => ?_)
        have lp31 : ∀ (q : Nat) (j : Int32) (O2 : Nat → Int32) (tr2 : Int32) (H : Heap) (locs : List Loc) (ls : Array Slot), q ≤ nn - 1 → (q = 0 → j < 1) ∧ (0 < q → j = nI q) → fPerm (fBase sd run0 (Ky p0.toNatClampNeg)) c0 q O2 tr2 = fPermD (fBase sd run0 (Ky p0.toNatClampNeg)) c0 nn O tr → va_P D vwCl (wC ad ca sd tc sc tr2 st pz T Wt O2 SA KA R Ln Ky Ch X) H → va_D A (wC ad ca sd tc sc tr2 st pz T Wt O2 SA KA R Ln Ky Ch X) → va_S A s.heap H locs → lv_has ls 11 [(6, .int j), (0, .ref (ad 0)), (1, .long run0), (3, .int p0), (4, .int c0), (5, .int (nI nn))] → W p l e ({ frames := 3, cells := 0, slots := 0, locals := 85 } : Room) s m ([.ref (ad 0), .long run0, .int p0, .int c0, .int (nI nn)] : List Value).toArray below meth c H locs 0 0 (MQ below (va_Qi (fun r u => fPermD (fBase sd run0 (Ky p0.toNatClampNeg)) c0 nn O tr = (r, u)) (nkB D A (fun u : (Nat → Int32) × Int32 => wC ad ca sd tc sc u.2 st pz T Wt u.1 SA KA R Ln Ky Ch X)) A) ([.ref (ad 0), .long run0, .int p0, .int c0, .int (nI nn)] : List Value).toArray s 0 0 A) (F0 m 31 ls []) := by
          intro q
          induction q with
          | zero =>
            intro j O2 tr2 H locs ls hq hj hT hP hD hS hl
            refine lv_iload hx hb dX3_drawPermutation_31 (lv_at hl 0 rfl) ?_
            refine lv_iconst (v := 1) hx hb dX3_drawPermutation_33 (by decide) ?_
            refine lv_icmp_lt (tgt := 107) hx hb dX3_drawPermutation_34 (by decide) (fun c34 => ?_) (fun c34 => ?_)
            · skip
              refine lv_iconst (v := 1) hx hb dX3_drawPermutation_107 (by decide) ?_
              exact nk_retZ (g := _) (O2, tr2) hx hb hr hlocks (by first | rfl | decide) hP hD hS dX3_drawPermutation_108 (by rw [← hT]; rfl)
            · skip
              exact absurd (hj.1 rfl) c34
          | succ q ih31 =>
            intro j O2 tr2 H locs ls hq hj hT hP hD hS hl
            refine lv_iload hx hb dX3_drawPermutation_31 (lv_at hl 0 rfl) ?_
            refine lv_iconst (v := 1) hx hb dX3_drawPermutation_33 (by decide) ?_
            refine lv_icmp_lt (tgt := 107) hx hb dX3_drawPermutation_34 (by decide) (fun c34 => ?_) (fun c34 => ?_)
            · skip
              exact absurd c34 (by rw [hj.2 (Nat.succ_pos _)]; exact Int32.not_lt.mpr (nI_le (a := 1) (by omega) (by omega)))
            · skip
              refine lv_aload_n hx hb dX3_drawPermutation_37 rfl (lv_at hl 1 rfl) ?_
              refine lv_lload_n hx hb dX3_drawPermutation_38 rfl (lv_at hl 2 rfl) ?_
              refine lv_iload_n hx hb dX3_drawPermutation_39 rfl (lv_at hl 3 rfl) ?_
              refine lv_iload hx hb dX3_drawPermutation_40 (lv_at hl 4 rfl) ?_
              refine lv_iload hx hb dX3_drawPermutation_42 (lv_at hl 0 rfl) ?_
              refine lv_iadd hx hb dX3_drawPermutation_44 ?_
              refine lv_iload hx hb dX3_drawPermutation_45 (lv_at hl 0 rfl) ?_
              refine lv_iconst (v := 1) hx hb dX3_drawPermutation_47 (by decide) ?_
              refine lv_iadd hx hb dX3_drawPermutation_48 ?_
              refine lv_i2l hx hb dX3_drawPermutation_49 rfl ?_
              refine nk_VL (As := [.long run0, .int p0, .int (c0 + j), .long (Int32.toInt64 (j + (1 : Int32)))]) (rest := []) ⟨hx, hb, hml, hown, hts⟩ (mX3_drawSpan l D ad ca sd tc sc tr2 st pz T Wt O2 SA KA R Ln Ky Ch X run0 p0 (c0 + j) (Int32.toInt64 (j + (1 : Int32))) hp0 (ns_permN hn0 hq (hj.2 (Nat.succ_pos _)))) (cwV 4 hts gX3_drawPermutation_X3_drawSpan rfl rfl rfl (by decide +kernel) ⟨Nat.le_of_ble_eq_true rfl, Nat.le_of_ble_eq_true rfl⟩) hK hP hD hS hA 0 3 rfl rfl rfl rfl hl.1 rfl (Nat.le_of_ble_eq_true rfl) dX3_drawPermutation_50 ⟨Nat.le_of_ble_eq_true rfl, Nat.le_of_ble_eq_true rfl⟩ (fun r2 ur2 H locs hr2 hP hD hS => ?_)
              obtain ⟨rfl, rfl⟩ : r2 = (fSpan (fBase sd run0 (Ky (Int32.toNatClampNeg p0))) (fFirst (c0 + j)) (Int32.toInt64 (j + (1 : Int32))) tr2).1 ∧ ur2 = (fSpan (fBase sd run0 (Ky (Int32.toNatClampNeg p0))) (fFirst (c0 + j)) (Int32.toInt64 (j + (1 : Int32))) tr2).2 := by rw [hr2]; exact ⟨rfl, rfl⟩
              have hP : va_P D vwCl (wC ad ca sd tc sc ((fSpan (fBase sd run0 (Ky (Int32.toNatClampNeg p0))) (fFirst (c0 + j)) (Int32.toInt64 (j + (1 : Int32))) tr2).2) st pz T Wt O2 SA KA R Ln Ky Ch X) H := hP
              have hD : va_D A (wC ad ca sd tc sc ((fSpan (fBase sd run0 (Ky (Int32.toNatClampNeg p0))) (fFirst (c0 + j)) (Int32.toInt64 (j + (1 : Int32))) tr2).2) st pz T Wt O2 SA KA R Ln Ky Ch X) := hD
              refine lv_topl (fun z3 ez3 => ?_)
              refine lv_lstore (lv' := [(7, .long z3), (6, .int j), (0, .ref (ad 0)), (1, .long run0), (3, .int p0), (4, .int c0), (5, .int (nI nn))]) hx hb dX3_drawPermutation_53 hl (by decide) rfl (fun ls hl => ?_)
              refine lv_lload hx hb dX3_drawPermutation_55 (lv_at hl 0 rfl) ?_
              refine lv_lconst (v := 0) hx hb dX3_drawPermutation_57 (by decide) ?_
              refine W.lcmp hx hb dX3_drawPermutation_58 ?_
              refine lv_if_ge (tgt := 64) hx hb dX3_drawPermutation_59 (by decide) (fun c59 => ?_) (fun c59 => ?_)
              · skip
                have c59 : (0 : Int64) ≤ z3 := (lg_cmp_ge _ _).mp c59
                refine lv_lload hx hb dX3_drawPermutation_64 (lv_at hl 0 rfl) ?_
                refine lv_l2i hx hb dX3_drawPermutation_66 rfl ?_
                refine lv_topi (fun z4 ez4 => ?_)
                refine lv_istore (lv' := [(9, .int z4), (7, .long z3), (6, .int j), (0, .ref (ad 0)), (1, .long run0), (3, .int p0), (4, .int c0), (5, .int (nI nn))]) hx hb dX3_drawPermutation_67 hl (by decide) rfl (fun ls hl => ?_)
                have hO9 : vp_in z4 40 := ns_permIn hn0 hq (hj.2 (Nat.succ_pos _)) (by subst ez4; subst ez3; rfl) (by subst ez3; subst ez4; exact c59)
                refine lv_aload_n hx hb dX3_drawPermutation_69 rfl (lv_at hl 3 rfl) ?_
                refine va_get (D := D) (ci := 3) (v := .ref (ad 4)) (C := RX3) (T := TX3) (N := 11) hx hb hts iX3 hown hK.1 hP 0 rfl rfl 5 (by decide) (hts (.fieldLink RX3 27 "NamedStreams" "order" "[I") (by decide +kernel)) (fun _ h9 => h9) rfl dX3_drawPermutation_70 ?_
                refine lv_iload hx hb dX3_drawPermutation_73 (lv_at hl 2 rfl) ?_
                refine va_iald hx hb hK.1 hP 4 2 rfl rfl (by rw [hj.2 (Nat.succ_pos _)]; exact vp_in_nI (by omega) (by decide)) dX3_drawPermutation_75 ?_
                refine lv_topi (fun z5 ez5 => ?_)
                refine lv_istore (lv' := [(10, .int z5), (9, .int z4), (7, .long z3), (6, .int j), (0, .ref (ad 0)), (1, .long run0), (3, .int p0), (4, .int c0), (5, .int (nI nn))]) hx hb dX3_drawPermutation_76 hl (by decide) rfl (fun ls hl => ?_)
                refine lv_aload_n hx hb dX3_drawPermutation_78 rfl (lv_at hl 4 rfl) ?_
                refine va_get (D := D) (ci := 3) (v := .ref (ad 4)) (C := RX3) (T := TX3) (N := 11) hx hb hts iX3 hown hK.1 hP 0 rfl rfl 5 (by decide) (hts (.fieldLink RX3 27 "NamedStreams" "order" "[I") (by decide +kernel)) (fun _ h9 => h9) rfl dX3_drawPermutation_79 ?_
                refine lv_iload hx hb dX3_drawPermutation_82 (lv_at hl 3 rfl) ?_
                refine lv_aload_n hx hb dX3_drawPermutation_84 rfl (lv_at hl 4 rfl) ?_
                refine va_get (D := D) (ci := 3) (v := .ref (ad 4)) (C := RX3) (T := TX3) (N := 11) hx hb hts iX3 hown hK.1 hP 0 rfl rfl 5 (by decide) (hts (.fieldLink RX3 27 "NamedStreams" "order" "[I") (by decide +kernel)) (fun _ h9 => h9) rfl dX3_drawPermutation_85 ?_
                refine lv_iload hx hb dX3_drawPermutation_88 (lv_at hl 1 rfl) ?_
                refine va_iald hx hb hK.1 hP 4 2 rfl rfl hO9 dX3_drawPermutation_90 ?_
                refine lv_topi (fun z6 ez6 => ?_)
                refine va_iast hx hb hK.1 hP hD hS 4 2 rfl rfl (by rw [hj.2 (Nat.succ_pos _)]; exact vp_in_nI (by omega) (by decide)) dX3_drawPermutation_91 (fun H locs hP hD hS => ?_)
                have hP : va_P D vwCl (wC ad ca sd tc sc ((fSpan (fBase sd run0 (Ky (Int32.toNatClampNeg p0))) (fFirst (c0 + j)) (Int32.toInt64 (j + (1 : Int32))) tr2).2) st pz T Wt (upd O2 (Int32.toNatClampNeg j) z6) SA KA R Ln Ky Ch X) H := hP
                have hD : va_D A (wC ad ca sd tc sc ((fSpan (fBase sd run0 (Ky (Int32.toNatClampNeg p0))) (fFirst (c0 + j)) (Int32.toInt64 (j + (1 : Int32))) tr2).2) st pz T Wt (upd O2 (Int32.toNatClampNeg j) z6) SA KA R Ln Ky Ch X) := hD
                refine lv_aload_n hx hb dX3_drawPermutation_92 rfl (lv_at hl 4 rfl) ?_
                refine va_get (D := D) (ci := 3) (v := .ref (ad 4)) (C := RX3) (T := TX3) (N := 11) hx hb hts iX3 hown hK.1 hP 0 rfl rfl 5 (by decide) (hts (.fieldLink RX3 27 "NamedStreams" "order" "[I") (by decide +kernel)) (fun _ h9 => h9) rfl dX3_drawPermutation_93 ?_
                refine lv_iload hx hb dX3_drawPermutation_96 (lv_at hl 1 rfl) ?_
                refine lv_iload hx hb dX3_drawPermutation_98 (lv_at hl 0 rfl) ?_
                refine va_iast hx hb hK.1 hP hD hS 4 2 rfl rfl hO9 dX3_drawPermutation_100 (fun H locs hP hD hS => ?_)
                have hP : va_P D vwCl (wC ad ca sd tc sc ((fSpan (fBase sd run0 (Ky (Int32.toNatClampNeg p0))) (fFirst (c0 + j)) (Int32.toInt64 (j + (1 : Int32))) tr2).2) st pz T Wt (upd (upd O2 (Int32.toNatClampNeg j) z6) (Int32.toNatClampNeg z4) z5) SA KA R Ln Ky Ch X) H := hP
                have hD : va_D A (wC ad ca sd tc sc ((fSpan (fBase sd run0 (Ky (Int32.toNatClampNeg p0))) (fFirst (c0 + j)) (Int32.toInt64 (j + (1 : Int32))) tr2).2) st pz T Wt (upd (upd O2 (Int32.toNatClampNeg j) z6) (Int32.toNatClampNeg z4) z5) SA KA R Ln Ky Ch X) := hD
                obtain ⟨i7, ei7⟩ : ∃ y : Int32, y = j + (-1) := ⟨_, rfl⟩
                refine lv_iinc (v := i7) (lv' := [(6, .int i7), (10, .int z5), (9, .int z4), (7, .long z3), (0, .ref (ad 0)), (1, .long run0), (3, .int p0), (4, .int c0), (5, .int (nI nn))]) hx hb dX3_drawPermutation_101 hl (k := 3) rfl (by rw [ei7]; rfl) (by decide) rfl (fun ls hl => ?_)
                refine lv_goto (tgt := 31) hx hb dX3_drawPermutation_104 (by decide) ?_
                exact ih31 i7 (upd (upd O2 (Int32.toNatClampNeg j) z6) (Int32.toNatClampNeg z4) z5) ((fSpan (fBase sd run0 (Ky (Int32.toNatClampNeg p0))) (fFirst (c0 + j)) (Int32.toInt64 (j + (1 : Int32))) tr2).2) _ _ _ (Nat.le_of_succ_le hq) (ns_perm1 hj.2 ei7) (by have hi2 := hj.2 (Nat.succ_pos _); subst hi2; subst ez3; subst ez4; subst ez5; subst ez6; rw [← hT, fPerm, if_pos c59]; rfl) hP hD hS (lv_sub hl [0, 4, 5, 6, 7, 8] rfl)
              · skip
                have c59 : ¬ ((0 : Int64) ≤ z3) := fun h => c59 ((lg_cmp_ge _ _).mpr h)
                refine lv_iconst (v := 0) hx hb dX3_drawPermutation_62 (by decide) ?_
                exact nk_retZ (g := _) (O2, (fSpan (fBase sd run0 (Ky (Int32.toNatClampNeg p0))) (fFirst (c0 + j)) (Int32.toInt64 (j + (1 : Int32))) tr2).2) hx hb hr hlocks (by first | rfl | decide) hP hD hS dX3_drawPermutation_63 (by have hi2 := hj.2 (Nat.succ_pos _); subst hi2; subst ez3; rw [← hT, fPerm, if_neg c59])
        exact lp31 (nn - 1) z1 O1 tr _ _ _ (by omega) (by subst ez1; exact ns_perm0 nn) (by have ht2 : O1 = fFill nn nn O := ht; rw [ht2]; rfl) hP hD hS (lv_sub hl [0, 1, 2, 3, 4, 5] rfl)
      · skip
        exact absurd (by rw [hi]; exact nI_le (by omega) (by omega)) c7
    | succ k ih3 =>
      intro i O1 H locs ls hk hi ht hP hD hS hl
      refine lv_iload hx hb dX3_drawPermutation_3 (lv_at hl 0 rfl) ?_
      refine lv_iload hx hb dX3_drawPermutation_5 (lv_at hl 5 rfl) ?_
      refine lv_icmp_ge (tgt := 25) hx hb dX3_drawPermutation_7 (by decide) (fun c7 => ?_) (fun c7 => ?_)
      · skip
        exact absurd c7 (Int32.not_le.mpr (by rw [hi]; exact nI_lt (by omega) (by omega)))
      · skip
        refine lv_aload_n hx hb dX3_drawPermutation_10 rfl (lv_at hl 1 rfl) ?_
        refine va_get (D := D) (ci := 3) (v := .ref (ad 4)) (C := RX3) (T := TX3) (N := 11) hx hb hts iX3 hown hK.1 hP 0 rfl rfl 5 (by decide) (hts (.fieldLink RX3 27 "NamedStreams" "order" "[I") (by decide +kernel)) (fun _ h9 => h9) rfl dX3_drawPermutation_11 ?_
        refine lv_iload hx hb dX3_drawPermutation_14 (lv_at hl 0 rfl) ?_
        refine lv_iload hx hb dX3_drawPermutation_16 (lv_at hl 0 rfl) ?_
        refine va_iast hx hb hK.1 hP hD hS 4 2 rfl rfl (by rw [hi]; exact vp_in_nI (by omega) (by decide)) dX3_drawPermutation_18 (fun H locs hP hD hS => ?_)
        have hP : va_P D vwCl (wC ad ca sd tc sc tr st pz T Wt (upd O1 (Int32.toNatClampNeg i) i) SA KA R Ln Ky Ch X) H := hP
        have hD : va_D A (wC ad ca sd tc sc tr st pz T Wt (upd O1 (Int32.toNatClampNeg i) i) SA KA R Ln Ky Ch X) := hD
        obtain ⟨i8, ei8⟩ : ∃ y : Int32, y = i + 1 := ⟨_, rfl⟩
        refine lv_iinc (v := i8) (lv' := [(6, .int i8), (0, .ref (ad 0)), (1, .long run0), (3, .int p0), (4, .int c0), (5, .int (nI nn))]) hx hb dX3_drawPermutation_19 hl (k := 0) rfl (by rw [ei8]; rfl) (by decide) rfl (fun ls hl => ?_)
        refine lv_goto (tgt := 3) hx hb dX3_drawPermutation_22 (by decide) ?_
        exact ih3 i8 (upd O1 (Int32.toNatClampNeg i) i) _ _ _ (Nat.le_of_succ_le hk) (ns_step hi hk ei8) (by subst hi; exact ht) hP hD hS (lv_sub hl [0, 1, 2, 3, 4, 5] rfl)
  exact lp3 nn (0 : Int32) O _ _ _ (Nat.le_refl nn) (by rw [Nat.sub_self]; rfl) rfl hP hD hS (lv_sub hl [0, 1, 2, 3, 4, 5] rfl)

set_option maxHeartbeats 800000 in
set_option maxRecDepth 100000 in
theorem mX3_permuted (l : Launch) (D : va_G) (ad : Nat → Nat) (ca : Nat → ClassId) (sd : Int64) (tc : Int32) (sc : Int32) (tr : Int32) (st : Int32) (pz : Int32) (T : Nat → Int64) (Wt : Nat → Int64) (O : Nat → Int32) (SA : Nat → Option Nat) (KA : Nat → Option Nat) (R : Nat → Int64) (Ln : Nat → Int32) (Ky : Nat → Int64) (Ch : Nat → Int64) (X : va_W) (run0 : Int64) (p0 c0 n0 k0 : Int32) (hz : pz ≤ 24) : nkMI l yX3_permuted wsX3_permuted ({ frames := 4, cells := 0, slots := 0, locals := 115 }) D (tC ca) [.ref (ad 0), .long run0, .int p0, .int c0, .int n0, .int k0] (wC ad ca sd tc sc tr st pz T Wt O SA KA R Ln Ky Ch X) (fun u : (Nat → Int32) × Int32 => wC ad ca sd tc sc u.2 st pz T Wt u.1 SA KA R Ln Ky Ch X) (fun r u => fPermC sd pz Ky O run0 p0 c0 n0 k0 tr = (r, u)) 0 0 := by
  refine nk_ofM (Qf := fun A => va_Qi (fun r u => fPermC sd pz Ky O run0 p0 c0 n0 k0 tr = (r, u)) (nkB D A (fun u : (Nat → Int32) × Int32 => wC ad ca sd tc sc u.2 st pz T Wt u.1 SA KA R Ln Ky Ch X)) A) (cc := cX3_permuted) (maxL := 7) (ret := (some .int)) (by decide) rfl (Nat.le_of_ble_eq_true rfl) ?_
  intro p e s m below meth c A hx hb hr hml hts hown hlocks hin hK hP hD hA hS ls hl
  replace hown : s.vm.findClass RX3 = some m.cls := hown
  replace hl : lv_has ls 7 [(0, .ref (ad 0)), (1, .long run0), (3, .int p0), (4, .int c0), (5, .int n0), (6, .int k0)] := hl
  have hP : va_P D vwCl (wC ad ca sd tc sc tr st pz T Wt O SA KA R Ln Ky Ch X) s.heap := hP
  have iX1 : ∀ w ∈ u_ws RX1 TX1 5, w ∈ wsX3_permuted := by decide +kernel
  have iX3 : ∀ w ∈ u_ws RX3 TX3 11, w ∈ wsX3_permuted := by decide +kernel
  refine lv_aload_n hx hb dX3_permuted_0 rfl (lv_at hl 0 rfl) ?_
  refine va_get (D := D) (ci := 3) (v := .ref (ad 2)) (C := RX3) (T := TX3) (N := 11) hx hb hts iX3 hown hK.1 hP 0 rfl rfl 3 (by decide) (hts (.fieldLink RX3 20 "NamedStreams" "paths" "LNamedStreams$Paths;") (by decide +kernel)) (fun _ h9 => h9) rfl dX3_permuted_1 ?_
  refine lv_iload_n hx hb dX3_permuted_4 rfl (lv_at hl 2 rfl) ?_
  refine nk_VRI (As := [.int p0]) (rest := []) ⟨hx, hb, hml, hown, hts⟩ (mX1_has l D ad ca sd tc sc tr st pz T Wt O SA KA R Ln Ky Ch X p0) (cwV 1 hts gX3_permuted_X1_has rfl rfl rfl (by decide +kernel) ⟨Nat.le_of_ble_eq_true rfl, Nat.le_of_ble_eq_true rfl⟩) hK hP 2 1 rfl rfl rfl rfl hl.1 rfl (Nat.le_of_ble_eq_true rfl) dX3_permuted_5 ⟨Nat.le_of_ble_eq_true rfl, Nat.le_of_ble_eq_true rfl⟩ (fun r1 hr1 => ?_)
  subst hr1
  refine lv_if_eq (tgt := 40) hx hb dX3_permuted_8 (by decide) (fun c8 => ?_) (fun c8 => ?_)
  · skip
    refine lv_iconst (v := -1) hx hb dX3_permuted_40 (by decide) ?_
    exact nk_retI (g := _) (O, tr) hx hb hr hlocks hP hD hS dX3_permuted_41 (by exact (if_pos c8))
  · skip
    refine lv_iload hx hb dX3_permuted_11 (lv_at hl 3 rfl) ?_
    refine lv_if_lt (tgt := 40) hx hb dX3_permuted_13 (by decide) (fun c13 => ?_) (fun c13 => ?_)
    · skip
      refine lv_iconst (v := -1) hx hb dX3_permuted_40 (by decide) ?_
      exact nk_retI (g := _) (O, tr) hx hb hr hlocks hP hD hS dX3_permuted_41 (by exact ((if_neg c8).trans (if_pos c13)))
    · skip
      refine lv_iload hx hb dX3_permuted_16 (lv_at hl 4 rfl) ?_
      refine lv_if_lt (tgt := 40) hx hb dX3_permuted_18 (by decide) (fun c18 => ?_) (fun c18 => ?_)
      · skip
        refine lv_iconst (v := -1) hx hb dX3_permuted_40 (by decide) ?_
        exact nk_retI (g := _) (O, tr) hx hb hr hlocks hP hD hS dX3_permuted_41 (by exact ((if_neg c8).trans ((if_neg c13).trans (if_pos c18))))
      · skip
        refine lv_iload hx hb dX3_permuted_21 (lv_at hl 4 rfl) ?_
        refine lv_bipush (v := 40) hx hb dX3_permuted_23 (by decide) ?_
        refine lv_icmp_gt (tgt := 40) hx hb dX3_permuted_25 (by decide) (fun c25 => ?_) (fun c25 => ?_)
        · skip
          refine lv_iconst (v := -1) hx hb dX3_permuted_40 (by decide) ?_
          exact nk_retI (g := _) (O, tr) hx hb hr hlocks hP hD hS dX3_permuted_41 (by exact ((if_neg c8).trans ((if_neg c13).trans ((if_neg c18).trans (if_pos c25)))))
        · skip
          refine lv_iload hx hb dX3_permuted_28 (lv_at hl 5 rfl) ?_
          refine lv_if_lt (tgt := 40) hx hb dX3_permuted_30 (by decide) (fun c30 => ?_) (fun c30 => ?_)
          · skip
            refine lv_iconst (v := -1) hx hb dX3_permuted_40 (by decide) ?_
            exact nk_retI (g := _) (O, tr) hx hb hr hlocks hP hD hS dX3_permuted_41 (by exact ((if_neg c8).trans ((if_neg c13).trans ((if_neg c18).trans ((if_neg c25).trans (if_pos c30))))))
          · skip
            refine lv_iload hx hb dX3_permuted_33 (lv_at hl 5 rfl) ?_
            refine lv_iload hx hb dX3_permuted_35 (lv_at hl 4 rfl) ?_
            refine lv_icmp_lt (tgt := 42) hx hb dX3_permuted_37 (by decide) (fun c37 => ?_) (fun c37 => ?_)
            · skip
              refine lv_iload hx hb dX3_permuted_42 (lv_at hl 3 rfl) ?_
              refine lv_ldc (v := 2147483647) hx hb hown (hts (.constant RX3 91 (2147483647)) (by decide +kernel)) dX3_permuted_44 ?_
              refine lv_iload hx hb dX3_permuted_46 (lv_at hl 4 rfl) ?_
              refine lv_isub hx hb dX3_permuted_48 ?_
              refine lv_icmp_le (tgt := 54) hx hb dX3_permuted_49 (by decide) (fun c49 => ?_) (fun c49 => ?_)
              · skip
                refine lv_aload_n hx hb dX3_permuted_54 rfl (lv_at hl 0 rfl) ?_
                refine lv_lload_n hx hb dX3_permuted_55 rfl (lv_at hl 1 rfl) ?_
                refine lv_iload_n hx hb dX3_permuted_56 rfl (lv_at hl 2 rfl) ?_
                refine lv_iload hx hb dX3_permuted_57 (lv_at hl 3 rfl) ?_
                refine lv_iload hx hb dX3_permuted_59 (lv_at hl 4 rfl) ?_
                refine W.eq (g2 := F0 m 61 ls [.int (nI (Int32.toNatClampNeg n0)), .int c0, .int p0, .long run0, .ref (ad 0)]) (by rw [ns_back c18]) ?_
                refine nk_VI (As := [.long run0, .int p0, .int c0, .int (nI (Int32.toNatClampNeg n0))]) (rest := []) ⟨hx, hb, hml, hown, hts⟩ (mX3_drawPermutation l D ad ca sd tc sc tr st pz T Wt O SA KA R Ln Ky Ch X run0 p0 c0 (Int32.toNatClampNeg n0) (ns_hasIn c8 hz) (ns_le40 c18 c25)) (cwV 4 hts gX3_permuted_X3_drawPermutation rfl rfl rfl (by decide +kernel) ⟨Nat.le_of_ble_eq_true rfl, Nat.le_of_ble_eq_true rfl⟩) hK hP hD hS hA 0 3 rfl rfl rfl rfl hl.1 rfl (Nat.le_of_ble_eq_true rfl) dX3_permuted_61 ⟨Nat.le_of_ble_eq_true rfl, Nat.le_of_ble_eq_true rfl⟩ (fun r2 ur2 H locs hr2 hP hD hS => ?_)
                obtain ⟨rfl, rfl⟩ : r2 = (fPermD (fBase sd run0 (Ky (Int32.toNatClampNeg p0))) c0 (Int32.toNatClampNeg n0) O tr).1 ∧ ur2 = (fPermD (fBase sd run0 (Ky (Int32.toNatClampNeg p0))) c0 (Int32.toNatClampNeg n0) O tr).2 := by rw [hr2]; exact ⟨rfl, rfl⟩
                have hP : va_P D vwCl (wC ad ca sd tc sc ((fPermD (fBase sd run0 (Ky (Int32.toNatClampNeg p0))) c0 (Int32.toNatClampNeg n0) O tr).2.2) st pz T Wt ((fPermD (fBase sd run0 (Ky (Int32.toNatClampNeg p0))) c0 (Int32.toNatClampNeg n0) O tr).2.1) SA KA R Ln Ky Ch X) H := hP
                have hD : va_D A (wC ad ca sd tc sc ((fPermD (fBase sd run0 (Ky (Int32.toNatClampNeg p0))) c0 (Int32.toNatClampNeg n0) O tr).2.2) st pz T Wt ((fPermD (fBase sd run0 (Ky (Int32.toNatClampNeg p0))) c0 (Int32.toNatClampNeg n0) O tr).2.1) SA KA R Ln Ky Ch X) := hD
                refine lv_if_eq (tgt := 77) hx hb dX3_permuted_64 (by decide) (fun c64 => ?_) (fun c64 => ?_)
                · skip
                  refine lv_bipush (v := -3) hx hb dX3_permuted_77 (by decide) ?_
                  exact nk_retI (g := _) ((fPermD (fBase sd run0 (Ky (Int32.toNatClampNeg p0))) c0 (Int32.toNatClampNeg n0) O tr).2.1, (fPermD (fBase sd run0 (Ky (Int32.toNatClampNeg p0))) c0 (Int32.toNatClampNeg n0) O tr).2.2) hx hb hr hlocks hP hD hS dX3_permuted_79 (by exact ((if_neg c8).trans ((if_neg c13).trans ((if_neg c18).trans ((if_neg c25).trans ((if_neg c30).trans ((if_pos c37).trans ((if_pos c49).trans (if_pos c64)))))))))
                · skip
                  refine lv_aload_n hx hb dX3_permuted_67 rfl (lv_at hl 0 rfl) ?_
                  refine va_get (D := D) (ci := 3) (v := .ref (ad 4)) (C := RX3) (T := TX3) (N := 11) hx hb hts iX3 hown hK.1 hP 0 rfl rfl 5 (by decide) (hts (.fieldLink RX3 27 "NamedStreams" "order" "[I") (by decide +kernel)) (fun _ h9 => h9) rfl dX3_permuted_68 ?_
                  refine lv_iload hx hb dX3_permuted_71 (lv_at hl 5 rfl) ?_
                  refine va_iald hx hb hK.1 hP 4 2 rfl rfl (ns_in (ns_nn c30) (Int32.lt_of_lt_of_le c37 (Int32.not_lt.mp c25)) (by decide)) dX3_permuted_73 ?_
                  refine lv_goto (tgt := 79) hx hb dX3_permuted_74 (by decide) ?_
                  exact nk_retI (g := _) ((fPermD (fBase sd run0 (Ky (Int32.toNatClampNeg p0))) c0 (Int32.toNatClampNeg n0) O tr).2.1, (fPermD (fBase sd run0 (Ky (Int32.toNatClampNeg p0))) c0 (Int32.toNatClampNeg n0) O tr).2.2) hx hb hr hlocks hP hD hS dX3_permuted_79 (by exact ((if_neg c8).trans ((if_neg c13).trans ((if_neg c18).trans ((if_neg c25).trans ((if_neg c30).trans ((if_pos c37).trans ((if_pos c49).trans (if_neg c64)))))))))
              · skip
                refine lv_iconst (v := -1) hx hb dX3_permuted_52 (by decide) ?_
                exact nk_retI (g := _) (O, tr) hx hb hr hlocks hP hD hS dX3_permuted_53 (by exact ((if_neg c8).trans ((if_neg c13).trans ((if_neg c18).trans ((if_neg c25).trans ((if_neg c30).trans ((if_pos c37).trans (if_neg c49))))))))
            · skip
              refine lv_iconst (v := -1) hx hb dX3_permuted_40 (by decide) ?_
              exact nk_retI (g := _) (O, tr) hx hb hr hlocks hP hD hS dX3_permuted_41 (by exact ((if_neg c8).trans ((if_neg c13).trans ((if_neg c18).trans ((if_neg c25).trans ((if_neg c30).trans (if_neg c37)))))))
end
section
/-! paths -/
def fLikeL (R Rw : Nat → Int64) (p : Int32) (n : Nat) : Nat → Int32
  | 0 => 1
  | k + 1 => if R (p * 4 + nI (n - (k + 1))).toNatClampNeg = Rw (nI (n - (k + 1))).toNatClampNeg then fLikeL R Rw p n k else 0
def fLike (R : Nat → Int64) (Ln : Nat → Int32) (Rw : Nat → Int64) (p : Int32) (n : Nat) : Int32 := if Ln p.toNatClampNeg = nI n then fLikeL R Rw p n n else 0
def fIter {σ : Type} (step : Nat → σ → σ) : Nat → σ → σ
  | 0, x => x
  | k + 1, x => fIter step k (step k x)
theorem fIter_s {σ : Type} (step : Nat → σ → σ) (k : Nat) (x : σ) : fIter step (k + 1) x = fIter step k (step k x) := rfl
def sAdd (Rw : Nat → Int64) (z n k : Nat) (x : (Nat → Int64) × Int64) : (Nat → Int64) × Int64 := (vp_updL x.1 (nI z * 4 + nI (n - (k + 1))).toNatClampNeg (Rw (nI (n - (k + 1))).toNatClampNeg), fMix ((x.2 + (-7046029254386353131)) ^^^ Rw (nI (n - (k + 1))).toNatClampNeg))
def fAddL (Rw : Nat → Int64) (z n k : Nat) (R : Nat → Int64) (key : Int64) : (Nat → Int64) × Int64 := fIter (sAdd Rw z n) k (R, key)
theorem fAddL_s (Rw : Nat → Int64) (z n k : Nat) (R : Nat → Int64) (key : Int64) : fAddL Rw z n (k + 1) R key = fAddL Rw z n k (vp_updL R (nI z * 4 + nI (n - (k + 1))).toNatClampNeg (Rw (nI (n - (k + 1))).toNatClampNeg)) (fMix ((key + (-7046029254386353131)) ^^^ Rw (nI (n - (k + 1))).toNatClampNeg)) := fIter_s (sAdd Rw z n) k (R, key)
theorem fAddL_0 (Rw : Nat → Int64) (z n : Nat) (R : Nat → Int64) (key : Int64) : fAddL Rw z n 0 R key = (R, key) := rfl
abbrev sPth : Type := (Nat → Int64) × (Nat → Int32) × (Nat → Int64) × Int32
def fAdd (Rw R : Nat → Int64) (Ln : Nat → Int32) (Ky : Nat → Int64) (z n : Nat) : Int32 × sPth := (nI z, (fAddL Rw z n n R 0).1, upd Ln (nI z).toNatClampNeg (nI n), vp_updL Ky (nI z).toNatClampNeg (fAddL Rw z n n R 0).2, nI z + 1)
def fEntL (Rw R : Nat → Int64) (Ln : Nat → Int32) (Ky : Nat → Int64) (z n : Nat) : Nat → Int32 × sPth
  | 0 => if nI z < 24 then fAdd Rw R Ln Ky z n else (-2, R, Ln, Ky, nI z)
  | k + 1 => if fLike R Ln Rw (nI (z - (k + 1))) n = 0 then fEntL Rw R Ln Ky z n k else (nI (z - (k + 1)), R, Ln, Ky, nI z)
def fEnt (Rw R : Nat → Int64) (Ln : Nat → Int32) (Ky : Nat → Int64) (z n : Nat) : Int32 × sPth := fEntL Rw R Ln Ky z n z
def fCopy (R : Nat → Int64) (p : Int32) (n : Nat) : Nat → (Nat → Int64) → (Nat → Int64)
  | 0, C => C
  | k + 1, C => fCopy R p n k (vp_updL C (nI (n - (k + 1))).toNatClampNeg (R (p * 4 + nI (n - (k + 1))).toNatClampNeg))
def fChild (R Ch : Nat → Int64) (p : Int32) (n : Nat) (v : Int64) : Nat → Int64 := vp_updL (fCopy R p n n Ch) (nI n).toNatClampNeg v
def fEntC (R Ch : Nat → Int64) (Ln : Nat → Int32) (Ky : Nat → Int64) (z : Nat) (p : Int32) (n : Nat) (v : Int64) : Int32 × (Nat → Int64) × sPth := if nI n < 4 then ((fEnt (fChild R Ch p n v) R Ln Ky z (n + 1)).1, fChild R Ch p n v, (fEnt (fChild R Ch p n v) R Ln Ky z (n + 1)).2) else (-2, Ch, R, Ln, Ky, nI z)
def fPath (T R : Nat → Int64) (Ln : Nat → Int32) (Ky : Nat → Int64) (z t : Nat) : Int32 × Int32 × sPth := if nI t = 0 then (-1, nI t, R, Ln, Ky, nI z) else if (fEnt T R Ln Ky z t).1 = -2 then ((fEnt T R Ln Ky z t).1, nI t, (fEnt T R Ln Ky z t).2) else ((fEnt T R Ln Ky z t).1, 0, (fEnt T R Ln Ky z t).2)
theorem ns_in96 {p i m j : Nat} (hp : p < 24) (hi : i < 4) : vp_in (nI p * 4 + nI i) 96 := by
  have e : nI p * 4 + nI i = nI (p * 4 + i) := by
    rw [show (4 : Int32) = nI 4 from rfl, pk_mul, nI_add]
  rw [e]
  exact vp_in_nI (by omega) (by decide)
theorem ns_lt_of {z : Nat} {m : Int32} {n : Nat} (h : nI z < m) (hm : m = nI n) (hz : z < 2 ^ 31) (hn : n < 2 ^ 31) : z < n := by
  rw [hm] at h
  exact (nI_ltI hz hn).mp h
set_option maxHeartbeats 800000 in
set_option maxRecDepth 100000 in
theorem mX1_isLike_T (l : Launch) (D : va_G) (ad : Nat → Nat) (ca : Nat → ClassId) (sd : Int64) (tc : Int32) (sc : Int32) (tr : Int32) (st : Int32) (pz : Int32) (T : Nat → Int64) (Wt : Nat → Int64) (O : Nat → Int32) (SA : Nat → Option Nat) (KA : Nat → Option Nat) (R : Nat → Int64) (Ln : Nat → Int32) (Ky : Nat → Int64) (Ch : Nat → Int64) (X : va_W) (pp nn : Nat) (hp0 : pp < 24) (hn0 : nn ≤ 4) : nkRI l yX1_isLike wsX1_isLike ({ frames := 0, cells := 0, slots := 0, locals := 0 }) D (tC ca) [.ref (ad 2), .int (nI pp), .ref (ad 1), .int (nI nn)] (wC ad ca sd tc sc tr st pz T Wt O SA KA R Ln Ky Ch X) (fun r => r = fLike R Ln T (nI pp) nn) := by
  refine nk_ofR (cc := cX1_isLike) (maxL := 5) (ret := (some .boolean)) (by decide) rfl (Nat.le_of_ble_eq_true rfl) ?_
  intro p e s m below meth c hx hb hr hml hts hown hlocks hK hP ls hl
  replace hown : s.vm.findClass RX1 = some m.cls := hown
  replace hl : lv_has ls 5 [(0, .ref (ad 2)), (1, .int (nI pp)), (2, .ref (ad 1)), (3, .int (nI nn))] := hl
  have hP : va_P D vwCl (wC ad ca sd tc sc tr st pz T Wt O SA KA R Ln Ky Ch X) s.heap := hP
  have iX1 : ∀ w ∈ u_ws RX1 TX1 5, w ∈ wsX1_isLike := by decide +kernel
  refine lv_aload_n hx hb dX1_isLike_0 rfl (lv_at hl 0 rfl) ?_
  refine va_get (D := D) (ci := 1) (v := .ref (ad 8)) (C := RX1) (T := TX1) (N := 5) hx hb hts iX1 hown hK.1 hP 2 rfl rfl 1 (by decide) (hts (.fieldLink RX1 15 "NamedStreams$Paths" "lengths" "[I") (by decide +kernel)) (fun _ h9 => h9) rfl dX1_isLike_1 ?_
  refine lv_iload_n hx hb dX1_isLike_4 rfl (lv_at hl 1 rfl) ?_
  refine va_iald hx hb hK.1 hP 8 6 rfl rfl (vp_in_nI hp0 (by decide)) dX1_isLike_5 ?_
  refine lv_iload_n hx hb dX1_isLike_6 rfl (lv_at hl 3 rfl) ?_
  refine lv_icmp_eq (tgt := 12) hx hb dX1_isLike_7 (by decide) (fun c7 => ?_) (fun c7 => ?_)
  · skip
    refine lv_iconst (v := 0) hx hb dX1_isLike_12 (by decide) ?_
    refine lv_istore (lv' := [(4, .int (0 : Int32)), (0, .ref (ad 2)), (1, .int (nI pp)), (2, .ref (ad 1)), (3, .int (nI nn))]) hx hb dX1_isLike_13 hl (by decide) rfl (fun ls hl => ?_)
    have lp15 : ∀ (k : Nat) (i : Int32) (ls : Array Slot), k ≤ nn → i = nI (nn - k) → fLikeL R T (nI pp) nn k = fLike R Ln T (nI pp) nn → lv_has ls 5 [(4, .int i), (0, .ref (ad 2)), (1, .int (nI pp)), (2, .ref (ad 1)), (3, .int (nI nn))] → W p l e ({ frames := 0, cells := 0, slots := 0, locals := 0 } : Room) s m ([.ref (ad 2), .int (nI pp), .ref (ad 1), .int (nI nn)] : List Value).toArray below meth c s.heap [] 0 0 (MQ below (vp_Si (fun r => r = fLike R Ln T (nI pp) nn)) ([.ref (ad 2), .int (nI pp), .ref (ad 1), .int (nI nn)] : List Value).toArray s 0 0 (fun _ => False)) (F0 m 15 ls []) := by
      intro k
      induction k with
      | zero =>
        intro i ls hk hi ht hl
        refine lv_iload hx hb dX1_isLike_15 (lv_at hl 0 rfl) ?_
        refine lv_iload_n hx hb dX1_isLike_17 rfl (lv_at hl 4 rfl) ?_
        refine lv_icmp_ge (tgt := 48) hx hb dX1_isLike_18 (by decide) (fun c18 => ?_) (fun c18 => ?_)
        · skip
          refine lv_iconst (v := 1) hx hb dX1_isLike_48 (by decide) ?_
          exact nk_endZ hx hb hr hlocks (by first | rfl | decide) dX1_isLike_49 (by rw [← ht]; rfl)
        · skip
          exact absurd (by rw [hi]; exact nI_le (by omega) (by omega)) c18
      | succ k ih15 =>
        intro i ls hk hi ht hl
        refine lv_iload hx hb dX1_isLike_15 (lv_at hl 0 rfl) ?_
        refine lv_iload_n hx hb dX1_isLike_17 rfl (lv_at hl 4 rfl) ?_
        refine lv_icmp_ge (tgt := 48) hx hb dX1_isLike_18 (by decide) (fun c18 => ?_) (fun c18 => ?_)
        · skip
          exact absurd c18 (Int32.not_le.mpr (by rw [hi]; exact nI_lt (by omega) (by omega)))
        · skip
          refine lv_aload_n hx hb dX1_isLike_21 rfl (lv_at hl 1 rfl) ?_
          refine va_get (D := D) (ci := 1) (v := .ref (ad 7)) (C := RX1) (T := TX1) (N := 5) hx hb hts iX1 hown hK.1 hP 2 rfl rfl 0 (by decide) (hts (.fieldLink RX1 9 "NamedStreams$Paths" "rows" "[J") (by decide +kernel)) (fun _ h9 => h9) rfl dX1_isLike_22 ?_
          refine lv_iload_n hx hb dX1_isLike_25 rfl (lv_at hl 2 rfl) ?_
          refine lv_iconst (v := 4) hx hb dX1_isLike_26 (by decide) ?_
          refine lv_imul hx hb dX1_isLike_27 ?_
          refine lv_iload hx hb dX1_isLike_28 (lv_at hl 0 rfl) ?_
          refine lv_iadd hx hb dX1_isLike_30 ?_
          refine va_lald hx hb hK.1 hP 7 5 rfl rfl (by rw [hi]; exact ns_in96 (m := 0) (j := 0) hp0 (by omega)) dX1_isLike_31 ?_
          refine lv_aload_n hx hb dX1_isLike_32 rfl (lv_at hl 3 rfl) ?_
          refine lv_iload hx hb dX1_isLike_33 (lv_at hl 0 rfl) ?_
          refine va_lald hx hb hK.1 hP 1 0 rfl rfl (by rw [hi]; exact vp_in_nI (by omega) (by decide)) dX1_isLike_35 ?_
          refine W.lcmp hx hb dX1_isLike_36 ?_
          refine lv_if_eq (tgt := 42) hx hb dX1_isLike_37 (by decide) (fun c37 => ?_) (fun c37 => ?_)
          · skip
            have c37 : (R (Int32.toNatClampNeg (((nI pp) * (4 : Int32)) + i))) = (T (Int32.toNatClampNeg i)) := (lg_cmp_eq _ _).mp c37
            obtain ⟨i1, ei1⟩ : ∃ y : Int32, y = i + 1 := ⟨_, rfl⟩
            refine lv_iinc (v := i1) (lv' := [(4, .int i1), (0, .ref (ad 2)), (1, .int (nI pp)), (2, .ref (ad 1)), (3, .int (nI nn))]) hx hb dX1_isLike_42 hl (k := 0) rfl (by rw [ei1]; rfl) (by decide) rfl (fun ls hl => ?_)
            refine lv_goto (tgt := 15) hx hb dX1_isLike_45 (by decide) ?_
            exact ih15 i1 _ (Nat.le_of_succ_le hk) (ns_step hi hk ei1) (by subst hi; rw [← ht, fLikeL, if_pos c37]) (lv_sub hl [0, 1, 2, 3, 4] rfl)
          · skip
            have c37 : ¬ ((R (Int32.toNatClampNeg (((nI pp) * (4 : Int32)) + i))) = (T (Int32.toNatClampNeg i))) := fun h => c37 ((lg_cmp_eq _ _).mpr h)
            refine lv_iconst (v := 0) hx hb dX1_isLike_40 (by decide) ?_
            exact nk_endZ hx hb hr hlocks (by first | rfl | decide) dX1_isLike_41 (by subst hi; rw [← ht, fLikeL, if_neg c37])
    exact lp15 nn (0 : Int32) _ (Nat.le_refl nn) (by rw [Nat.sub_self]; rfl) ((if_pos c7).symm) (lv_sub hl [0, 1, 2, 3, 4] rfl)
  · skip
    refine lv_iconst (v := 0) hx hb dX1_isLike_10 (by decide) ?_
    exact nk_endZ hx hb hr hlocks (by first | rfl | decide) dX1_isLike_11 (by exact (if_neg c7).symm)

set_option maxHeartbeats 800000 in
set_option maxRecDepth 100000 in
theorem mX1_add_T (l : Launch) (D : va_G) (ad : Nat → Nat) (ca : Nat → ClassId) (sd : Int64) (tc : Int32) (sc : Int32) (tr : Int32) (st : Int32) (T : Nat → Int64) (Wt : Nat → Int64) (O : Nat → Int32) (SA : Nat → Option Nat) (KA : Nat → Option Nat) (R : Nat → Int64) (Ln : Nat → Int32) (Ky : Nat → Int64) (Ch : Nat → Int64) (X : va_W) (zz nn : Nat) (hz0 : zz < 24) (hn0 : nn ≤ 4) : nkMI l yX1_add wsX1_add ({ frames := 1, cells := 0, slots := 0, locals := 23 }) D (tC ca) [.ref (ad 2), .ref (ad 1), .int (nI nn)] (wC ad ca sd tc sc tr st (nI zz) T Wt O SA KA R Ln Ky Ch X) (fun u : sPth => wC ad ca sd tc sc tr st u.2.2.2 T Wt O SA KA u.1 u.2.1 u.2.2.1 Ch X) (fun r u => fAdd T R Ln Ky zz nn = (r, u)) 0 0 := by
  refine nk_ofM (Qf := fun A => va_Qi (fun r u => fAdd T R Ln Ky zz nn = (r, u)) (nkB D A (fun u : sPth => wC ad ca sd tc sc tr st u.2.2.2 T Wt O SA KA u.1 u.2.1 u.2.2.1 Ch X)) A) (cc := cX1_add) (maxL := 7) (ret := (some .int)) (by decide) rfl (Nat.le_of_ble_eq_true rfl) ?_
  intro p e s m below meth c A hx hb hr hml hts hown hlocks hin hK hP hD hA hS ls hl
  replace hown : s.vm.findClass RX1 = some m.cls := hown
  replace hl : lv_has ls 7 [(0, .ref (ad 2)), (1, .ref (ad 1)), (2, .int (nI nn))] := hl
  have hP : va_P D vwCl (wC ad ca sd tc sc tr st (nI zz) T Wt O SA KA R Ln Ky Ch X) s.heap := hP
  have iX1 : ∀ w ∈ u_ws RX1 TX1 5, w ∈ wsX1_add := by decide +kernel
  refine lv_aload_n hx hb dX1_add_0 rfl (lv_at hl 0 rfl) ?_
  refine va_get (D := D) (ci := 1) (v := .int (nI zz)) (C := RX1) (T := TX1) (N := 5) hx hb hts iX1 hown hK.1 hP 2 rfl rfl 4 (by decide) (hts (.fieldLink RX1 25 "NamedStreams$Paths" "size" "I") (by decide +kernel)) (fun _ h9 => h9) rfl dX1_add_1 ?_
  refine lv_istore_n (lv' := [(3, .int (nI zz)), (0, .ref (ad 2)), (1, .ref (ad 1)), (2, .int (nI nn))]) hx hb dX1_add_4 rfl hl (by decide) rfl (fun ls hl => ?_)
  refine lv_lconst (v := 0) hx hb dX1_add_5 (by decide) ?_
  refine lv_lstore (lv' := [(4, .long (0 : Int64)), (3, .int (nI zz)), (0, .ref (ad 2)), (1, .ref (ad 1)), (2, .int (nI nn))]) hx hb dX1_add_6 hl (by decide) rfl (fun ls hl => ?_)
  refine lv_iconst (v := 0) hx hb dX1_add_8 (by decide) ?_
  refine lv_istore (lv' := [(6, .int (0 : Int32)), (4, .long (0 : Int64)), (3, .int (nI zz)), (0, .ref (ad 2)), (1, .ref (ad 1)), (2, .int (nI nn))]) hx hb dX1_add_9 hl (by decide) rfl (fun ls hl => ?_)
  have lp11 : ∀ (k : Nat) (i : Int32) (R1 : Nat → Int64) (y1 : Int64) (H : Heap) (locs : List Loc) (ls : Array Slot), k ≤ nn → i = nI (nn - k) → fAddL T zz nn k R1 y1 = fAddL T zz nn nn R 0 → va_P D vwCl (wC ad ca sd tc sc tr st (nI zz) T Wt O SA KA R1 Ln Ky Ch X) H → va_D A (wC ad ca sd tc sc tr st (nI zz) T Wt O SA KA R1 Ln Ky Ch X) → va_S A s.heap H locs → lv_has ls 7 [(6, .int i), (4, .long y1), (3, .int (nI zz)), (0, .ref (ad 2)), (1, .ref (ad 1)), (2, .int (nI nn))] → W p l e ({ frames := 1, cells := 0, slots := 0, locals := 23 } : Room) s m ([.ref (ad 2), .ref (ad 1), .int (nI nn)] : List Value).toArray below meth c H locs 0 0 (MQ below (va_Qi (fun r u => fAdd T R Ln Ky zz nn = (r, u)) (nkB D A (fun u : sPth => wC ad ca sd tc sc tr st u.2.2.2 T Wt O SA KA u.1 u.2.1 u.2.2.1 Ch X)) A) ([.ref (ad 2), .ref (ad 1), .int (nI nn)] : List Value).toArray s 0 0 A) (F0 m 11 ls []) := by
    intro k
    induction k with
    | zero =>
      intro i R1 y1 H locs ls hk hi ht hP hD hS hl
      refine lv_iload hx hb dX1_add_11 (lv_at hl 0 rfl) ?_
      refine lv_iload_n hx hb dX1_add_13 rfl (lv_at hl 5 rfl) ?_
      refine lv_icmp_ge (tgt := 54) hx hb dX1_add_14 (by decide) (fun c14 => ?_) (fun c14 => ?_)
      · skip
        refine lv_aload_n hx hb dX1_add_54 rfl (lv_at hl 3 rfl) ?_
        refine va_get (D := D) (ci := 1) (v := .ref (ad 8)) (C := RX1) (T := TX1) (N := 5) hx hb hts iX1 hown hK.1 hP 2 rfl rfl 1 (by decide) (hts (.fieldLink RX1 15 "NamedStreams$Paths" "lengths" "[I") (by decide +kernel)) (fun _ h9 => h9) rfl dX1_add_55 ?_
        refine lv_iload_n hx hb dX1_add_58 rfl (lv_at hl 2 rfl) ?_
        refine lv_iload_n hx hb dX1_add_59 rfl (lv_at hl 5 rfl) ?_
        refine va_iast hx hb hK.1 hP hD hS 8 6 rfl rfl (vp_in_nI hz0 (by decide)) dX1_add_60 (fun H locs hP hD hS => ?_)
        have hP : va_P D vwCl (wC ad ca sd tc sc tr st (nI zz) T Wt O SA KA R1 (upd Ln (Int32.toNatClampNeg (nI zz)) (nI nn)) Ky Ch X) H := hP
        have hD : va_D A (wC ad ca sd tc sc tr st (nI zz) T Wt O SA KA R1 (upd Ln (Int32.toNatClampNeg (nI zz)) (nI nn)) Ky Ch X) := hD
        refine lv_aload_n hx hb dX1_add_61 rfl (lv_at hl 3 rfl) ?_
        refine va_get (D := D) (ci := 1) (v := .ref (ad 9)) (C := RX1) (T := TX1) (N := 5) hx hb hts iX1 hown hK.1 hP 2 rfl rfl 2 (by decide) (hts (.fieldLink RX1 19 "NamedStreams$Paths" "keys" "[J") (by decide +kernel)) (fun _ h9 => h9) rfl dX1_add_62 ?_
        refine lv_iload_n hx hb dX1_add_65 rfl (lv_at hl 2 rfl) ?_
        refine lv_lload hx hb dX1_add_66 (lv_at hl 1 rfl) ?_
        refine va_last hx hb hK.1 hP hD hS 9 7 rfl rfl (vp_in_nI hz0 (by decide)) dX1_add_68 (fun H locs hP hD hS => ?_)
        have hP : va_P D vwCl (wC ad ca sd tc sc tr st (nI zz) T Wt O SA KA R1 (upd Ln (Int32.toNatClampNeg (nI zz)) (nI nn)) (vp_updL Ky (Int32.toNatClampNeg (nI zz)) y1) Ch X) H := hP
        have hD : va_D A (wC ad ca sd tc sc tr st (nI zz) T Wt O SA KA R1 (upd Ln (Int32.toNatClampNeg (nI zz)) (nI nn)) (vp_updL Ky (Int32.toNatClampNeg (nI zz)) y1) Ch X) := hD
        refine lv_aload_n hx hb dX1_add_69 rfl (lv_at hl 3 rfl) ?_
        refine lv_dup hx hb dX1_add_70 rfl ?_
        refine va_get (D := D) (ci := 1) (v := .int (nI zz)) (C := RX1) (T := TX1) (N := 5) hx hb hts iX1 hown hK.1 hP 2 rfl rfl 4 (by decide) (hts (.fieldLink RX1 25 "NamedStreams$Paths" "size" "I") (by decide +kernel)) (fun _ h9 => h9) rfl dX1_add_71 ?_
        refine lv_iconst (v := 1) hx hb dX1_add_74 (by decide) ?_
        refine lv_iadd hx hb dX1_add_75 ?_
        refine lv_topi (fun z1 ez1 => ?_)
        refine va_put (D := D) (ci := 1) (v := .int z1) (ty := .int) (C := RX1) (T := TX1) (N := 5) hx hb hts iX1 tyX1 tyX1_ok nmX1 hown hK.1 hP hD hS 2 rfl rfl 4 (by decide) (hts (.fieldLink RX1 25 "NamedStreams$Paths" "size" "I") (by decide +kernel)) (fun _ h9 => h9) rfl (by decide +kernel) rfl rfl (Nat.le_of_ble_eq_true rfl) dX1_add_76 (fun H locs hP hD hS => ?_)
        have hP : va_P D vwCl (wC ad ca sd tc sc tr st z1 T Wt O SA KA R1 (upd Ln (Int32.toNatClampNeg (nI zz)) (nI nn)) (vp_updL Ky (Int32.toNatClampNeg (nI zz)) y1) Ch X) H := hP
        have hD : va_D A (wC ad ca sd tc sc tr st z1 T Wt O SA KA R1 (upd Ln (Int32.toNatClampNeg (nI zz)) (nI nn)) (vp_updL Ky (Int32.toNatClampNeg (nI zz)) y1) Ch X) := hD
        refine lv_iload_n hx hb dX1_add_79 rfl (lv_at hl 2 rfl) ?_
        exact nk_retI (g := _) (R1, (upd Ln (Int32.toNatClampNeg (nI zz)) (nI nn)), (vp_updL Ky (Int32.toNatClampNeg (nI zz)) y1), z1) hx hb hr hlocks hP hD hS dX1_add_80 (by subst ez1; rw [fAddL_0] at ht; rw [fAdd, ← ht])
      · skip
        exact absurd (by rw [hi]; exact nI_le (by omega) (by omega)) c14
    | succ k ih11 =>
      intro i R1 y1 H locs ls hk hi ht hP hD hS hl
      refine lv_iload hx hb dX1_add_11 (lv_at hl 0 rfl) ?_
      refine lv_iload_n hx hb dX1_add_13 rfl (lv_at hl 5 rfl) ?_
      refine lv_icmp_ge (tgt := 54) hx hb dX1_add_14 (by decide) (fun c14 => ?_) (fun c14 => ?_)
      · skip
        exact absurd c14 (Int32.not_le.mpr (by rw [hi]; exact nI_lt (by omega) (by omega)))
      · skip
        refine lv_aload_n hx hb dX1_add_17 rfl (lv_at hl 3 rfl) ?_
        refine va_get (D := D) (ci := 1) (v := .ref (ad 7)) (C := RX1) (T := TX1) (N := 5) hx hb hts iX1 hown hK.1 hP 2 rfl rfl 0 (by decide) (hts (.fieldLink RX1 9 "NamedStreams$Paths" "rows" "[J") (by decide +kernel)) (fun _ h9 => h9) rfl dX1_add_18 ?_
        refine lv_iload_n hx hb dX1_add_21 rfl (lv_at hl 2 rfl) ?_
        refine lv_iconst (v := 4) hx hb dX1_add_22 (by decide) ?_
        refine lv_imul hx hb dX1_add_23 ?_
        refine lv_iload hx hb dX1_add_24 (lv_at hl 0 rfl) ?_
        refine lv_iadd hx hb dX1_add_26 ?_
        refine lv_aload_n hx hb dX1_add_27 rfl (lv_at hl 4 rfl) ?_
        refine lv_iload hx hb dX1_add_28 (lv_at hl 0 rfl) ?_
        refine va_lald hx hb hK.1 hP 1 0 rfl rfl (by rw [hi]; exact vp_in_nI (by omega) (by decide)) dX1_add_30 ?_
        refine lv_topl (fun z2 ez2 => ?_)
        refine va_last hx hb hK.1 hP hD hS 7 5 rfl rfl (by rw [hi]; exact ns_in96 (m := 0) (j := 0) hz0 (by omega)) dX1_add_31 (fun H locs hP hD hS => ?_)
        have hP : va_P D vwCl (wC ad ca sd tc sc tr st (nI zz) T Wt O SA KA (vp_updL R1 (Int32.toNatClampNeg (((nI zz) * (4 : Int32)) + i)) z2) Ln Ky Ch X) H := hP
        have hD : va_D A (wC ad ca sd tc sc tr st (nI zz) T Wt O SA KA (vp_updL R1 (Int32.toNatClampNeg (((nI zz) * (4 : Int32)) + i)) z2) Ln Ky Ch X) := hD
        refine lv_lload hx hb dX1_add_32 (lv_at hl 1 rfl) ?_
        refine lv_ldc2 (v := -7046029254386353131) hx hb hown (hts (.constantLong RX1 40 (-7046029254386353131)) (by decide +kernel)) dX1_add_34 ?_
        refine lv_ladd hx hb dX1_add_37 ?_
        refine lv_aload_n hx hb dX1_add_38 rfl (lv_at hl 4 rfl) ?_
        refine lv_iload hx hb dX1_add_39 (lv_at hl 0 rfl) ?_
        refine va_lald hx hb hK.1 hP 1 0 rfl rfl (by rw [hi]; exact vp_in_nI (by omega) (by decide)) dX1_add_41 ?_
        refine lv_lxor hx hb dX1_add_42 ?_
        refine nk_SNL (As := [.long ((y1 + (-7046029254386353131 : Int64)) ^^^ (T (Int32.toNatClampNeg i)))]) (rest := []) ⟨hx, hb, hml, hown, hts⟩ (mX3_mix l ((y1 + (-7046029254386353131 : Int64)) ^^^ (T (Int32.toNatClampNeg i)))) ⟨va_cnB 1 hts gX1_add_X3_mix_n42 rfl rfl rfl hK.2.2.1 (hts (.initialized RX3) (by decide +kernel)) (by decide +kernel) ⟨Nat.le_of_ble_eq_true rfl, Nat.le_of_ble_eq_true rfl⟩, hts (.static yX3_mix) (by decide +kernel), trivial⟩ rfl hl.1 rfl (Nat.le_of_ble_eq_true rfl) dX1_add_43 ⟨Nat.le_of_ble_eq_true rfl, Nat.le_of_ble_eq_true rfl⟩ (fun r3 hr3 => ?_)
        subst hr3
        refine lv_topl (fun z4 ez4 => ?_)
        refine lv_lstore (lv' := [(4, .long z4), (6, .int i), (3, .int (nI zz)), (0, .ref (ad 2)), (1, .ref (ad 1)), (2, .int (nI nn))]) hx hb dX1_add_46 hl (by decide) rfl (fun ls hl => ?_)
        obtain ⟨i5, ei5⟩ : ∃ y : Int32, y = i + 1 := ⟨_, rfl⟩
        refine lv_iinc (v := i5) (lv' := [(6, .int i5), (4, .long z4), (3, .int (nI zz)), (0, .ref (ad 2)), (1, .ref (ad 1)), (2, .int (nI nn))]) hx hb dX1_add_48 hl (k := 1) rfl (by rw [ei5]; rfl) (by decide) rfl (fun ls hl => ?_)
        refine lv_goto (tgt := 11) hx hb dX1_add_51 (by decide) ?_
        exact ih11 i5 (vp_updL R1 (Int32.toNatClampNeg (((nI zz) * (4 : Int32)) + i)) z2) z4 _ _ _ (Nat.le_of_succ_le hk) (ns_step hi hk ei5) (by subst hi; subst ez2; subst ez4; rw [fAddL_s] at ht; exact ht) hP hD hS (lv_sub hl [0, 1, 2, 3, 4, 5] rfl)
  exact lp11 nn (0 : Int32) R (0 : Int64) _ _ _ (Nat.le_refl nn) (by rw [Nat.sub_self]; rfl) rfl hP hD hS (lv_sub hl [0, 1, 2, 3, 4, 5] rfl)

set_option maxHeartbeats 800000 in
set_option maxRecDepth 100000 in
theorem mX1_enter_T (l : Launch) (D : va_G) (ad : Nat → Nat) (ca : Nat → ClassId) (sd : Int64) (tc : Int32) (sc : Int32) (tr : Int32) (st : Int32) (T : Nat → Int64) (Wt : Nat → Int64) (O : Nat → Int32) (SA : Nat → Option Nat) (KA : Nat → Option Nat) (R : Nat → Int64) (Ln : Nat → Int32) (Ky : Nat → Int64) (Ch : Nat → Int64) (X : va_W) (zz nn : Nat) (hz0 : zz ≤ 24) (hn0 : nn ≤ 4) : nkMI l yX1_enter wsX1_enter ({ frames := 2, cells := 0, slots := 0, locals := 49 }) D (tC ca) [.ref (ad 2), .ref (ad 1), .int (nI nn)] (wC ad ca sd tc sc tr st (nI zz) T Wt O SA KA R Ln Ky Ch X) (fun u : sPth => wC ad ca sd tc sc tr st u.2.2.2 T Wt O SA KA u.1 u.2.1 u.2.2.1 Ch X) (fun r u => fEnt T R Ln Ky zz nn = (r, u)) 0 0 := by
  refine nk_ofM (Qf := fun A => va_Qi (fun r u => fEnt T R Ln Ky zz nn = (r, u)) (nkB D A (fun u : sPth => wC ad ca sd tc sc tr st u.2.2.2 T Wt O SA KA u.1 u.2.1 u.2.2.1 Ch X)) A) (cc := cX1_enter) (maxL := 4) (ret := (some .int)) (by decide) rfl (Nat.le_of_ble_eq_true rfl) ?_
  intro p e s m below meth c A hx hb hr hml hts hown hlocks hin hK hP hD hA hS ls hl
  replace hown : s.vm.findClass RX1 = some m.cls := hown
  replace hl : lv_has ls 4 [(0, .ref (ad 2)), (1, .ref (ad 1)), (2, .int (nI nn))] := hl
  have hP : va_P D vwCl (wC ad ca sd tc sc tr st (nI zz) T Wt O SA KA R Ln Ky Ch X) s.heap := hP
  have iX1 : ∀ w ∈ u_ws RX1 TX1 5, w ∈ wsX1_enter := by decide +kernel
  refine lv_iconst (v := 0) hx hb dX1_enter_0 (by decide) ?_
  refine lv_istore_n (lv' := [(3, .int (0 : Int32)), (0, .ref (ad 2)), (1, .ref (ad 1)), (2, .int (nI nn))]) hx hb dX1_enter_1 rfl hl (by decide) rfl (fun ls hl => ?_)
  have lp2 : ∀ (k : Nat) (i : Int32) (H : Heap) (locs : List Loc) (ls : Array Slot), k ≤ zz → i = nI (zz - k) → fEntL T R Ln Ky zz nn k = fEnt T R Ln Ky zz nn → va_P D vwCl (wC ad ca sd tc sc tr st (nI zz) T Wt O SA KA R Ln Ky Ch X) H → va_D A (wC ad ca sd tc sc tr st (nI zz) T Wt O SA KA R Ln Ky Ch X) → va_S A s.heap H locs → lv_has ls 4 [(3, .int i), (0, .ref (ad 2)), (1, .ref (ad 1)), (2, .int (nI nn))] → W p l e ({ frames := 2, cells := 0, slots := 0, locals := 49 } : Room) s m ([.ref (ad 2), .ref (ad 1), .int (nI nn)] : List Value).toArray below meth c H locs 0 0 (MQ below (va_Qi (fun r u => fEnt T R Ln Ky zz nn = (r, u)) (nkB D A (fun u : sPth => wC ad ca sd tc sc tr st u.2.2.2 T Wt O SA KA u.1 u.2.1 u.2.2.1 Ch X)) A) ([.ref (ad 2), .ref (ad 1), .int (nI nn)] : List Value).toArray s 0 0 A) (F0 m 2 ls []) := by
    intro k
    induction k with
    | zero =>
      intro i H locs ls hk hi ht hP hD hS hl
      refine lv_iload_n hx hb dX1_enter_2 rfl (lv_at hl 0 rfl) ?_
      refine lv_aload_n hx hb dX1_enter_3 rfl (lv_at hl 1 rfl) ?_
      refine va_get (D := D) (ci := 1) (v := .int (nI zz)) (C := RX1) (T := TX1) (N := 5) hx hb hts iX1 hown hK.1 hP 2 rfl rfl 4 (by decide) (hts (.fieldLink RX1 25 "NamedStreams$Paths" "size" "I") (by decide +kernel)) (fun _ h9 => h9) rfl dX1_enter_4 ?_
      refine lv_icmp_ge (tgt := 28) hx hb dX1_enter_7 (by decide) (fun c7 => ?_) (fun c7 => ?_)
      · skip
        refine lv_aload_n hx hb dX1_enter_28 rfl (lv_at hl 1 rfl) ?_
        refine va_get (D := D) (ci := 1) (v := .int (nI zz)) (C := RX1) (T := TX1) (N := 5) hx hb hts iX1 hown hK.1 hP 2 rfl rfl 4 (by decide) (hts (.fieldLink RX1 25 "NamedStreams$Paths" "size" "I") (by decide +kernel)) (fun _ h9 => h9) rfl dX1_enter_29 ?_
        refine lv_bipush (v := 24) hx hb dX1_enter_32 (by decide) ?_
        refine lv_icmp_lt (tgt := 42) hx hb dX1_enter_34 (by decide) (fun c34 => ?_) (fun c34 => ?_)
        · skip
          refine lv_aload_n hx hb dX1_enter_42 rfl (lv_at hl 1 rfl) ?_
          refine lv_aload_n hx hb dX1_enter_43 rfl (lv_at hl 2 rfl) ?_
          refine lv_iload_n hx hb dX1_enter_44 rfl (lv_at hl 3 rfl) ?_
          refine nk_VI (As := [.ref (ad 1), .int (nI nn)]) (rest := []) ⟨hx, hb, hml, hown, hts⟩ (mX1_add_T l D ad ca sd tc sc tr st T Wt O SA KA R Ln Ky Ch X zz nn (ns_lt_of c34 rfl (by omega) (by decide)) hn0) (cwV 2 hts gX1_enter_X1_add rfl rfl rfl (by decide +kernel) ⟨Nat.le_of_ble_eq_true rfl, Nat.le_of_ble_eq_true rfl⟩) hK hP hD hS hA 2 1 rfl rfl rfl rfl hl.1 rfl (Nat.le_of_ble_eq_true rfl) dX1_enter_45 ⟨Nat.le_of_ble_eq_true rfl, Nat.le_of_ble_eq_true rfl⟩ (fun r1 ur1 H locs hr1 hP hD hS => ?_)
          obtain ⟨rfl, rfl⟩ : r1 = (fAdd T R Ln Ky zz nn).1 ∧ ur1 = (fAdd T R Ln Ky zz nn).2 := by rw [hr1]; exact ⟨rfl, rfl⟩
          have hP : va_P D vwCl (wC ad ca sd tc sc tr st ((fAdd T R Ln Ky zz nn).2.2.2.2) T Wt O SA KA ((fAdd T R Ln Ky zz nn).2.1) ((fAdd T R Ln Ky zz nn).2.2.1) ((fAdd T R Ln Ky zz nn).2.2.2.1) Ch X) H := hP
          have hD : va_D A (wC ad ca sd tc sc tr st ((fAdd T R Ln Ky zz nn).2.2.2.2) T Wt O SA KA ((fAdd T R Ln Ky zz nn).2.1) ((fAdd T R Ln Ky zz nn).2.2.1) ((fAdd T R Ln Ky zz nn).2.2.2.1) Ch X) := hD
          exact nk_retI (g := _) ((fAdd T R Ln Ky zz nn).2.1, (fAdd T R Ln Ky zz nn).2.2.1, (fAdd T R Ln Ky zz nn).2.2.2.1, (fAdd T R Ln Ky zz nn).2.2.2.2) hx hb hr hlocks hP hD hS dX1_enter_48 (by rw [← ht]; exact (if_pos c34))
        · skip
          refine lv_bipush (v := -2) hx hb dX1_enter_37 (by decide) ?_
          refine lv_goto (tgt := 48) hx hb dX1_enter_39 (by decide) ?_
          exact nk_retI (g := _) (R, Ln, Ky, (nI zz)) hx hb hr hlocks hP hD hS dX1_enter_48 (by rw [← ht]; exact (if_neg c34))
      · skip
        exact absurd (by rw [hi]; exact nI_le (by omega) (by omega)) c7
    | succ k ih2 =>
      intro i H locs ls hk hi ht hP hD hS hl
      refine lv_iload_n hx hb dX1_enter_2 rfl (lv_at hl 0 rfl) ?_
      refine lv_aload_n hx hb dX1_enter_3 rfl (lv_at hl 1 rfl) ?_
      refine va_get (D := D) (ci := 1) (v := .int (nI zz)) (C := RX1) (T := TX1) (N := 5) hx hb hts iX1 hown hK.1 hP 2 rfl rfl 4 (by decide) (hts (.fieldLink RX1 25 "NamedStreams$Paths" "size" "I") (by decide +kernel)) (fun _ h9 => h9) rfl dX1_enter_4 ?_
      refine lv_icmp_ge (tgt := 28) hx hb dX1_enter_7 (by decide) (fun c7 => ?_) (fun c7 => ?_)
      · skip
        exact absurd c7 (Int32.not_le.mpr (by rw [hi]; exact nI_lt (by omega) (by omega)))
      · skip
        subst hi
        refine lv_aload_n hx hb dX1_enter_10 rfl (lv_at hl 1 rfl) ?_
        refine lv_iload_n hx hb dX1_enter_11 rfl (lv_at hl 0 rfl) ?_
        refine lv_aload_n hx hb dX1_enter_12 rfl (lv_at hl 2 rfl) ?_
        refine lv_iload_n hx hb dX1_enter_13 rfl (lv_at hl 3 rfl) ?_
        refine nk_VRI (As := [.int (nI (zz - (k + 1))), .ref (ad 1), .int (nI nn)]) (rest := []) ⟨hx, hb, hml, hown, hts⟩ (mX1_isLike_T l D ad ca sd tc sc tr st (nI zz) T Wt O SA KA R Ln Ky Ch X (zz - (k + 1)) nn (by omega) hn0) (cwV 3 hts gX1_enter_X1_isLike rfl rfl rfl (by decide +kernel) ⟨Nat.le_of_ble_eq_true rfl, Nat.le_of_ble_eq_true rfl⟩) hK hP 2 1 rfl rfl rfl rfl hl.1 rfl (Nat.le_of_ble_eq_true rfl) dX1_enter_14 ⟨Nat.le_of_ble_eq_true rfl, Nat.le_of_ble_eq_true rfl⟩ (fun r2 hr2 => ?_)
        subst hr2
        refine lv_if_eq (tgt := 22) hx hb dX1_enter_17 (by decide) (fun c17 => ?_) (fun c17 => ?_)
        · skip
          obtain ⟨i3, ei3⟩ : ∃ y : Int32, y = (nI (zz - (k + 1))) + 1 := ⟨_, rfl⟩
          refine lv_iinc (v := i3) (lv' := [(3, .int i3), (0, .ref (ad 2)), (1, .ref (ad 1)), (2, .int (nI nn))]) hx hb dX1_enter_22 hl (k := 0) rfl (by rw [ei3]; rfl) (by decide) rfl (fun ls hl => ?_)
          refine lv_goto (tgt := 2) hx hb dX1_enter_25 (by decide) ?_
          exact ih2 i3 _ _ _ (Nat.le_of_succ_le hk) (ns_step rfl hk ei3) (by rw [← ht, fEntL, if_pos c17]) hP hD hS (lv_sub hl [0, 1, 2, 3] rfl)
        · skip
          refine lv_iload_n hx hb dX1_enter_20 rfl (lv_at hl 0 rfl) ?_
          exact nk_retI (g := _) (R, Ln, Ky, (nI zz)) hx hb hr hlocks hP hD hS dX1_enter_21 (by rw [← ht, fEntL, if_neg c17])
  exact lp2 zz (0 : Int32) _ _ _ (Nat.le_refl zz) (by rw [Nat.sub_self]; rfl) rfl hP hD hS (lv_sub hl [0, 1, 2, 3] rfl)

set_option maxHeartbeats 800000 in
set_option maxRecDepth 100000 in
theorem mX1_isLike_C (l : Launch) (D : va_G) (ad : Nat → Nat) (ca : Nat → ClassId) (sd : Int64) (tc : Int32) (sc : Int32) (tr : Int32) (st : Int32) (pz : Int32) (T : Nat → Int64) (Wt : Nat → Int64) (O : Nat → Int32) (SA : Nat → Option Nat) (KA : Nat → Option Nat) (R : Nat → Int64) (Ln : Nat → Int32) (Ky : Nat → Int64) (Ch : Nat → Int64) (X : va_W) (pp nn : Nat) (hp0 : pp < 24) (hn0 : nn ≤ 4) : nkRI l yX1_isLike wsX1_isLike ({ frames := 0, cells := 0, slots := 0, locals := 0 }) D (tC ca) [.ref (ad 2), .int (nI pp), .ref (ad 10), .int (nI nn)] (wC ad ca sd tc sc tr st pz T Wt O SA KA R Ln Ky Ch X) (fun r => r = fLike R Ln Ch (nI pp) nn) := by
  refine nk_ofR (cc := cX1_isLike) (maxL := 5) (ret := (some .boolean)) (by decide) rfl (Nat.le_of_ble_eq_true rfl) ?_
  intro p e s m below meth c hx hb hr hml hts hown hlocks hK hP ls hl
  replace hown : s.vm.findClass RX1 = some m.cls := hown
  replace hl : lv_has ls 5 [(0, .ref (ad 2)), (1, .int (nI pp)), (2, .ref (ad 10)), (3, .int (nI nn))] := hl
  have hP : va_P D vwCl (wC ad ca sd tc sc tr st pz T Wt O SA KA R Ln Ky Ch X) s.heap := hP
  have iX1 : ∀ w ∈ u_ws RX1 TX1 5, w ∈ wsX1_isLike := by decide +kernel
  refine lv_aload_n hx hb dX1_isLike_0 rfl (lv_at hl 0 rfl) ?_
  refine va_get (D := D) (ci := 1) (v := .ref (ad 8)) (C := RX1) (T := TX1) (N := 5) hx hb hts iX1 hown hK.1 hP 2 rfl rfl 1 (by decide) (hts (.fieldLink RX1 15 "NamedStreams$Paths" "lengths" "[I") (by decide +kernel)) (fun _ h9 => h9) rfl dX1_isLike_1 ?_
  refine lv_iload_n hx hb dX1_isLike_4 rfl (lv_at hl 1 rfl) ?_
  refine va_iald hx hb hK.1 hP 8 6 rfl rfl (vp_in_nI hp0 (by decide)) dX1_isLike_5 ?_
  refine lv_iload_n hx hb dX1_isLike_6 rfl (lv_at hl 3 rfl) ?_
  refine lv_icmp_eq (tgt := 12) hx hb dX1_isLike_7 (by decide) (fun c7 => ?_) (fun c7 => ?_)
  · skip
    refine lv_iconst (v := 0) hx hb dX1_isLike_12 (by decide) ?_
    refine lv_istore (lv' := [(4, .int (0 : Int32)), (0, .ref (ad 2)), (1, .int (nI pp)), (2, .ref (ad 10)), (3, .int (nI nn))]) hx hb dX1_isLike_13 hl (by decide) rfl (fun ls hl => ?_)
    have lp15 : ∀ (k : Nat) (i : Int32) (ls : Array Slot), k ≤ nn → i = nI (nn - k) → fLikeL R Ch (nI pp) nn k = fLike R Ln Ch (nI pp) nn → lv_has ls 5 [(4, .int i), (0, .ref (ad 2)), (1, .int (nI pp)), (2, .ref (ad 10)), (3, .int (nI nn))] → W p l e ({ frames := 0, cells := 0, slots := 0, locals := 0 } : Room) s m ([.ref (ad 2), .int (nI pp), .ref (ad 10), .int (nI nn)] : List Value).toArray below meth c s.heap [] 0 0 (MQ below (vp_Si (fun r => r = fLike R Ln Ch (nI pp) nn)) ([.ref (ad 2), .int (nI pp), .ref (ad 10), .int (nI nn)] : List Value).toArray s 0 0 (fun _ => False)) (F0 m 15 ls []) := by
      intro k
      induction k with
      | zero =>
        intro i ls hk hi ht hl
        refine lv_iload hx hb dX1_isLike_15 (lv_at hl 0 rfl) ?_
        refine lv_iload_n hx hb dX1_isLike_17 rfl (lv_at hl 4 rfl) ?_
        refine lv_icmp_ge (tgt := 48) hx hb dX1_isLike_18 (by decide) (fun c18 => ?_) (fun c18 => ?_)
        · skip
          refine lv_iconst (v := 1) hx hb dX1_isLike_48 (by decide) ?_
          exact nk_endZ hx hb hr hlocks (by first | rfl | decide) dX1_isLike_49 (by rw [← ht]; rfl)
        · skip
          exact absurd (by rw [hi]; exact nI_le (by omega) (by omega)) c18
      | succ k ih15 =>
        intro i ls hk hi ht hl
        refine lv_iload hx hb dX1_isLike_15 (lv_at hl 0 rfl) ?_
        refine lv_iload_n hx hb dX1_isLike_17 rfl (lv_at hl 4 rfl) ?_
        refine lv_icmp_ge (tgt := 48) hx hb dX1_isLike_18 (by decide) (fun c18 => ?_) (fun c18 => ?_)
        · skip
          exact absurd c18 (Int32.not_le.mpr (by rw [hi]; exact nI_lt (by omega) (by omega)))
        · skip
          refine lv_aload_n hx hb dX1_isLike_21 rfl (lv_at hl 1 rfl) ?_
          refine va_get (D := D) (ci := 1) (v := .ref (ad 7)) (C := RX1) (T := TX1) (N := 5) hx hb hts iX1 hown hK.1 hP 2 rfl rfl 0 (by decide) (hts (.fieldLink RX1 9 "NamedStreams$Paths" "rows" "[J") (by decide +kernel)) (fun _ h9 => h9) rfl dX1_isLike_22 ?_
          refine lv_iload_n hx hb dX1_isLike_25 rfl (lv_at hl 2 rfl) ?_
          refine lv_iconst (v := 4) hx hb dX1_isLike_26 (by decide) ?_
          refine lv_imul hx hb dX1_isLike_27 ?_
          refine lv_iload hx hb dX1_isLike_28 (lv_at hl 0 rfl) ?_
          refine lv_iadd hx hb dX1_isLike_30 ?_
          refine va_lald hx hb hK.1 hP 7 5 rfl rfl (by rw [hi]; exact ns_in96 (m := 0) (j := 0) hp0 (by omega)) dX1_isLike_31 ?_
          refine lv_aload_n hx hb dX1_isLike_32 rfl (lv_at hl 3 rfl) ?_
          refine lv_iload hx hb dX1_isLike_33 (lv_at hl 0 rfl) ?_
          refine va_lald hx hb hK.1 hP 10 8 rfl rfl (by rw [hi]; exact vp_in_nI (by omega) (by decide)) dX1_isLike_35 ?_
          refine W.lcmp hx hb dX1_isLike_36 ?_
          refine lv_if_eq (tgt := 42) hx hb dX1_isLike_37 (by decide) (fun c37 => ?_) (fun c37 => ?_)
          · skip
            have c37 : (R (Int32.toNatClampNeg (((nI pp) * (4 : Int32)) + i))) = (Ch (Int32.toNatClampNeg i)) := (lg_cmp_eq _ _).mp c37
            obtain ⟨i1, ei1⟩ : ∃ y : Int32, y = i + 1 := ⟨_, rfl⟩
            refine lv_iinc (v := i1) (lv' := [(4, .int i1), (0, .ref (ad 2)), (1, .int (nI pp)), (2, .ref (ad 10)), (3, .int (nI nn))]) hx hb dX1_isLike_42 hl (k := 0) rfl (by rw [ei1]; rfl) (by decide) rfl (fun ls hl => ?_)
            refine lv_goto (tgt := 15) hx hb dX1_isLike_45 (by decide) ?_
            exact ih15 i1 _ (Nat.le_of_succ_le hk) (ns_step hi hk ei1) (by subst hi; rw [← ht, fLikeL, if_pos c37]) (lv_sub hl [0, 1, 2, 3, 4] rfl)
          · skip
            have c37 : ¬ ((R (Int32.toNatClampNeg (((nI pp) * (4 : Int32)) + i))) = (Ch (Int32.toNatClampNeg i))) := fun h => c37 ((lg_cmp_eq _ _).mpr h)
            refine lv_iconst (v := 0) hx hb dX1_isLike_40 (by decide) ?_
            exact nk_endZ hx hb hr hlocks (by first | rfl | decide) dX1_isLike_41 (by subst hi; rw [← ht, fLikeL, if_neg c37])
    exact lp15 nn (0 : Int32) _ (Nat.le_refl nn) (by rw [Nat.sub_self]; rfl) ((if_pos c7).symm) (lv_sub hl [0, 1, 2, 3, 4] rfl)
  · skip
    refine lv_iconst (v := 0) hx hb dX1_isLike_10 (by decide) ?_
    exact nk_endZ hx hb hr hlocks (by first | rfl | decide) dX1_isLike_11 (by exact (if_neg c7).symm)

set_option maxHeartbeats 800000 in
set_option maxRecDepth 100000 in
theorem mX1_add_C (l : Launch) (D : va_G) (ad : Nat → Nat) (ca : Nat → ClassId) (sd : Int64) (tc : Int32) (sc : Int32) (tr : Int32) (st : Int32) (T : Nat → Int64) (Wt : Nat → Int64) (O : Nat → Int32) (SA : Nat → Option Nat) (KA : Nat → Option Nat) (R : Nat → Int64) (Ln : Nat → Int32) (Ky : Nat → Int64) (Ch : Nat → Int64) (X : va_W) (zz nn : Nat) (hz0 : zz < 24) (hn0 : nn ≤ 4) : nkMI l yX1_add wsX1_add ({ frames := 1, cells := 0, slots := 0, locals := 23 }) D (tC ca) [.ref (ad 2), .ref (ad 10), .int (nI nn)] (wC ad ca sd tc sc tr st (nI zz) T Wt O SA KA R Ln Ky Ch X) (fun u : sPth => wC ad ca sd tc sc tr st u.2.2.2 T Wt O SA KA u.1 u.2.1 u.2.2.1 Ch X) (fun r u => fAdd Ch R Ln Ky zz nn = (r, u)) 0 0 := by
  refine nk_ofM (Qf := fun A => va_Qi (fun r u => fAdd Ch R Ln Ky zz nn = (r, u)) (nkB D A (fun u : sPth => wC ad ca sd tc sc tr st u.2.2.2 T Wt O SA KA u.1 u.2.1 u.2.2.1 Ch X)) A) (cc := cX1_add) (maxL := 7) (ret := (some .int)) (by decide) rfl (Nat.le_of_ble_eq_true rfl) ?_
  intro p e s m below meth c A hx hb hr hml hts hown hlocks hin hK hP hD hA hS ls hl
  replace hown : s.vm.findClass RX1 = some m.cls := hown
  replace hl : lv_has ls 7 [(0, .ref (ad 2)), (1, .ref (ad 10)), (2, .int (nI nn))] := hl
  have hP : va_P D vwCl (wC ad ca sd tc sc tr st (nI zz) T Wt O SA KA R Ln Ky Ch X) s.heap := hP
  have iX1 : ∀ w ∈ u_ws RX1 TX1 5, w ∈ wsX1_add := by decide +kernel
  refine lv_aload_n hx hb dX1_add_0 rfl (lv_at hl 0 rfl) ?_
  refine va_get (D := D) (ci := 1) (v := .int (nI zz)) (C := RX1) (T := TX1) (N := 5) hx hb hts iX1 hown hK.1 hP 2 rfl rfl 4 (by decide) (hts (.fieldLink RX1 25 "NamedStreams$Paths" "size" "I") (by decide +kernel)) (fun _ h9 => h9) rfl dX1_add_1 ?_
  refine lv_istore_n (lv' := [(3, .int (nI zz)), (0, .ref (ad 2)), (1, .ref (ad 10)), (2, .int (nI nn))]) hx hb dX1_add_4 rfl hl (by decide) rfl (fun ls hl => ?_)
  refine lv_lconst (v := 0) hx hb dX1_add_5 (by decide) ?_
  refine lv_lstore (lv' := [(4, .long (0 : Int64)), (3, .int (nI zz)), (0, .ref (ad 2)), (1, .ref (ad 10)), (2, .int (nI nn))]) hx hb dX1_add_6 hl (by decide) rfl (fun ls hl => ?_)
  refine lv_iconst (v := 0) hx hb dX1_add_8 (by decide) ?_
  refine lv_istore (lv' := [(6, .int (0 : Int32)), (4, .long (0 : Int64)), (3, .int (nI zz)), (0, .ref (ad 2)), (1, .ref (ad 10)), (2, .int (nI nn))]) hx hb dX1_add_9 hl (by decide) rfl (fun ls hl => ?_)
  have lp11 : ∀ (k : Nat) (i : Int32) (R1 : Nat → Int64) (y1 : Int64) (H : Heap) (locs : List Loc) (ls : Array Slot), k ≤ nn → i = nI (nn - k) → fAddL Ch zz nn k R1 y1 = fAddL Ch zz nn nn R 0 → va_P D vwCl (wC ad ca sd tc sc tr st (nI zz) T Wt O SA KA R1 Ln Ky Ch X) H → va_D A (wC ad ca sd tc sc tr st (nI zz) T Wt O SA KA R1 Ln Ky Ch X) → va_S A s.heap H locs → lv_has ls 7 [(6, .int i), (4, .long y1), (3, .int (nI zz)), (0, .ref (ad 2)), (1, .ref (ad 10)), (2, .int (nI nn))] → W p l e ({ frames := 1, cells := 0, slots := 0, locals := 23 } : Room) s m ([.ref (ad 2), .ref (ad 10), .int (nI nn)] : List Value).toArray below meth c H locs 0 0 (MQ below (va_Qi (fun r u => fAdd Ch R Ln Ky zz nn = (r, u)) (nkB D A (fun u : sPth => wC ad ca sd tc sc tr st u.2.2.2 T Wt O SA KA u.1 u.2.1 u.2.2.1 Ch X)) A) ([.ref (ad 2), .ref (ad 10), .int (nI nn)] : List Value).toArray s 0 0 A) (F0 m 11 ls []) := by
    intro k
    induction k with
    | zero =>
      intro i R1 y1 H locs ls hk hi ht hP hD hS hl
      refine lv_iload hx hb dX1_add_11 (lv_at hl 0 rfl) ?_
      refine lv_iload_n hx hb dX1_add_13 rfl (lv_at hl 5 rfl) ?_
      refine lv_icmp_ge (tgt := 54) hx hb dX1_add_14 (by decide) (fun c14 => ?_) (fun c14 => ?_)
      · skip
        refine lv_aload_n hx hb dX1_add_54 rfl (lv_at hl 3 rfl) ?_
        refine va_get (D := D) (ci := 1) (v := .ref (ad 8)) (C := RX1) (T := TX1) (N := 5) hx hb hts iX1 hown hK.1 hP 2 rfl rfl 1 (by decide) (hts (.fieldLink RX1 15 "NamedStreams$Paths" "lengths" "[I") (by decide +kernel)) (fun _ h9 => h9) rfl dX1_add_55 ?_
        refine lv_iload_n hx hb dX1_add_58 rfl (lv_at hl 2 rfl) ?_
        refine lv_iload_n hx hb dX1_add_59 rfl (lv_at hl 5 rfl) ?_
        refine va_iast hx hb hK.1 hP hD hS 8 6 rfl rfl (vp_in_nI hz0 (by decide)) dX1_add_60 (fun H locs hP hD hS => ?_)
        have hP : va_P D vwCl (wC ad ca sd tc sc tr st (nI zz) T Wt O SA KA R1 (upd Ln (Int32.toNatClampNeg (nI zz)) (nI nn)) Ky Ch X) H := hP
        have hD : va_D A (wC ad ca sd tc sc tr st (nI zz) T Wt O SA KA R1 (upd Ln (Int32.toNatClampNeg (nI zz)) (nI nn)) Ky Ch X) := hD
        refine lv_aload_n hx hb dX1_add_61 rfl (lv_at hl 3 rfl) ?_
        refine va_get (D := D) (ci := 1) (v := .ref (ad 9)) (C := RX1) (T := TX1) (N := 5) hx hb hts iX1 hown hK.1 hP 2 rfl rfl 2 (by decide) (hts (.fieldLink RX1 19 "NamedStreams$Paths" "keys" "[J") (by decide +kernel)) (fun _ h9 => h9) rfl dX1_add_62 ?_
        refine lv_iload_n hx hb dX1_add_65 rfl (lv_at hl 2 rfl) ?_
        refine lv_lload hx hb dX1_add_66 (lv_at hl 1 rfl) ?_
        refine va_last hx hb hK.1 hP hD hS 9 7 rfl rfl (vp_in_nI hz0 (by decide)) dX1_add_68 (fun H locs hP hD hS => ?_)
        have hP : va_P D vwCl (wC ad ca sd tc sc tr st (nI zz) T Wt O SA KA R1 (upd Ln (Int32.toNatClampNeg (nI zz)) (nI nn)) (vp_updL Ky (Int32.toNatClampNeg (nI zz)) y1) Ch X) H := hP
        have hD : va_D A (wC ad ca sd tc sc tr st (nI zz) T Wt O SA KA R1 (upd Ln (Int32.toNatClampNeg (nI zz)) (nI nn)) (vp_updL Ky (Int32.toNatClampNeg (nI zz)) y1) Ch X) := hD
        refine lv_aload_n hx hb dX1_add_69 rfl (lv_at hl 3 rfl) ?_
        refine lv_dup hx hb dX1_add_70 rfl ?_
        refine va_get (D := D) (ci := 1) (v := .int (nI zz)) (C := RX1) (T := TX1) (N := 5) hx hb hts iX1 hown hK.1 hP 2 rfl rfl 4 (by decide) (hts (.fieldLink RX1 25 "NamedStreams$Paths" "size" "I") (by decide +kernel)) (fun _ h9 => h9) rfl dX1_add_71 ?_
        refine lv_iconst (v := 1) hx hb dX1_add_74 (by decide) ?_
        refine lv_iadd hx hb dX1_add_75 ?_
        refine lv_topi (fun z1 ez1 => ?_)
        refine va_put (D := D) (ci := 1) (v := .int z1) (ty := .int) (C := RX1) (T := TX1) (N := 5) hx hb hts iX1 tyX1 tyX1_ok nmX1 hown hK.1 hP hD hS 2 rfl rfl 4 (by decide) (hts (.fieldLink RX1 25 "NamedStreams$Paths" "size" "I") (by decide +kernel)) (fun _ h9 => h9) rfl (by decide +kernel) rfl rfl (Nat.le_of_ble_eq_true rfl) dX1_add_76 (fun H locs hP hD hS => ?_)
        have hP : va_P D vwCl (wC ad ca sd tc sc tr st z1 T Wt O SA KA R1 (upd Ln (Int32.toNatClampNeg (nI zz)) (nI nn)) (vp_updL Ky (Int32.toNatClampNeg (nI zz)) y1) Ch X) H := hP
        have hD : va_D A (wC ad ca sd tc sc tr st z1 T Wt O SA KA R1 (upd Ln (Int32.toNatClampNeg (nI zz)) (nI nn)) (vp_updL Ky (Int32.toNatClampNeg (nI zz)) y1) Ch X) := hD
        refine lv_iload_n hx hb dX1_add_79 rfl (lv_at hl 2 rfl) ?_
        exact nk_retI (g := _) (R1, (upd Ln (Int32.toNatClampNeg (nI zz)) (nI nn)), (vp_updL Ky (Int32.toNatClampNeg (nI zz)) y1), z1) hx hb hr hlocks hP hD hS dX1_add_80 (by subst ez1; rw [fAddL_0] at ht; rw [fAdd, ← ht])
      · skip
        exact absurd (by rw [hi]; exact nI_le (by omega) (by omega)) c14
    | succ k ih11 =>
      intro i R1 y1 H locs ls hk hi ht hP hD hS hl
      refine lv_iload hx hb dX1_add_11 (lv_at hl 0 rfl) ?_
      refine lv_iload_n hx hb dX1_add_13 rfl (lv_at hl 5 rfl) ?_
      refine lv_icmp_ge (tgt := 54) hx hb dX1_add_14 (by decide) (fun c14 => ?_) (fun c14 => ?_)
      · skip
        exact absurd c14 (Int32.not_le.mpr (by rw [hi]; exact nI_lt (by omega) (by omega)))
      · skip
        refine lv_aload_n hx hb dX1_add_17 rfl (lv_at hl 3 rfl) ?_
        refine va_get (D := D) (ci := 1) (v := .ref (ad 7)) (C := RX1) (T := TX1) (N := 5) hx hb hts iX1 hown hK.1 hP 2 rfl rfl 0 (by decide) (hts (.fieldLink RX1 9 "NamedStreams$Paths" "rows" "[J") (by decide +kernel)) (fun _ h9 => h9) rfl dX1_add_18 ?_
        refine lv_iload_n hx hb dX1_add_21 rfl (lv_at hl 2 rfl) ?_
        refine lv_iconst (v := 4) hx hb dX1_add_22 (by decide) ?_
        refine lv_imul hx hb dX1_add_23 ?_
        refine lv_iload hx hb dX1_add_24 (lv_at hl 0 rfl) ?_
        refine lv_iadd hx hb dX1_add_26 ?_
        refine lv_aload_n hx hb dX1_add_27 rfl (lv_at hl 4 rfl) ?_
        refine lv_iload hx hb dX1_add_28 (lv_at hl 0 rfl) ?_
        refine va_lald hx hb hK.1 hP 10 8 rfl rfl (by rw [hi]; exact vp_in_nI (by omega) (by decide)) dX1_add_30 ?_
        refine lv_topl (fun z2 ez2 => ?_)
        refine va_last hx hb hK.1 hP hD hS 7 5 rfl rfl (by rw [hi]; exact ns_in96 (m := 0) (j := 0) hz0 (by omega)) dX1_add_31 (fun H locs hP hD hS => ?_)
        have hP : va_P D vwCl (wC ad ca sd tc sc tr st (nI zz) T Wt O SA KA (vp_updL R1 (Int32.toNatClampNeg (((nI zz) * (4 : Int32)) + i)) z2) Ln Ky Ch X) H := hP
        have hD : va_D A (wC ad ca sd tc sc tr st (nI zz) T Wt O SA KA (vp_updL R1 (Int32.toNatClampNeg (((nI zz) * (4 : Int32)) + i)) z2) Ln Ky Ch X) := hD
        refine lv_lload hx hb dX1_add_32 (lv_at hl 1 rfl) ?_
        refine lv_ldc2 (v := -7046029254386353131) hx hb hown (hts (.constantLong RX1 40 (-7046029254386353131)) (by decide +kernel)) dX1_add_34 ?_
        refine lv_ladd hx hb dX1_add_37 ?_
        refine lv_aload_n hx hb dX1_add_38 rfl (lv_at hl 4 rfl) ?_
        refine lv_iload hx hb dX1_add_39 (lv_at hl 0 rfl) ?_
        refine va_lald hx hb hK.1 hP 10 8 rfl rfl (by rw [hi]; exact vp_in_nI (by omega) (by decide)) dX1_add_41 ?_
        refine lv_lxor hx hb dX1_add_42 ?_
        refine nk_SNL (As := [.long ((y1 + (-7046029254386353131 : Int64)) ^^^ (Ch (Int32.toNatClampNeg i)))]) (rest := []) ⟨hx, hb, hml, hown, hts⟩ (mX3_mix l ((y1 + (-7046029254386353131 : Int64)) ^^^ (Ch (Int32.toNatClampNeg i)))) ⟨va_cnB 1 hts gX1_add_X3_mix_n42 rfl rfl rfl hK.2.2.1 (hts (.initialized RX3) (by decide +kernel)) (by decide +kernel) ⟨Nat.le_of_ble_eq_true rfl, Nat.le_of_ble_eq_true rfl⟩, hts (.static yX3_mix) (by decide +kernel), trivial⟩ rfl hl.1 rfl (Nat.le_of_ble_eq_true rfl) dX1_add_43 ⟨Nat.le_of_ble_eq_true rfl, Nat.le_of_ble_eq_true rfl⟩ (fun r3 hr3 => ?_)
        subst hr3
        refine lv_topl (fun z4 ez4 => ?_)
        refine lv_lstore (lv' := [(4, .long z4), (6, .int i), (3, .int (nI zz)), (0, .ref (ad 2)), (1, .ref (ad 10)), (2, .int (nI nn))]) hx hb dX1_add_46 hl (by decide) rfl (fun ls hl => ?_)
        obtain ⟨i5, ei5⟩ : ∃ y : Int32, y = i + 1 := ⟨_, rfl⟩
        refine lv_iinc (v := i5) (lv' := [(6, .int i5), (4, .long z4), (3, .int (nI zz)), (0, .ref (ad 2)), (1, .ref (ad 10)), (2, .int (nI nn))]) hx hb dX1_add_48 hl (k := 1) rfl (by rw [ei5]; rfl) (by decide) rfl (fun ls hl => ?_)
        refine lv_goto (tgt := 11) hx hb dX1_add_51 (by decide) ?_
        exact ih11 i5 (vp_updL R1 (Int32.toNatClampNeg (((nI zz) * (4 : Int32)) + i)) z2) z4 _ _ _ (Nat.le_of_succ_le hk) (ns_step hi hk ei5) (by subst hi; subst ez2; subst ez4; rw [fAddL_s] at ht; exact ht) hP hD hS (lv_sub hl [0, 1, 2, 3, 4, 5] rfl)
  exact lp11 nn (0 : Int32) R (0 : Int64) _ _ _ (Nat.le_refl nn) (by rw [Nat.sub_self]; rfl) rfl hP hD hS (lv_sub hl [0, 1, 2, 3, 4, 5] rfl)

set_option maxHeartbeats 800000 in
set_option maxRecDepth 100000 in
theorem mX1_enter_C (l : Launch) (D : va_G) (ad : Nat → Nat) (ca : Nat → ClassId) (sd : Int64) (tc : Int32) (sc : Int32) (tr : Int32) (st : Int32) (T : Nat → Int64) (Wt : Nat → Int64) (O : Nat → Int32) (SA : Nat → Option Nat) (KA : Nat → Option Nat) (R : Nat → Int64) (Ln : Nat → Int32) (Ky : Nat → Int64) (Ch : Nat → Int64) (X : va_W) (zz nn : Nat) (hz0 : zz ≤ 24) (hn0 : nn ≤ 4) : nkMI l yX1_enter wsX1_enter ({ frames := 2, cells := 0, slots := 0, locals := 49 }) D (tC ca) [.ref (ad 2), .ref (ad 10), .int (nI nn)] (wC ad ca sd tc sc tr st (nI zz) T Wt O SA KA R Ln Ky Ch X) (fun u : sPth => wC ad ca sd tc sc tr st u.2.2.2 T Wt O SA KA u.1 u.2.1 u.2.2.1 Ch X) (fun r u => fEnt Ch R Ln Ky zz nn = (r, u)) 0 0 := by
  refine nk_ofM (Qf := fun A => va_Qi (fun r u => fEnt Ch R Ln Ky zz nn = (r, u)) (nkB D A (fun u : sPth => wC ad ca sd tc sc tr st u.2.2.2 T Wt O SA KA u.1 u.2.1 u.2.2.1 Ch X)) A) (cc := cX1_enter) (maxL := 4) (ret := (some .int)) (by decide) rfl (Nat.le_of_ble_eq_true rfl) ?_
  intro p e s m below meth c A hx hb hr hml hts hown hlocks hin hK hP hD hA hS ls hl
  replace hown : s.vm.findClass RX1 = some m.cls := hown
  replace hl : lv_has ls 4 [(0, .ref (ad 2)), (1, .ref (ad 10)), (2, .int (nI nn))] := hl
  have hP : va_P D vwCl (wC ad ca sd tc sc tr st (nI zz) T Wt O SA KA R Ln Ky Ch X) s.heap := hP
  have iX1 : ∀ w ∈ u_ws RX1 TX1 5, w ∈ wsX1_enter := by decide +kernel
  refine lv_iconst (v := 0) hx hb dX1_enter_0 (by decide) ?_
  refine lv_istore_n (lv' := [(3, .int (0 : Int32)), (0, .ref (ad 2)), (1, .ref (ad 10)), (2, .int (nI nn))]) hx hb dX1_enter_1 rfl hl (by decide) rfl (fun ls hl => ?_)
  have lp2 : ∀ (k : Nat) (i : Int32) (H : Heap) (locs : List Loc) (ls : Array Slot), k ≤ zz → i = nI (zz - k) → fEntL Ch R Ln Ky zz nn k = fEnt Ch R Ln Ky zz nn → va_P D vwCl (wC ad ca sd tc sc tr st (nI zz) T Wt O SA KA R Ln Ky Ch X) H → va_D A (wC ad ca sd tc sc tr st (nI zz) T Wt O SA KA R Ln Ky Ch X) → va_S A s.heap H locs → lv_has ls 4 [(3, .int i), (0, .ref (ad 2)), (1, .ref (ad 10)), (2, .int (nI nn))] → W p l e ({ frames := 2, cells := 0, slots := 0, locals := 49 } : Room) s m ([.ref (ad 2), .ref (ad 10), .int (nI nn)] : List Value).toArray below meth c H locs 0 0 (MQ below (va_Qi (fun r u => fEnt Ch R Ln Ky zz nn = (r, u)) (nkB D A (fun u : sPth => wC ad ca sd tc sc tr st u.2.2.2 T Wt O SA KA u.1 u.2.1 u.2.2.1 Ch X)) A) ([.ref (ad 2), .ref (ad 10), .int (nI nn)] : List Value).toArray s 0 0 A) (F0 m 2 ls []) := by
    intro k
    induction k with
    | zero =>
      intro i H locs ls hk hi ht hP hD hS hl
      refine lv_iload_n hx hb dX1_enter_2 rfl (lv_at hl 0 rfl) ?_
      refine lv_aload_n hx hb dX1_enter_3 rfl (lv_at hl 1 rfl) ?_
      refine va_get (D := D) (ci := 1) (v := .int (nI zz)) (C := RX1) (T := TX1) (N := 5) hx hb hts iX1 hown hK.1 hP 2 rfl rfl 4 (by decide) (hts (.fieldLink RX1 25 "NamedStreams$Paths" "size" "I") (by decide +kernel)) (fun _ h9 => h9) rfl dX1_enter_4 ?_
      refine lv_icmp_ge (tgt := 28) hx hb dX1_enter_7 (by decide) (fun c7 => ?_) (fun c7 => ?_)
      · skip
        refine lv_aload_n hx hb dX1_enter_28 rfl (lv_at hl 1 rfl) ?_
        refine va_get (D := D) (ci := 1) (v := .int (nI zz)) (C := RX1) (T := TX1) (N := 5) hx hb hts iX1 hown hK.1 hP 2 rfl rfl 4 (by decide) (hts (.fieldLink RX1 25 "NamedStreams$Paths" "size" "I") (by decide +kernel)) (fun _ h9 => h9) rfl dX1_enter_29 ?_
        refine lv_bipush (v := 24) hx hb dX1_enter_32 (by decide) ?_
        refine lv_icmp_lt (tgt := 42) hx hb dX1_enter_34 (by decide) (fun c34 => ?_) (fun c34 => ?_)
        · skip
          refine lv_aload_n hx hb dX1_enter_42 rfl (lv_at hl 1 rfl) ?_
          refine lv_aload_n hx hb dX1_enter_43 rfl (lv_at hl 2 rfl) ?_
          refine lv_iload_n hx hb dX1_enter_44 rfl (lv_at hl 3 rfl) ?_
          refine nk_VI (As := [.ref (ad 10), .int (nI nn)]) (rest := []) ⟨hx, hb, hml, hown, hts⟩ (mX1_add_C l D ad ca sd tc sc tr st T Wt O SA KA R Ln Ky Ch X zz nn (ns_lt_of c34 rfl (by omega) (by decide)) hn0) (cwV 2 hts gX1_enter_X1_add rfl rfl rfl (by decide +kernel) ⟨Nat.le_of_ble_eq_true rfl, Nat.le_of_ble_eq_true rfl⟩) hK hP hD hS hA 2 1 rfl rfl rfl rfl hl.1 rfl (Nat.le_of_ble_eq_true rfl) dX1_enter_45 ⟨Nat.le_of_ble_eq_true rfl, Nat.le_of_ble_eq_true rfl⟩ (fun r1 ur1 H locs hr1 hP hD hS => ?_)
          obtain ⟨rfl, rfl⟩ : r1 = (fAdd Ch R Ln Ky zz nn).1 ∧ ur1 = (fAdd Ch R Ln Ky zz nn).2 := by rw [hr1]; exact ⟨rfl, rfl⟩
          have hP : va_P D vwCl (wC ad ca sd tc sc tr st ((fAdd Ch R Ln Ky zz nn).2.2.2.2) T Wt O SA KA ((fAdd Ch R Ln Ky zz nn).2.1) ((fAdd Ch R Ln Ky zz nn).2.2.1) ((fAdd Ch R Ln Ky zz nn).2.2.2.1) Ch X) H := hP
          have hD : va_D A (wC ad ca sd tc sc tr st ((fAdd Ch R Ln Ky zz nn).2.2.2.2) T Wt O SA KA ((fAdd Ch R Ln Ky zz nn).2.1) ((fAdd Ch R Ln Ky zz nn).2.2.1) ((fAdd Ch R Ln Ky zz nn).2.2.2.1) Ch X) := hD
          exact nk_retI (g := _) ((fAdd Ch R Ln Ky zz nn).2.1, (fAdd Ch R Ln Ky zz nn).2.2.1, (fAdd Ch R Ln Ky zz nn).2.2.2.1, (fAdd Ch R Ln Ky zz nn).2.2.2.2) hx hb hr hlocks hP hD hS dX1_enter_48 (by rw [← ht]; exact (if_pos c34))
        · skip
          refine lv_bipush (v := -2) hx hb dX1_enter_37 (by decide) ?_
          refine lv_goto (tgt := 48) hx hb dX1_enter_39 (by decide) ?_
          exact nk_retI (g := _) (R, Ln, Ky, (nI zz)) hx hb hr hlocks hP hD hS dX1_enter_48 (by rw [← ht]; exact (if_neg c34))
      · skip
        exact absurd (by rw [hi]; exact nI_le (by omega) (by omega)) c7
    | succ k ih2 =>
      intro i H locs ls hk hi ht hP hD hS hl
      refine lv_iload_n hx hb dX1_enter_2 rfl (lv_at hl 0 rfl) ?_
      refine lv_aload_n hx hb dX1_enter_3 rfl (lv_at hl 1 rfl) ?_
      refine va_get (D := D) (ci := 1) (v := .int (nI zz)) (C := RX1) (T := TX1) (N := 5) hx hb hts iX1 hown hK.1 hP 2 rfl rfl 4 (by decide) (hts (.fieldLink RX1 25 "NamedStreams$Paths" "size" "I") (by decide +kernel)) (fun _ h9 => h9) rfl dX1_enter_4 ?_
      refine lv_icmp_ge (tgt := 28) hx hb dX1_enter_7 (by decide) (fun c7 => ?_) (fun c7 => ?_)
      · skip
        exact absurd c7 (Int32.not_le.mpr (by rw [hi]; exact nI_lt (by omega) (by omega)))
      · skip
        subst hi
        refine lv_aload_n hx hb dX1_enter_10 rfl (lv_at hl 1 rfl) ?_
        refine lv_iload_n hx hb dX1_enter_11 rfl (lv_at hl 0 rfl) ?_
        refine lv_aload_n hx hb dX1_enter_12 rfl (lv_at hl 2 rfl) ?_
        refine lv_iload_n hx hb dX1_enter_13 rfl (lv_at hl 3 rfl) ?_
        refine nk_VRI (As := [.int (nI (zz - (k + 1))), .ref (ad 10), .int (nI nn)]) (rest := []) ⟨hx, hb, hml, hown, hts⟩ (mX1_isLike_C l D ad ca sd tc sc tr st (nI zz) T Wt O SA KA R Ln Ky Ch X (zz - (k + 1)) nn (by omega) hn0) (cwV 3 hts gX1_enter_X1_isLike rfl rfl rfl (by decide +kernel) ⟨Nat.le_of_ble_eq_true rfl, Nat.le_of_ble_eq_true rfl⟩) hK hP 2 1 rfl rfl rfl rfl hl.1 rfl (Nat.le_of_ble_eq_true rfl) dX1_enter_14 ⟨Nat.le_of_ble_eq_true rfl, Nat.le_of_ble_eq_true rfl⟩ (fun r2 hr2 => ?_)
        subst hr2
        refine lv_if_eq (tgt := 22) hx hb dX1_enter_17 (by decide) (fun c17 => ?_) (fun c17 => ?_)
        · skip
          obtain ⟨i3, ei3⟩ : ∃ y : Int32, y = (nI (zz - (k + 1))) + 1 := ⟨_, rfl⟩
          refine lv_iinc (v := i3) (lv' := [(3, .int i3), (0, .ref (ad 2)), (1, .ref (ad 10)), (2, .int (nI nn))]) hx hb dX1_enter_22 hl (k := 0) rfl (by rw [ei3]; rfl) (by decide) rfl (fun ls hl => ?_)
          refine lv_goto (tgt := 2) hx hb dX1_enter_25 (by decide) ?_
          exact ih2 i3 _ _ _ (Nat.le_of_succ_le hk) (ns_step rfl hk ei3) (by rw [← ht, fEntL, if_pos c17]) hP hD hS (lv_sub hl [0, 1, 2, 3] rfl)
        · skip
          refine lv_iload_n hx hb dX1_enter_20 rfl (lv_at hl 0 rfl) ?_
          exact nk_retI (g := _) (R, Ln, Ky, (nI zz)) hx hb hr hlocks hP hD hS dX1_enter_21 (by rw [← ht, fEntL, if_neg c17])
  exact lp2 zz (0 : Int32) _ _ _ (Nat.le_refl zz) (by rw [Nat.sub_self]; rfl) rfl hP hD hS (lv_sub hl [0, 1, 2, 3] rfl)

set_option maxHeartbeats 800000 in
set_option maxRecDepth 100000 in
theorem mX1_enterChild (l : Launch) (D : va_G) (ad : Nat → Nat) (ca : Nat → ClassId) (sd : Int64) (tc : Int32) (sc : Int32) (tr : Int32) (st : Int32) (T : Nat → Int64) (Wt : Nat → Int64) (O : Nat → Int32) (SA : Nat → Option Nat) (KA : Nat → Option Nat) (R : Nat → Int64) (Ln : Nat → Int32) (Ky : Nat → Int64) (Ch : Nat → Int64) (X : va_W) (zz pp ll : Nat) (v0 : Int64) (hz0 : zz ≤ 24) (hp0 : pp < zz) (hl0 : Ln (Int32.toNatClampNeg (nI pp)) = nI ll) (hl1 : ll ≤ 4) : nkMI l yX1_enterChild wsX1_enterChild ({ frames := 3, cells := 0, slots := 0, locals := 72 }) D (tC ca) [.ref (ad 2), .int (nI pp), .long v0] (wC ad ca sd tc sc tr st (nI zz) T Wt O SA KA R Ln Ky Ch X) (fun u : (Nat → Int64) × sPth => wC ad ca sd tc sc tr st u.2.2.2.2 T Wt O SA KA u.2.1 u.2.2.1 u.2.2.2.1 u.1 X) (fun r u => fEntC R Ch Ln Ky zz (nI pp) ll v0 = (r, u)) 0 0 := by
  refine nk_ofM (Qf := fun A => va_Qi (fun r u => fEntC R Ch Ln Ky zz (nI pp) ll v0 = (r, u)) (nkB D A (fun u : (Nat → Int64) × sPth => wC ad ca sd tc sc tr st u.2.2.2.2 T Wt O SA KA u.2.1 u.2.2.1 u.2.2.2.1 u.1 X)) A) (cc := cX1_enterChild) (maxL := 6) (ret := (some .int)) (by decide) rfl (Nat.le_of_ble_eq_true rfl) ?_
  intro p e s m below meth c A hx hb hr hml hts hown hlocks hin hK hP hD hA hS ls hl
  replace hown : s.vm.findClass RX1 = some m.cls := hown
  replace hl : lv_has ls 6 [(0, .ref (ad 2)), (1, .int (nI pp)), (2, .long v0)] := hl
  have hP : va_P D vwCl (wC ad ca sd tc sc tr st (nI zz) T Wt O SA KA R Ln Ky Ch X) s.heap := hP
  have iX1 : ∀ w ∈ u_ws RX1 TX1 5, w ∈ wsX1_enterChild := by decide +kernel
  refine lv_aload_n hx hb dX1_enterChild_0 rfl (lv_at hl 0 rfl) ?_
  refine va_get (D := D) (ci := 1) (v := .ref (ad 8)) (C := RX1) (T := TX1) (N := 5) hx hb hts iX1 hown hK.1 hP 2 rfl rfl 1 (by decide) (hts (.fieldLink RX1 15 "NamedStreams$Paths" "lengths" "[I") (by decide +kernel)) (fun _ h9 => h9) rfl dX1_enterChild_1 ?_
  refine lv_iload_n hx hb dX1_enterChild_4 rfl (lv_at hl 1 rfl) ?_
  refine va_iald hx hb hK.1 hP 8 6 rfl rfl (vp_in_nI (show pp < 24 by omega) (by decide)) dX1_enterChild_5 ?_
  refine lv_topi (fun z1 ez1 => ?_)
  refine lv_istore (lv' := [(4, .int z1), (0, .ref (ad 2)), (1, .int (nI pp)), (2, .long v0)]) hx hb dX1_enterChild_6 hl (by decide) rfl (fun ls hl => ?_)
  obtain rfl : z1 = nI ll := ez1.trans hl0
  have hl4 : ll ≤ 4 := hl1
  refine lv_iload hx hb dX1_enterChild_8 (lv_at hl 0 rfl) ?_
  refine lv_iconst (v := 4) hx hb dX1_enterChild_10 (by decide) ?_
  refine lv_icmp_lt (tgt := 17) hx hb dX1_enterChild_11 (by decide) (fun c11 => ?_) (fun c11 => ?_)
  · skip
    refine lv_iconst (v := 0) hx hb dX1_enterChild_17 (by decide) ?_
    refine lv_istore (lv' := [(5, .int (0 : Int32)), (4, .int (nI ll)), (0, .ref (ad 2)), (1, .int (nI pp)), (2, .long v0)]) hx hb dX1_enterChild_18 hl (by decide) rfl (fun ls hl => ?_)
    have lp20 : ∀ (k : Nat) (i : Int32) (Ch1 : Nat → Int64) (H : Heap) (locs : List Loc) (ls : Array Slot), k ≤ ll → i = nI (ll - k) → fCopy R (nI pp) ll k Ch1 = fCopy R (nI pp) ll ll Ch → va_P D vwCl (wC ad ca sd tc sc tr st (nI zz) T Wt O SA KA R Ln Ky Ch1 X) H → va_D A (wC ad ca sd tc sc tr st (nI zz) T Wt O SA KA R Ln Ky Ch1 X) → va_S A s.heap H locs → lv_has ls 6 [(5, .int i), (4, .int (nI ll)), (0, .ref (ad 2)), (1, .int (nI pp)), (2, .long v0)] → W p l e ({ frames := 3, cells := 0, slots := 0, locals := 72 } : Room) s m ([.ref (ad 2), .int (nI pp), .long v0] : List Value).toArray below meth c H locs 0 0 (MQ below (va_Qi (fun r u => fEntC R Ch Ln Ky zz (nI pp) ll v0 = (r, u)) (nkB D A (fun u : (Nat → Int64) × sPth => wC ad ca sd tc sc tr st u.2.2.2.2 T Wt O SA KA u.2.1 u.2.2.1 u.2.2.2.1 u.1 X)) A) ([.ref (ad 2), .int (nI pp), .long v0] : List Value).toArray s 0 0 A) (F0 m 20 ls []) := by
      intro k
      induction k with
      | zero =>
        intro i Ch1 H locs ls hk hi ht hP hD hS hl
        refine lv_iload hx hb dX1_enterChild_20 (lv_at hl 0 rfl) ?_
        refine lv_iload hx hb dX1_enterChild_22 (lv_at hl 1 rfl) ?_
        refine lv_icmp_ge (tgt := 51) hx hb dX1_enterChild_24 (by decide) (fun c24 => ?_) (fun c24 => ?_)
        · skip
          refine lv_aload_n hx hb dX1_enterChild_51 rfl (lv_at hl 2 rfl) ?_
          refine va_get (D := D) (ci := 1) (v := .ref (ad 10)) (C := RX1) (T := TX1) (N := 5) hx hb hts iX1 hown hK.1 hP 2 rfl rfl 3 (by decide) (hts (.fieldLink RX1 22 "NamedStreams$Paths" "child" "[J") (by decide +kernel)) (fun _ h9 => h9) rfl dX1_enterChild_52 ?_
          refine lv_iload hx hb dX1_enterChild_55 (lv_at hl 1 rfl) ?_
          refine lv_lload_n hx hb dX1_enterChild_57 rfl (lv_at hl 4 rfl) ?_
          refine va_last hx hb hK.1 hP hD hS 10 8 rfl rfl (vp_in_nI (ns_lt_of c11 rfl (by omega) (by decide)) (by decide)) dX1_enterChild_58 (fun H locs hP hD hS => ?_)
          have hP : va_P D vwCl (wC ad ca sd tc sc tr st (nI zz) T Wt O SA KA R Ln Ky (vp_updL Ch1 (Int32.toNatClampNeg (nI ll)) v0) X) H := hP
          have hD : va_D A (wC ad ca sd tc sc tr st (nI zz) T Wt O SA KA R Ln Ky (vp_updL Ch1 (Int32.toNatClampNeg (nI ll)) v0) X) := hD
          have hCh : vp_updL Ch1 (Int32.toNatClampNeg (nI ll)) v0 = fChild R Ch (nI pp) ll v0 := by have ht2 : Ch1 = fCopy R (nI pp) ll ll Ch := ht; rw [ht2]; rfl
          rw [hCh] at hP hD
          refine lv_aload_n hx hb dX1_enterChild_59 rfl (lv_at hl 2 rfl) ?_
          refine lv_aload_n hx hb dX1_enterChild_60 rfl (lv_at hl 2 rfl) ?_
          refine va_get (D := D) (ci := 1) (v := .ref (ad 10)) (C := RX1) (T := TX1) (N := 5) hx hb hts iX1 hown hK.1 hP 2 rfl rfl 3 (by decide) (hts (.fieldLink RX1 22 "NamedStreams$Paths" "child" "[J") (by decide +kernel)) (fun _ h9 => h9) rfl dX1_enterChild_61 ?_
          refine lv_iload hx hb dX1_enterChild_64 (lv_at hl 1 rfl) ?_
          refine lv_iconst (v := 1) hx hb dX1_enterChild_66 (by decide) ?_
          refine lv_iadd hx hb dX1_enterChild_67 ?_
          refine W.eq (g2 := F0 m 68 ls [.int (nI (ll + 1)), .ref (ad 10), .ref (ad 2)]) (by rw [nI_1]) ?_
          refine nk_VI (As := [.ref (ad 10), .int (nI (ll + 1))]) (rest := []) ⟨hx, hb, hml, hown, hts⟩ (mX1_enter_C l D ad ca sd tc sc tr st T Wt O SA KA R Ln Ky (fChild R Ch (nI pp) ll v0) X zz (ll + 1) hz0 (by have := ns_lt_of (n := 4) c11 rfl (by omega) (by decide); omega)) (cwV 2 hts gX1_enterChild_X1_enter rfl rfl rfl (by decide +kernel) ⟨Nat.le_of_ble_eq_true rfl, Nat.le_of_ble_eq_true rfl⟩) hK hP hD hS hA 2 1 rfl rfl rfl rfl hl.1 rfl (Nat.le_of_ble_eq_true rfl) dX1_enterChild_68 ⟨Nat.le_of_ble_eq_true rfl, Nat.le_of_ble_eq_true rfl⟩ (fun r2 ur2 H locs hr2 hP hD hS => ?_)
          obtain ⟨rfl, rfl⟩ : r2 = (fEnt (fChild R Ch (nI pp) ll v0) R Ln Ky zz (ll + 1)).1 ∧ ur2 = (fEnt (fChild R Ch (nI pp) ll v0) R Ln Ky zz (ll + 1)).2 := by rw [hr2]; exact ⟨rfl, rfl⟩
          have hP : va_P D vwCl (wC ad ca sd tc sc tr st ((fEnt (fChild R Ch (nI pp) ll v0) R Ln Ky zz (ll + 1)).2.2.2.2) T Wt O SA KA ((fEnt (fChild R Ch (nI pp) ll v0) R Ln Ky zz (ll + 1)).2.1) ((fEnt (fChild R Ch (nI pp) ll v0) R Ln Ky zz (ll + 1)).2.2.1) ((fEnt (fChild R Ch (nI pp) ll v0) R Ln Ky zz (ll + 1)).2.2.2.1) (fChild R Ch (nI pp) ll v0) X) H := hP
          have hD : va_D A (wC ad ca sd tc sc tr st ((fEnt (fChild R Ch (nI pp) ll v0) R Ln Ky zz (ll + 1)).2.2.2.2) T Wt O SA KA ((fEnt (fChild R Ch (nI pp) ll v0) R Ln Ky zz (ll + 1)).2.1) ((fEnt (fChild R Ch (nI pp) ll v0) R Ln Ky zz (ll + 1)).2.2.1) ((fEnt (fChild R Ch (nI pp) ll v0) R Ln Ky zz (ll + 1)).2.2.2.1) (fChild R Ch (nI pp) ll v0) X) := hD
          exact nk_retI (g := _) ((fChild R Ch (nI pp) ll v0), (fEnt (fChild R Ch (nI pp) ll v0) R Ln Ky zz (ll + 1)).2.1, (fEnt (fChild R Ch (nI pp) ll v0) R Ln Ky zz (ll + 1)).2.2.1, (fEnt (fChild R Ch (nI pp) ll v0) R Ln Ky zz (ll + 1)).2.2.2.1, (fEnt (fChild R Ch (nI pp) ll v0) R Ln Ky zz (ll + 1)).2.2.2.2) hx hb hr hlocks hP hD hS dX1_enterChild_71 (if_pos c11)
        · skip
          exact absurd (by rw [hi]; exact nI_le (by omega) (by omega)) c24
      | succ k ih20 =>
        intro i Ch1 H locs ls hk hi ht hP hD hS hl
        refine lv_iload hx hb dX1_enterChild_20 (lv_at hl 0 rfl) ?_
        refine lv_iload hx hb dX1_enterChild_22 (lv_at hl 1 rfl) ?_
        refine lv_icmp_ge (tgt := 51) hx hb dX1_enterChild_24 (by decide) (fun c24 => ?_) (fun c24 => ?_)
        · skip
          exact absurd c24 (Int32.not_le.mpr (by rw [hi]; exact nI_lt (by omega) (by omega)))
        · skip
          refine lv_aload_n hx hb dX1_enterChild_27 rfl (lv_at hl 2 rfl) ?_
          refine va_get (D := D) (ci := 1) (v := .ref (ad 10)) (C := RX1) (T := TX1) (N := 5) hx hb hts iX1 hown hK.1 hP 2 rfl rfl 3 (by decide) (hts (.fieldLink RX1 22 "NamedStreams$Paths" "child" "[J") (by decide +kernel)) (fun _ h9 => h9) rfl dX1_enterChild_28 ?_
          refine lv_iload hx hb dX1_enterChild_31 (lv_at hl 0 rfl) ?_
          refine lv_aload_n hx hb dX1_enterChild_33 rfl (lv_at hl 2 rfl) ?_
          refine va_get (D := D) (ci := 1) (v := .ref (ad 7)) (C := RX1) (T := TX1) (N := 5) hx hb hts iX1 hown hK.1 hP 2 rfl rfl 0 (by decide) (hts (.fieldLink RX1 9 "NamedStreams$Paths" "rows" "[J") (by decide +kernel)) (fun _ h9 => h9) rfl dX1_enterChild_34 ?_
          refine lv_iload_n hx hb dX1_enterChild_37 rfl (lv_at hl 3 rfl) ?_
          refine lv_iconst (v := 4) hx hb dX1_enterChild_38 (by decide) ?_
          refine lv_imul hx hb dX1_enterChild_39 ?_
          refine lv_iload hx hb dX1_enterChild_40 (lv_at hl 0 rfl) ?_
          refine lv_iadd hx hb dX1_enterChild_42 ?_
          refine va_lald hx hb hK.1 hP 7 5 rfl rfl (by rw [hi]; exact ns_in96 (m := 0) (j := 0) (show pp < 24 by omega) (by omega)) dX1_enterChild_43 ?_
          refine lv_topl (fun z3 ez3 => ?_)
          refine va_last hx hb hK.1 hP hD hS 10 8 rfl rfl (by rw [hi]; exact vp_in_nI (show ll - (k + 1) < 4 by omega) (by decide)) dX1_enterChild_44 (fun H locs hP hD hS => ?_)
          have hP : va_P D vwCl (wC ad ca sd tc sc tr st (nI zz) T Wt O SA KA R Ln Ky (vp_updL Ch1 (Int32.toNatClampNeg i) z3) X) H := hP
          have hD : va_D A (wC ad ca sd tc sc tr st (nI zz) T Wt O SA KA R Ln Ky (vp_updL Ch1 (Int32.toNatClampNeg i) z3) X) := hD
          obtain ⟨i4, ei4⟩ : ∃ y : Int32, y = i + 1 := ⟨_, rfl⟩
          refine lv_iinc (v := i4) (lv' := [(5, .int i4), (4, .int (nI ll)), (0, .ref (ad 2)), (1, .int (nI pp)), (2, .long v0)]) hx hb dX1_enterChild_45 hl (k := 0) rfl (by rw [ei4]; rfl) (by decide) rfl (fun ls hl => ?_)
          refine lv_goto (tgt := 20) hx hb dX1_enterChild_48 (by decide) ?_
          exact ih20 i4 (vp_updL Ch1 (Int32.toNatClampNeg i) z3) _ _ _ (Nat.le_of_succ_le hk) (ns_step hi hk ei4) (by subst hi; subst ez3; rw [fCopy] at ht; exact ht) hP hD hS (lv_sub hl [0, 1, 2, 3, 4] rfl)
    exact lp20 ll (0 : Int32) Ch _ _ _ (Nat.le_refl ll) (by rw [Nat.sub_self]; rfl) rfl hP hD hS (lv_sub hl [0, 1, 2, 3, 4] rfl)
  · skip
    refine lv_bipush (v := -2) hx hb dX1_enterChild_14 (by decide) ?_
    exact nk_retI (g := _) (Ch, R, Ln, Ky, (nI zz)) hx hb hr hlocks hP hD hS dX1_enterChild_16 (by exact (if_neg c11))

set_option maxHeartbeats 800000 in
set_option maxRecDepth 100000 in
theorem mX3_path (l : Launch) (D : va_G) (ad : Nat → Nat) (ca : Nat → ClassId) (sd : Int64) (sc : Int32) (tr : Int32) (st : Int32) (T : Nat → Int64) (Wt : Nat → Int64) (O : Nat → Int32) (SA : Nat → Option Nat) (KA : Nat → Option Nat) (R : Nat → Int64) (Ln : Nat → Int32) (Ky : Nat → Int64) (Ch : Nat → Int64) (X : va_W) (zz tt : Nat) (hz0 : zz ≤ 24) (ht0 : tt ≤ 4) : nkMI l yX3_path wsX3_path ({ frames := 3, cells := 0, slots := 0, locals := 72 }) D (tC ca) [.ref (ad 0)] (wC ad ca sd (nI tt) sc tr st (nI zz) T Wt O SA KA R Ln Ky Ch X) (fun u : Int32 × sPth => wC ad ca sd u.1 sc tr st u.2.2.2.2 T Wt O SA KA u.2.1 u.2.2.1 u.2.2.2.1 Ch X) (fun r u => fPath T R Ln Ky zz tt = (r, u)) 0 0 := by
  refine nk_ofM (Qf := fun A => va_Qi (fun r u => fPath T R Ln Ky zz tt = (r, u)) (nkB D A (fun u : Int32 × sPth => wC ad ca sd u.1 sc tr st u.2.2.2.2 T Wt O SA KA u.2.1 u.2.2.1 u.2.2.2.1 Ch X)) A) (cc := cX3_path) (maxL := 2) (ret := (some .int)) (by decide) rfl (Nat.le_of_ble_eq_true rfl) ?_
  intro p e s m below meth c A hx hb hr hml hts hown hlocks hin hK hP hD hA hS ls hl
  replace hown : s.vm.findClass RX3 = some m.cls := hown
  replace hl : lv_has ls 2 [(0, .ref (ad 0))] := hl
  have hP : va_P D vwCl (wC ad ca sd (nI tt) sc tr st (nI zz) T Wt O SA KA R Ln Ky Ch X) s.heap := hP
  have iX1 : ∀ w ∈ u_ws RX1 TX1 5, w ∈ wsX3_path := by decide +kernel
  have iX3 : ∀ w ∈ u_ws RX3 TX3 11, w ∈ wsX3_path := by decide +kernel
  refine lv_aload_n hx hb dX3_path_0 rfl (lv_at hl 0 rfl) ?_
  refine va_get (D := D) (ci := 3) (v := .int (nI tt)) (C := RX3) (T := TX3) (N := 11) hx hb hts iX3 hown hK.1 hP 0 rfl rfl 2 (by decide) (hts (.fieldLink RX3 13 "NamedStreams" "toldCount" "I") (by decide +kernel)) (fun _ h9 => h9) rfl dX3_path_1 ?_
  refine lv_if_ne (tgt := 9) hx hb dX3_path_4 (by decide) (fun c4 => ?_) (fun c4 => ?_)
  · skip
    refine lv_aload_n hx hb dX3_path_9 rfl (lv_at hl 0 rfl) ?_
    refine va_get (D := D) (ci := 3) (v := .ref (ad 2)) (C := RX3) (T := TX3) (N := 11) hx hb hts iX3 hown hK.1 hP 0 rfl rfl 3 (by decide) (hts (.fieldLink RX3 20 "NamedStreams" "paths" "LNamedStreams$Paths;") (by decide +kernel)) (fun _ h9 => h9) rfl dX3_path_10 ?_
    refine lv_aload_n hx hb dX3_path_13 rfl (lv_at hl 0 rfl) ?_
    refine va_get (D := D) (ci := 3) (v := .ref (ad 1)) (C := RX3) (T := TX3) (N := 11) hx hb hts iX3 hown hK.1 hP 0 rfl rfl 1 (by decide) (hts (.fieldLink RX3 9 "NamedStreams" "toldParts" "[J") (by decide +kernel)) (fun _ h9 => h9) rfl dX3_path_14 ?_
    refine lv_aload_n hx hb dX3_path_17 rfl (lv_at hl 0 rfl) ?_
    refine va_get (D := D) (ci := 3) (v := .int (nI tt)) (C := RX3) (T := TX3) (N := 11) hx hb hts iX3 hown hK.1 hP 0 rfl rfl 2 (by decide) (hts (.fieldLink RX3 13 "NamedStreams" "toldCount" "I") (by decide +kernel)) (fun _ h9 => h9) rfl dX3_path_18 ?_
    refine nk_VI (As := [.ref (ad 1), .int (nI tt)]) (rest := []) ⟨hx, hb, hml, hown, hts⟩ (mX1_enter_T l D ad ca sd (nI tt) sc tr st T Wt O SA KA R Ln Ky Ch X zz tt hz0 ht0) (cwV 2 hts gX3_path_X1_enter rfl rfl rfl (by decide +kernel) ⟨Nat.le_of_ble_eq_true rfl, Nat.le_of_ble_eq_true rfl⟩) hK hP hD hS hA 2 1 rfl rfl rfl rfl hl.1 rfl (Nat.le_of_ble_eq_true rfl) dX3_path_21 ⟨Nat.le_of_ble_eq_true rfl, Nat.le_of_ble_eq_true rfl⟩ (fun r1 ur1 H locs hr1 hP hD hS => ?_)
    obtain ⟨rfl, rfl⟩ : r1 = (fEnt T R Ln Ky zz tt).1 ∧ ur1 = (fEnt T R Ln Ky zz tt).2 := by rw [hr1]; exact ⟨rfl, rfl⟩
    have hP : va_P D vwCl (wC ad ca sd (nI tt) sc tr st ((fEnt T R Ln Ky zz tt).2.2.2.2) T Wt O SA KA ((fEnt T R Ln Ky zz tt).2.1) ((fEnt T R Ln Ky zz tt).2.2.1) ((fEnt T R Ln Ky zz tt).2.2.2.1) Ch X) H := hP
    have hD : va_D A (wC ad ca sd (nI tt) sc tr st ((fEnt T R Ln Ky zz tt).2.2.2.2) T Wt O SA KA ((fEnt T R Ln Ky zz tt).2.1) ((fEnt T R Ln Ky zz tt).2.2.1) ((fEnt T R Ln Ky zz tt).2.2.2.1) Ch X) := hD
    refine lv_topi (fun z2 ez2 => ?_)
    refine lv_istore_n (lv' := [(1, .int z2), (0, .ref (ad 0))]) hx hb dX3_path_24 rfl hl (by decide) rfl (fun ls hl => ?_)
    refine lv_iload_n hx hb dX3_path_25 rfl (lv_at hl 0 rfl) ?_
    refine lv_bipush (v := -2) hx hb dX3_path_26 (by decide) ?_
    refine lv_icmp_eq (tgt := 36) hx hb dX3_path_28 (by decide) (fun c28 => ?_) (fun c28 => ?_)
    · skip
      refine lv_iload_n hx hb dX3_path_36 rfl (lv_at hl 0 rfl) ?_
      exact nk_retI (g := _) ((nI tt), (fEnt T R Ln Ky zz tt).2.1, (fEnt T R Ln Ky zz tt).2.2.1, (fEnt T R Ln Ky zz tt).2.2.2.1, (fEnt T R Ln Ky zz tt).2.2.2.2) hx hb hr hlocks hP hD hS dX3_path_37 (by subst ez2; exact ((if_neg c4).trans (if_pos c28)))
    · skip
      refine lv_aload_n hx hb dX3_path_31 rfl (lv_at hl 1 rfl) ?_
      refine lv_iconst (v := 0) hx hb dX3_path_32 (by decide) ?_
      refine va_put (D := D) (ci := 3) (v := .int (0 : Int32)) (ty := .int) (C := RX3) (T := TX3) (N := 11) hx hb hts iX3 tyX3 tyX3_ok nmX3 hown hK.1 hP hD hS 0 rfl rfl 2 (by decide) (hts (.fieldLink RX3 13 "NamedStreams" "toldCount" "I") (by decide +kernel)) (fun _ h9 => h9) rfl (by decide +kernel) rfl rfl (Nat.le_of_ble_eq_true rfl) dX3_path_33 (fun H locs hP hD hS => ?_)
      have hP : va_P D vwCl (wC ad ca sd (0 : Int32) sc tr st ((fEnt T R Ln Ky zz tt).2.2.2.2) T Wt O SA KA ((fEnt T R Ln Ky zz tt).2.1) ((fEnt T R Ln Ky zz tt).2.2.1) ((fEnt T R Ln Ky zz tt).2.2.2.1) Ch X) H := hP
      have hD : va_D A (wC ad ca sd (0 : Int32) sc tr st ((fEnt T R Ln Ky zz tt).2.2.2.2) T Wt O SA KA ((fEnt T R Ln Ky zz tt).2.1) ((fEnt T R Ln Ky zz tt).2.2.1) ((fEnt T R Ln Ky zz tt).2.2.2.1) Ch X) := hD
      refine lv_iload_n hx hb dX3_path_36 rfl (lv_at hl 0 rfl) ?_
      exact nk_retI (g := _) ((0 : Int32), (fEnt T R Ln Ky zz tt).2.1, (fEnt T R Ln Ky zz tt).2.2.1, (fEnt T R Ln Ky zz tt).2.2.2.1, (fEnt T R Ln Ky zz tt).2.2.2.2) hx hb hr hlocks hP hD hS dX3_path_37 (by subst ez2; exact ((if_neg c4).trans (if_neg c28)))
  · skip
    refine lv_iconst (v := -1) hx hb dX3_path_7 (by decide) ?_
    exact nk_retI (g := _) ((nI tt), R, Ln, Ky, (nI zz)) hx hb hr hlocks hP hD hS dX3_path_8 (by exact (if_pos c4))
end
section
section NK4
variable {p : Program} {l : Launch} {e : Env} {R : Room} {s : State} {m : MethodId} {args : Array Value} {below : List Frame} {meth : Method} {c : Code} {H : Heap} {locs : List Loc} {cells slots : Nat} {Q : State → Prop}
variable {y : MethodName} {bytes cc : ByteArray} {maxL nL mc ms n index : Nat} {ws : List Cond} {rm : Room} {Ts : List Cond} {own : String} {b : Addr} {As rest st0 : List Value} {pc : Nat} {ls : Array Slot} {D : va_G} {tys : List (ClassId × FieldType)} {w : va_W} {S : Type} {g : S → va_W} {A0 : Nat → Prop} {H0 : Heap}
theorem nk_IV {post : S → Prop} (F : CallFix p m c cc nL s args Ts own) (hM : nkMV l y ws rm D tys (.ref b :: As) w g post mc ms) (cw : CallB R s args own index y bytes maxL none ws rm mc ms n ∧ y.name = "<init>" ∧ (Cond.instanceMethod y).before args s = true) (hK : nkK D tys s) (hP : va_P D vwCl w H) (hD : va_D A0 w) (hS : va_S A0 H0 H locs) (hA : ∀ q : Nat, H0.size ≤ q → A0 q) (hn : As.length = n) (hsize : ls.size = nL) (hst : st0 = As.reverse ++ .ref b :: rest) (hW : (rest.map fun v => v.category).sum ≤ 8) (hdg : decode cc pc = .ok (.invokespecial index, 3)) (hf : cells + mc ≤ R.cells ∧ slots + ms ≤ R.slots)
    (kk : ∀ (u : S) (H1 : Heap) (locs1 : List Loc), post u → va_P D vwCl (g u) H1 → va_D A0 (g u) → va_S A0 H0 H1 locs1 → W p l e R s m args below meth c H1 locs1 (cells + mc) (slots + ms) Q (F0 m (pc + 3) ls rest)) : W p l e R s m args below meth c H locs cells slots Q (F0 m pc ls st0) := by
  subst hst
  have hfree := nk_free hD hS hA
  exact va_callv (va_runI F (hM H.size) cw (nk_preM hK hP hD (.ref b :: As)) rfl hn hsize rfl (lv_room hW) hdg hf) hS (fun q _ h => hfree q h) hfree (fun u t H1 locs1 ht _ hw hB _ _ hS1 => kk u H1 locs1 hw (by rw [← ht]; exact hB.1) (hB.2.weaken (fun _ q _ h => hfree q.1 h)) hS1)
theorem nk_INV {host : String} {post : S → Prop} (F : CallFix p m c cc nL s args Ts own) (hM : nkMV l y ws rm D tys (.ref b :: As) w g post mc ms) (cw : va_CN R s args own index y host bytes maxL none ws rm mc ms n ∧ y.name = "<init>" ∧ (Cond.instanceMethod y).before args s = true) (hK : nkK D tys s) (hP : va_P D vwCl w H) (hD : va_D A0 w) (hS : va_S A0 H0 H locs) (hA : ∀ q : Nat, H0.size ≤ q → A0 q) (hn : As.length = n) (hsize : ls.size = nL) (hst : st0 = As.reverse ++ .ref b :: rest) (hW : (rest.map fun v => v.category).sum ≤ 8) (hdg : decode cc pc = .ok (.invokespecial index, 3)) (hf : cells + mc ≤ R.cells ∧ slots + ms ≤ R.slots)
    (kk : ∀ (u : S) (H1 : Heap) (locs1 : List Loc), post u → va_P D vwCl (g u) H1 → va_D A0 (g u) → va_S A0 H0 H1 locs1 → W p l e R s m args below meth c H1 locs1 (cells + mc) (slots + ms) Q (F0 m (pc + 3) ls rest)) : W p l e R s m args below meth c H locs cells slots Q (F0 m pc ls st0) := by
  subst hst
  have hfree := nk_free hD hS hA
  exact va_callv (va_runIN F (hM H.size) cw (nk_preM hK hP hD (.ref b :: As)) rfl hn hsize rfl (lv_room hW) hdg hf) hS (fun q _ h => hfree q h) hfree (fun u t H1 locs1 ht _ hw hB _ _ hS1 => kk u H1 locs1 hw (by rw [← ht]; exact hB.1) (hB.2.weaken (fun _ q _ h => hfree q.1 h)) hS1)
theorem nk_endQ {post : Option Nat → Prop} {r : Option Nat} {C : String} (hx : p.tables.exec = Jvm.exec) (hb : c.code = cc) (hr : meth.sig.returnType = some (.object C)) (hlocks : meth.locks = false) (hdg : decode cc pc = .ok (.areturn, 1)) (hw : post r) :
    W p l e R s m args below meth c s.heap [] cells slots (MQ below (va_Sq post) args s cells slots (fun _ => False)) (F0 m pc ls [va_rf r]) :=
  W.aret hx hb hr (Or.inl ⟨_, rfl⟩) (va_rf_or r) (fun t ht _ => ⟨r, rfl, hw, ht⟩) (fun _ h => absurd h List.not_mem_nil) hdg hlocks
end NK4
/-! streams and what is kept: one pool -/
abbrev eSt (rn : Int64) (po pl sp : Int32) : va_E := .inr (2, [.long rn, .int po, .int pl, .int sp])
abbrev eKp (ks kp kc : Int32) : va_E := .inr (0, [.int ks, .int kp, .int kc])
def fAt (sc : Int32) (SA : Nat → Option Nat) (i : Int32) : Option Nat := if i < 0 then none else if i < sc then SA i.toNatClampNeg else none
theorem ns_ne02 {f : Nat → va_E} {a b : Nat} {xs ys : List Value} (ha : f a = .inr (2, xs)) (hb : f b = .inr (0, ys)) : b ≠ a := by
  intro h
  rw [h, ha] at hb
  cases hb
def fNext (sd : Int64) (Ky : Nat → Int64) (n : Int64) (tr : Int32) (f : Nat → va_E) (a : Nat) (rn : Int64) (po pl sp : Int32) : Int64 × Int32 × (Nat → va_E) := if n < 0 then (-1, tr, f) else if pl = 2147483647 then (-1, tr, f) else if n = 0 then (-4, tr, f) else ((fSpan (fBase sd rn (Ky po.toNatClampNeg)) (fFirst pl) n tr).1, (fSpan (fBase sd rn (Ky po.toNatClampNeg)) (fFirst pl) n tr).2, va_up f a (eSt rn po (pl + 1) sp))
def fNPick (sd : Int64) (Ky Wt : Nat → Int64) (tr : Int32) (f : Nat → va_E) (a : Nat) (rn : Int64) (po pl sp : Int32) : Int32 × Int32 × (Nat → va_E) := if pl = 2147483647 then (-1, tr, f) else if (fPick (fBase sd rn (Ky po.toNatClampNeg)) (fFirst pl) Wt tr).1 = -4 then ((fPick (fBase sd rn (Ky po.toNatClampNeg)) (fFirst pl) Wt tr).1, (fPick (fBase sd rn (Ky po.toNatClampNeg)) (fFirst pl) Wt tr).2, f) else if (fPick (fBase sd rn (Ky po.toNatClampNeg)) (fFirst pl) Wt tr).1 = -5 then ((fPick (fBase sd rn (Ky po.toNatClampNeg)) (fFirst pl) Wt tr).1, (fPick (fBase sd rn (Ky po.toNatClampNeg)) (fFirst pl) Wt tr).2, f) else ((fPick (fBase sd rn (Ky po.toNatClampNeg)) (fFirst pl) Wt tr).1, (fPick (fBase sd rn (Ky po.toNatClampNeg)) (fFirst pl) Wt tr).2, va_up f a (eSt rn po (pl + 1) sp))
def fSkip (n : Int32) (f : Nat → va_E) (a : Nat) (rn : Int64) (po pl sp : Int32) : Int32 × (Nat → va_E) := if n < 0 then (-1, f) else if 1000000000 < n then (-1, f) else if pl ≤ 2147483647 - n then (pl + n, va_up f a (eSt rn po (pl + n) sp)) else (-1, f)
def fTold (x po pl sp : Int32) : Int32 := if x = 0 then po else if x = 1 then pl else if x = 2 then sp else -1
set_option maxHeartbeats 800000 in
set_option maxRecDepth 100000 in
theorem mX3_streamAt (l : Launch) (D : va_G) (ad : Nat → Nat) (ca : Nat → ClassId) (sd : Int64) (tc : Int32) (sc : Int32) (tr : Int32) (st : Int32) (pz : Int32) (T : Nat → Int64) (Wt : Nat → Int64) (O : Nat → Int32) (SA : Nat → Option Nat) (KA : Nat → Option Nat) (R : Nat → Int64) (Ln : Nat → Int32) (Ky : Nat → Int64) (Ch : Nat → Int64) (X : va_W) (i0 : Int32) (h8 : sc ≤ 8) : nkRQ l yX3_streamAt wsX3_streamAt ({ frames := 0, cells := 0, slots := 0, locals := 0 }) D (tC ca) [.ref (ad 0), .int i0] (wC ad ca sd tc sc tr st pz T Wt O SA KA R Ln Ky Ch X) (fun r => r = fAt sc SA i0) := by
  refine nk_ofR (cc := cX3_streamAt) (maxL := 2) (ret := (some (.object "NamedStreams$Stream"))) (by decide) rfl (Nat.le_of_ble_eq_true rfl) ?_
  intro p e s m below meth c hx hb hr hml hts hown hlocks hK hP ls hl
  replace hown : s.vm.findClass RX3 = some m.cls := hown
  replace hl : lv_has ls 2 [(0, .ref (ad 0)), (1, .int i0)] := hl
  have hP : va_P D vwCl (wC ad ca sd tc sc tr st pz T Wt O SA KA R Ln Ky Ch X) s.heap := hP
  have iX3 : ∀ w ∈ u_ws RX3 TX3 11, w ∈ wsX3_streamAt := by decide +kernel
  refine lv_iload_n hx hb dX3_streamAt_0 rfl (lv_at hl 1 rfl) ?_
  refine lv_if_lt (tgt := 12) hx hb dX3_streamAt_1 (by decide) (fun c1 => ?_) (fun c1 => ?_)
  · skip
    refine lv_null hx hb dX3_streamAt_12 ?_
    refine lv_goto (tgt := 22) hx hb dX3_streamAt_13 (by decide) ?_
    refine W.eq (g2 := F0 m 22 ls [va_rf none]) rfl ?_
    exact nk_endQ hx hb hr hlocks dX3_streamAt_22 (by exact (if_pos c1).symm)
  · skip
    refine lv_iload_n hx hb dX3_streamAt_4 rfl (lv_at hl 1 rfl) ?_
    refine lv_aload_n hx hb dX3_streamAt_5 rfl (lv_at hl 0 rfl) ?_
    refine va_get (D := D) (ci := 3) (v := .int sc) (C := RX3) (T := TX3) (N := 11) hx hb hts iX3 hown hK.1 hP 0 rfl rfl 7 (by decide) (hts (.fieldLink RX3 37 "NamedStreams" "streamCount" "I") (by decide +kernel)) (fun _ h9 => h9) rfl dX3_streamAt_6 ?_
    refine lv_icmp_lt (tgt := 16) hx hb dX3_streamAt_9 (by decide) (fun c9 => ?_) (fun c9 => ?_)
    · skip
      refine lv_aload_n hx hb dX3_streamAt_16 rfl (lv_at hl 0 rfl) ?_
      refine va_get (D := D) (ci := 3) (v := .ref (ad 5)) (C := RX3) (T := TX3) (N := 11) hx hb hts iX3 hown hK.1 hP 0 rfl rfl 6 (by decide) (hts (.fieldLink RX3 33 "NamedStreams" "streams" "[LNamedStreams$Stream;") (by decide +kernel)) (fun _ h9 => h9) rfl dX3_streamAt_17 ?_
      refine lv_iload_n hx hb dX3_streamAt_20 rfl (lv_at hl 1 rfl) ?_
      refine va_aldq hx hb hK.1 hP 5 3 rfl rfl (ns_in (ns_nn c1) (Int32.lt_of_lt_of_le c9 h8) (by decide)) dX3_streamAt_21 ?_
      refine W.eq (g2 := F0 m 22 ls [va_rf (SA (Int32.toNatClampNeg i0))]) rfl ?_
      exact nk_endQ hx hb hr hlocks dX3_streamAt_22 (by exact ((if_neg c1).trans (if_pos c9)).symm)
    · skip
      refine lv_null hx hb dX3_streamAt_12 ?_
      refine lv_goto (tgt := 22) hx hb dX3_streamAt_13 (by decide) ?_
      refine W.eq (g2 := F0 m 22 ls [va_rf none]) rfl ?_
      exact nk_endQ hx hb hr hlocks dX3_streamAt_22 (by exact ((if_neg c1).trans (if_neg c9)).symm)

set_option maxHeartbeats 800000 in
set_option maxRecDepth 100000 in
theorem mX3_next_N (l : Launch) (D : va_G) (ad : Nat → Nat) (ca : Nat → ClassId) (sd : Int64) (tc : Int32) (sc : Int32) (tr : Int32) (st : Int32) (pz : Int32) (T : Nat → Int64) (Wt : Nat → Int64) (O : Nat → Int32) (SA : Nat → Option Nat) (KA : Nat → Option Nat) (R : Nat → Int64) (Ln : Nat → Int32) (Ky : Nat → Int64) (Ch : Nat → Int64) (X : va_W) (L : List Nat) (f : Nat → va_E) (i0 : Int32) (n0 : Int64) (h8 : sc ≤ 8) (hAt : fAt sc SA i0 = none) : nkML l yX3_next wsX3_next ({ frames := 1, cells := 0, slots := 0, locals := 21 }) D (tC ca) [.ref (ad 0), .int i0, .long n0] (wC ad ca sd tc sc tr st pz T Wt O SA KA R Ln Ky Ch (X ++ va_pl L f)) (fun _ : Unit => wC ad ca sd tc sc tr st pz T Wt O SA KA R Ln Ky Ch (X ++ va_pl L f)) (fun r _ => r = -1) 0 0 := by
  refine nk_ofM (Qf := fun A => va_Ql (fun r _ => r = -1) (nkB D A (fun _ : Unit => wC ad ca sd tc sc tr st pz T Wt O SA KA R Ln Ky Ch (X ++ va_pl L f))) A) (cc := cX3_next) (maxL := 7) (ret := (some .long)) (by decide) rfl (Nat.le_of_ble_eq_true rfl) ?_
  intro p e s m below meth c A hx hb hr hml hts hown hlocks hin hK hP hD hA hS ls hl
  replace hown : s.vm.findClass RX3 = some m.cls := hown
  replace hl : lv_has ls 7 [(0, .ref (ad 0)), (1, .int i0), (2, .long n0)] := hl
  have hP : va_P D vwCl (wC ad ca sd tc sc tr st pz T Wt O SA KA R Ln Ky Ch (X ++ va_pl L f)) s.heap := hP
  have iX1 : ∀ w ∈ u_ws RX1 TX1 5, w ∈ wsX3_next := by decide +kernel
  have iX3 : ∀ w ∈ u_ws RX3 TX3 11, w ∈ wsX3_next := by decide +kernel
  have iX2 : ∀ w ∈ u_ws RX2 TX2 4, w ∈ wsX3_next := by decide +kernel
  refine lv_aload_n hx hb dX3_next_0 rfl (lv_at hl 0 rfl) ?_
  refine lv_iload_n hx hb dX3_next_1 rfl (lv_at hl 1 rfl) ?_
  refine nk_VRQ (As := [.int i0]) (rest := []) ⟨hx, hb, hml, hown, hts⟩ (mX3_streamAt l D ad ca sd tc sc tr st pz T Wt O SA KA R Ln Ky Ch (X ++ va_pl L f) i0 h8) (cwV 1 hts gX3_next_X3_streamAt rfl rfl rfl (by decide +kernel) ⟨Nat.le_of_ble_eq_true rfl, Nat.le_of_ble_eq_true rfl⟩) hK hP 0 3 rfl rfl rfl rfl hl.1 rfl (Nat.le_of_ble_eq_true rfl) dX3_next_2 ⟨Nat.le_of_ble_eq_true rfl, Nat.le_of_ble_eq_true rfl⟩ (fun r1 hr1 => ?_)
  subst hr1
  refine W.eq (g2 := F0 m 5 ls [.null]) (by rw [hAt]; rfl) ?_
  refine lv_astoreN (lv' := [(4, .null), (0, .ref (ad 0)), (1, .int i0), (2, .long n0)]) hx hb dX3_next_5 hl (by decide) rfl (fun ls hl => ?_)
  refine lv_lload_n hx hb dX3_next_7 rfl (lv_at hl 3 rfl) ?_
  refine lv_lconst (v := 0) hx hb dX3_next_8 (by decide) ?_
  refine W.lcmp hx hb dX3_next_9 ?_
  refine lv_if_lt (tgt := 28) hx hb dX3_next_10 (by decide) (fun c10 => ?_) (fun c10 => ?_)
  · skip
    have c10 : n0 < (0 : Int64) := (lg_cmp_lt _ _).mp c10
    refine lv_ldc2 (v := -1) hx hb hown (hts (.constantLong RX3 77 (-1)) (by decide +kernel)) dX3_next_28 ?_
    exact nk_retL (g := _) () hx hb hr hlocks hP hD hS dX3_next_31 rfl
  · skip
    have c10 : ¬ (n0 < (0 : Int64)) := fun h => c10 ((lg_cmp_lt _ _).mpr h)
    refine lv_aloadN hx hb dX3_next_13 (lv_at hl 0 rfl) ?_
    refine lv_ifnullN (tgt := 28) hx hb dX3_next_15 (by decide) ?_
    refine lv_ldc2 (v := -1) hx hb hown (hts (.constantLong RX3 77 (-1)) (by decide +kernel)) dX3_next_28 ?_
    exact nk_retL (g := _) () hx hb hr hlocks hP hD hS dX3_next_31 rfl

set_option maxHeartbeats 800000 in
set_option maxRecDepth 100000 in
theorem mX3_nextPick_N (l : Launch) (D : va_G) (ad : Nat → Nat) (ca : Nat → ClassId) (sd : Int64) (tc : Int32) (sc : Int32) (tr : Int32) (st : Int32) (pz : Int32) (T : Nat → Int64) (Wt : Nat → Int64) (O : Nat → Int32) (SA : Nat → Option Nat) (KA : Nat → Option Nat) (R : Nat → Int64) (Ln : Nat → Int32) (Ky : Nat → Int64) (Ch : Nat → Int64) (X : va_W) (L : List Nat) (f : Nat → va_E) (i0 : Int32)  (h8 : sc ≤ 8) (hAt : fAt sc SA i0 = none) : nkMI l yX3_nextPick wsX3_nextPick ({ frames := 1, cells := 0, slots := 0, locals := 21 }) D (tC ca) [.ref (ad 0), .int i0] (wC ad ca sd tc sc tr st pz T Wt O SA KA R Ln Ky Ch (X ++ va_pl L f)) (fun _ : Unit => wC ad ca sd tc sc tr st pz T Wt O SA KA R Ln Ky Ch (X ++ va_pl L f)) (fun r _ => r = -1) 0 0 := by
  refine nk_ofM (Qf := fun A => va_Qi (fun r _ => r = -1) (nkB D A (fun _ : Unit => wC ad ca sd tc sc tr st pz T Wt O SA KA R Ln Ky Ch (X ++ va_pl L f))) A) (cc := cX3_nextPick) (maxL := 4) (ret := (some .int)) (by decide) rfl (Nat.le_of_ble_eq_true rfl) ?_
  intro p e s m below meth c A hx hb hr hml hts hown hlocks hin hK hP hD hA hS ls hl
  replace hown : s.vm.findClass RX3 = some m.cls := hown
  replace hl : lv_has ls 4 [(0, .ref (ad 0)), (1, .int i0)] := hl
  have hP : va_P D vwCl (wC ad ca sd tc sc tr st pz T Wt O SA KA R Ln Ky Ch (X ++ va_pl L f)) s.heap := hP
  have iX1 : ∀ w ∈ u_ws RX1 TX1 5, w ∈ wsX3_nextPick := by decide +kernel
  have iX3 : ∀ w ∈ u_ws RX3 TX3 11, w ∈ wsX3_nextPick := by decide +kernel
  have iX2 : ∀ w ∈ u_ws RX2 TX2 4, w ∈ wsX3_nextPick := by decide +kernel
  refine lv_aload_n hx hb dX3_nextPick_0 rfl (lv_at hl 0 rfl) ?_
  refine lv_iload_n hx hb dX3_nextPick_1 rfl (lv_at hl 1 rfl) ?_
  refine nk_VRQ (As := [.int i0]) (rest := []) ⟨hx, hb, hml, hown, hts⟩ (mX3_streamAt l D ad ca sd tc sc tr st pz T Wt O SA KA R Ln Ky Ch (X ++ va_pl L f) i0 h8) (cwV 1 hts gX3_nextPick_X3_streamAt rfl rfl rfl (by decide +kernel) ⟨Nat.le_of_ble_eq_true rfl, Nat.le_of_ble_eq_true rfl⟩) hK hP 0 3 rfl rfl rfl rfl hl.1 rfl (Nat.le_of_ble_eq_true rfl) dX3_nextPick_2 ⟨Nat.le_of_ble_eq_true rfl, Nat.le_of_ble_eq_true rfl⟩ (fun r1 hr1 => ?_)
  subst hr1
  refine W.eq (g2 := F0 m 5 ls [.null]) (by rw [hAt]; rfl) ?_
  refine lv_astore_nN (lv' := [(2, .null), (0, .ref (ad 0)), (1, .int i0)]) hx hb dX3_nextPick_5 rfl hl (by decide) rfl (fun ls hl => ?_)
  refine lv_aload_nN hx hb dX3_nextPick_6 rfl (lv_at hl 0 rfl) ?_
  refine lv_ifnullN (tgt := 19) hx hb dX3_nextPick_7 (by decide) ?_
  refine lv_iconst (v := -1) hx hb dX3_nextPick_19 (by decide) ?_
  exact nk_retI (g := _) () hx hb hr hlocks hP hD hS dX3_nextPick_20 rfl

set_option maxHeartbeats 800000 in
set_option maxRecDepth 100000 in
theorem mX3_split_N (l : Launch) (D : va_G) (ad : Nat → Nat) (ca : Nat → ClassId) (sd : Int64) (tc : Int32) (sc : Int32) (tr : Int32) (st : Int32) (pz : Int32) (T : Nat → Int64) (Wt : Nat → Int64) (O : Nat → Int32) (SA : Nat → Option Nat) (KA : Nat → Option Nat) (R : Nat → Int64) (Ln : Nat → Int32) (Ky : Nat → Int64) (Ch : Nat → Int64) (X : va_W) (L : List Nat) (f : Nat → va_E) (i0 : Int32)  (h8 : sc ≤ 8) (hAt : fAt sc SA i0 = none) : nkMI l yX3_split wsX3_split ({ frames := 1, cells := 0, slots := 0, locals := 21 }) D (tC ca) [.ref (ad 0), .int i0] (wC ad ca sd tc sc tr st pz T Wt O SA KA R Ln Ky Ch (X ++ va_pl L f)) (fun _ : Unit => wC ad ca sd tc sc tr st pz T Wt O SA KA R Ln Ky Ch (X ++ va_pl L f)) (fun r _ => r = -1) 0 0 := by
  refine nk_ofM (Qf := fun A => va_Qi (fun r _ => r = -1) (nkB D A (fun _ : Unit => wC ad ca sd tc sc tr st pz T Wt O SA KA R Ln Ky Ch (X ++ va_pl L f))) A) (cc := cX3_split) (maxL := 4) (ret := (some .int)) (by decide) rfl (Nat.le_of_ble_eq_true rfl) ?_
  intro p e s m below meth c A hx hb hr hml hts hown hlocks hin hK hP hD hA hS ls hl
  replace hown : s.vm.findClass RX3 = some m.cls := hown
  replace hl : lv_has ls 4 [(0, .ref (ad 0)), (1, .int i0)] := hl
  have hP : va_P D vwCl (wC ad ca sd tc sc tr st pz T Wt O SA KA R Ln Ky Ch (X ++ va_pl L f)) s.heap := hP
  have iX1 : ∀ w ∈ u_ws RX1 TX1 5, w ∈ wsX3_split := by decide +kernel
  have iX3 : ∀ w ∈ u_ws RX3 TX3 11, w ∈ wsX3_split := by decide +kernel
  have iX2 : ∀ w ∈ u_ws RX2 TX2 4, w ∈ wsX3_split := by decide +kernel
  refine lv_aload_n hx hb dX3_split_0 rfl (lv_at hl 0 rfl) ?_
  refine lv_iload_n hx hb dX3_split_1 rfl (lv_at hl 1 rfl) ?_
  refine nk_VRQ (As := [.int i0]) (rest := []) ⟨hx, hb, hml, hown, hts⟩ (mX3_streamAt l D ad ca sd tc sc tr st pz T Wt O SA KA R Ln Ky Ch (X ++ va_pl L f) i0 h8) (cwV 1 hts gX3_split_X3_streamAt rfl rfl rfl (by decide +kernel) ⟨Nat.le_of_ble_eq_true rfl, Nat.le_of_ble_eq_true rfl⟩) hK hP 0 3 rfl rfl rfl rfl hl.1 rfl (Nat.le_of_ble_eq_true rfl) dX3_split_2 ⟨Nat.le_of_ble_eq_true rfl, Nat.le_of_ble_eq_true rfl⟩ (fun r1 hr1 => ?_)
  subst hr1
  refine W.eq (g2 := F0 m 5 ls [.null]) (by rw [hAt]; rfl) ?_
  refine lv_astore_nN (lv' := [(2, .null), (0, .ref (ad 0)), (1, .int i0)]) hx hb dX3_split_5 rfl hl (by decide) rfl (fun ls hl => ?_)
  refine lv_aload_nN hx hb dX3_split_6 rfl (lv_at hl 0 rfl) ?_
  refine lv_ifnonnullN hx hb dX3_split_7 ?_
  refine lv_iconst (v := -1) hx hb dX3_split_10 (by decide) ?_
  exact nk_retI (g := _) () hx hb hr hlocks hP hD hS dX3_split_11 rfl

set_option maxHeartbeats 800000 in
set_option maxRecDepth 100000 in
theorem mX3_skip_N (l : Launch) (D : va_G) (ad : Nat → Nat) (ca : Nat → ClassId) (sd : Int64) (tc : Int32) (sc : Int32) (tr : Int32) (st : Int32) (pz : Int32) (T : Nat → Int64) (Wt : Nat → Int64) (O : Nat → Int32) (SA : Nat → Option Nat) (KA : Nat → Option Nat) (R : Nat → Int64) (Ln : Nat → Int32) (Ky : Nat → Int64) (Ch : Nat → Int64) (X : va_W) (L : List Nat) (f : Nat → va_E) (i0 : Int32) (n0 : Int32) (h8 : sc ≤ 8) (hAt : fAt sc SA i0 = none) : nkMI l yX3_skip wsX3_skip ({ frames := 1, cells := 0, slots := 0, locals := 21 }) D (tC ca) [.ref (ad 0), .int i0, .int n0] (wC ad ca sd tc sc tr st pz T Wt O SA KA R Ln Ky Ch (X ++ va_pl L f)) (fun _ : Unit => wC ad ca sd tc sc tr st pz T Wt O SA KA R Ln Ky Ch (X ++ va_pl L f)) (fun r _ => r = -1) 0 0 := by
  refine nk_ofM (Qf := fun A => va_Qi (fun r _ => r = -1) (nkB D A (fun _ : Unit => wC ad ca sd tc sc tr st pz T Wt O SA KA R Ln Ky Ch (X ++ va_pl L f))) A) (cc := cX3_skip) (maxL := 4) (ret := (some .int)) (by decide) rfl (Nat.le_of_ble_eq_true rfl) ?_
  intro p e s m below meth c A hx hb hr hml hts hown hlocks hin hK hP hD hA hS ls hl
  replace hown : s.vm.findClass RX3 = some m.cls := hown
  replace hl : lv_has ls 4 [(0, .ref (ad 0)), (1, .int i0), (2, .int n0)] := hl
  have hP : va_P D vwCl (wC ad ca sd tc sc tr st pz T Wt O SA KA R Ln Ky Ch (X ++ va_pl L f)) s.heap := hP
  have iX3 : ∀ w ∈ u_ws RX3 TX3 11, w ∈ wsX3_skip := by decide +kernel
  have iX2 : ∀ w ∈ u_ws RX2 TX2 4, w ∈ wsX3_skip := by decide +kernel
  refine lv_aload_n hx hb dX3_skip_0 rfl (lv_at hl 0 rfl) ?_
  refine lv_iload_n hx hb dX3_skip_1 rfl (lv_at hl 1 rfl) ?_
  refine nk_VRQ (As := [.int i0]) (rest := []) ⟨hx, hb, hml, hown, hts⟩ (mX3_streamAt l D ad ca sd tc sc tr st pz T Wt O SA KA R Ln Ky Ch (X ++ va_pl L f) i0 h8) (cwV 1 hts gX3_skip_X3_streamAt rfl rfl rfl (by decide +kernel) ⟨Nat.le_of_ble_eq_true rfl, Nat.le_of_ble_eq_true rfl⟩) hK hP 0 3 rfl rfl rfl rfl hl.1 rfl (Nat.le_of_ble_eq_true rfl) dX3_skip_2 ⟨Nat.le_of_ble_eq_true rfl, Nat.le_of_ble_eq_true rfl⟩ (fun r1 hr1 => ?_)
  subst hr1
  refine W.eq (g2 := F0 m 5 ls [.null]) (by rw [hAt]; rfl) ?_
  refine lv_astore_nN (lv' := [(3, .null), (0, .ref (ad 0)), (1, .int i0), (2, .int n0)]) hx hb dX3_skip_5 rfl hl (by decide) rfl (fun ls hl => ?_)
  refine lv_aload_nN hx hb dX3_skip_6 rfl (lv_at hl 0 rfl) ?_
  refine lv_ifnullN (tgt := 31) hx hb dX3_skip_7 (by decide) ?_
  refine lv_iconst (v := -1) hx hb dX3_skip_31 (by decide) ?_
  exact nk_retI (g := _) () hx hb hr hlocks hP hD hS dX3_skip_32 rfl

set_option maxHeartbeats 800000 in
set_option maxRecDepth 100000 in
theorem mX3_keep_N (l : Launch) (D : va_G) (ad : Nat → Nat) (ca : Nat → ClassId) (sd : Int64) (tc : Int32) (sc : Int32) (tr : Int32) (st : Int32) (pz : Int32) (T : Nat → Int64) (Wt : Nat → Int64) (O : Nat → Int32) (SA : Nat → Option Nat) (KA : Nat → Option Nat) (R : Nat → Int64) (Ln : Nat → Int32) (Ky : Nat → Int64) (Ch : Nat → Int64) (X : va_W) (L : List Nat) (f : Nat → va_E) (i0 : Int32) (k0 : Int32) (h8 : sc ≤ 8) (hAt : fAt sc SA i0 = none) : nkMI l yX3_keep wsX3_keep ({ frames := 1, cells := 0, slots := 0, locals := 21 }) D (tC ca) [.ref (ad 0), .int k0, .int i0] (wC ad ca sd tc sc tr st pz T Wt O SA KA R Ln Ky Ch (X ++ va_pl L f)) (fun _ : Unit => wC ad ca sd tc sc tr st pz T Wt O SA KA R Ln Ky Ch (X ++ va_pl L f)) (fun r _ => r = -1) 0 0 := by
  refine nk_ofM (Qf := fun A => va_Qi (fun r _ => r = -1) (nkB D A (fun _ : Unit => wC ad ca sd tc sc tr st pz T Wt O SA KA R Ln Ky Ch (X ++ va_pl L f))) A) (cc := cX3_keep) (maxL := 5) (ret := (some .int)) (by decide) rfl (Nat.le_of_ble_eq_true rfl) ?_
  intro p e s m below meth c A hx hb hr hml hts hown hlocks hin hK hP hD hA hS ls hl
  replace hown : s.vm.findClass RX3 = some m.cls := hown
  replace hl : lv_has ls 5 [(0, .ref (ad 0)), (1, .int k0), (2, .int i0)] := hl
  have hP : va_P D vwCl (wC ad ca sd tc sc tr st pz T Wt O SA KA R Ln Ky Ch (X ++ va_pl L f)) s.heap := hP
  have iX3 : ∀ w ∈ u_ws RX3 TX3 11, w ∈ wsX3_keep := by decide +kernel
  have iX2 : ∀ w ∈ u_ws RX2 TX2 4, w ∈ wsX3_keep := by decide +kernel
  have iX0 : ∀ w ∈ u_ws RX0 TX0 3, w ∈ wsX3_keep := by decide +kernel
  refine lv_aload_n hx hb dX3_keep_0 rfl (lv_at hl 0 rfl) ?_
  refine lv_iload_n hx hb dX3_keep_1 rfl (lv_at hl 2 rfl) ?_
  refine nk_VRQ (As := [.int i0]) (rest := []) ⟨hx, hb, hml, hown, hts⟩ (mX3_streamAt l D ad ca sd tc sc tr st pz T Wt O SA KA R Ln Ky Ch (X ++ va_pl L f) i0 h8) (cwV 1 hts gX3_keep_X3_streamAt rfl rfl rfl (by decide +kernel) ⟨Nat.le_of_ble_eq_true rfl, Nat.le_of_ble_eq_true rfl⟩) hK hP 0 3 rfl rfl rfl rfl hl.1 rfl (Nat.le_of_ble_eq_true rfl) dX3_keep_2 ⟨Nat.le_of_ble_eq_true rfl, Nat.le_of_ble_eq_true rfl⟩ (fun r1 hr1 => ?_)
  subst hr1
  refine W.eq (g2 := F0 m 5 ls [.null]) (by rw [hAt]; rfl) ?_
  refine lv_astore_nN (lv' := [(3, .null), (0, .ref (ad 0)), (1, .int k0), (2, .int i0)]) hx hb dX3_keep_5 rfl hl (by decide) rfl (fun ls hl => ?_)
  refine lv_iload_n hx hb dX3_keep_6 rfl (lv_at hl 2 rfl) ?_
  refine lv_if_lt (tgt := 19) hx hb dX3_keep_7 (by decide) (fun c7 => ?_) (fun c7 => ?_)
  · skip
    refine lv_iconst (v := -1) hx hb dX3_keep_19 (by decide) ?_
    exact nk_retI (g := _) () hx hb hr hlocks hP hD hS dX3_keep_20 rfl
  · skip
    refine lv_iload_n hx hb dX3_keep_10 rfl (lv_at hl 2 rfl) ?_
    refine lv_iconst (v := 4) hx hb dX3_keep_11 (by decide) ?_
    refine lv_icmp_ge (tgt := 19) hx hb dX3_keep_12 (by decide) (fun c12 => ?_) (fun c12 => ?_)
    · skip
      refine lv_iconst (v := -1) hx hb dX3_keep_19 (by decide) ?_
      exact nk_retI (g := _) () hx hb hr hlocks hP hD hS dX3_keep_20 rfl
    · skip
      refine lv_aload_nN hx hb dX3_keep_15 rfl (lv_at hl 0 rfl) ?_
      refine lv_ifnonnullN hx hb dX3_keep_16 ?_
      refine lv_iconst (v := -1) hx hb dX3_keep_19 (by decide) ?_
      exact nk_retI (g := _) () hx hb hr hlocks hP hD hS dX3_keep_20 rfl

set_option maxHeartbeats 800000 in
set_option maxRecDepth 100000 in
theorem mX3_told_N (l : Launch) (D : va_G) (ad : Nat → Nat) (ca : Nat → ClassId) (sd : Int64) (tc : Int32) (sc : Int32) (tr : Int32) (st : Int32) (pz : Int32) (T : Nat → Int64) (Wt : Nat → Int64) (O : Nat → Int32) (SA : Nat → Option Nat) (KA : Nat → Option Nat) (R : Nat → Int64) (Ln : Nat → Int32) (Ky : Nat → Int64) (Ch : Nat → Int64) (X : va_W) (L : List Nat) (f : Nat → va_E) (i0 : Int32) (x0 : Int32) (h8 : sc ≤ 8) (hAt : fAt sc SA i0 = none) : nkRI l yX3_told wsX3_told ({ frames := 1, cells := 0, slots := 0, locals := 21 }) D (tC ca) [.ref (ad 0), .int i0, .int x0] (wC ad ca sd tc sc tr st pz T Wt O SA KA R Ln Ky Ch (X ++ va_pl L f)) (fun r => r = -1) := by
  refine nk_ofR (cc := cX3_told) (maxL := 4) (ret := (some .int)) (by decide) rfl (Nat.le_of_ble_eq_true rfl) ?_
  intro p e s m below meth c hx hb hr hml hts hown hlocks hK hP ls hl
  replace hown : s.vm.findClass RX3 = some m.cls := hown
  replace hl : lv_has ls 4 [(0, .ref (ad 0)), (1, .int i0), (2, .int x0)] := hl
  have hP : va_P D vwCl (wC ad ca sd tc sc tr st pz T Wt O SA KA R Ln Ky Ch (X ++ va_pl L f)) s.heap := hP
  have iX3 : ∀ w ∈ u_ws RX3 TX3 11, w ∈ wsX3_told := by decide +kernel
  have iX2 : ∀ w ∈ u_ws RX2 TX2 4, w ∈ wsX3_told := by decide +kernel
  refine lv_aload_n hx hb dX3_told_0 rfl (lv_at hl 0 rfl) ?_
  refine lv_iload_n hx hb dX3_told_1 rfl (lv_at hl 1 rfl) ?_
  refine nk_VRQ (As := [.int i0]) (rest := []) ⟨hx, hb, hml, hown, hts⟩ (mX3_streamAt l D ad ca sd tc sc tr st pz T Wt O SA KA R Ln Ky Ch (X ++ va_pl L f) i0 h8) (cwV 1 hts gX3_told_X3_streamAt rfl rfl rfl (by decide +kernel) ⟨Nat.le_of_ble_eq_true rfl, Nat.le_of_ble_eq_true rfl⟩) hK hP 0 3 rfl rfl rfl rfl hl.1 rfl (Nat.le_of_ble_eq_true rfl) dX3_told_2 ⟨Nat.le_of_ble_eq_true rfl, Nat.le_of_ble_eq_true rfl⟩ (fun r1 hr1 => ?_)
  subst hr1
  refine W.eq (g2 := F0 m 5 ls [.null]) (by rw [hAt]; rfl) ?_
  refine lv_astore_nN (lv' := [(3, .null), (0, .ref (ad 0)), (1, .int i0), (2, .int x0)]) hx hb dX3_told_5 rfl hl (by decide) rfl (fun ls hl => ?_)
  refine lv_aload_nN hx hb dX3_told_6 rfl (lv_at hl 0 rfl) ?_
  refine lv_ifnonnullN hx hb dX3_told_7 ?_
  refine lv_iconst (v := -1) hx hb dX3_told_10 (by decide) ?_
  exact nk_endI hx hb hr hlocks dX3_told_11 rfl

set_option maxHeartbeats 800000 in
set_option maxRecDepth 100000 in
theorem mX3_next_S (l : Launch) (D : va_G) (ad : Nat → Nat) (ca : Nat → ClassId) (sd : Int64) (tc : Int32) (sc : Int32) (tr : Int32) (st : Int32) (pz : Int32) (T : Nat → Int64) (Wt : Nat → Int64) (O : Nat → Int32) (SA : Nat → Option Nat) (KA : Nat → Option Nat) (R : Nat → Int64) (Ln : Nat → Int32) (Ky : Nat → Int64) (Ch : Nat → Int64) (X : va_W) (L : List Nat) (f : Nat → va_E) (i0 : Int32) (a : Nat) (rn : Int64) (po pl sp : Int32) (hAt : fAt sc SA i0 = some a) (haL : a ∈ L) (hfa : f a = eSt rn po pl sp) (n0 : Int64) (h8 : sc ≤ 8) (hp0 : vp_in po 24) : nkML l yX3_next wsX3_next ({ frames := 3, cells := 0, slots := 0, locals := 85 }) D (tC ca) [.ref (ad 0), .int i0, .long n0] (wC ad ca sd tc sc tr st pz T Wt O SA KA R Ln Ky Ch (X ++ va_pl L f)) (fun u : Int32 × (Nat → va_E) => wC ad ca sd tc sc u.1 st pz T Wt O SA KA R Ln Ky Ch (X ++ va_pl L u.2)) (fun r u => fNext sd Ky n0 tr f a rn po pl sp = (r, u)) 0 0 := by
  refine nk_ofM (Qf := fun A => va_Ql (fun r u => fNext sd Ky n0 tr f a rn po pl sp = (r, u)) (nkB D A (fun u : Int32 × (Nat → va_E) => wC ad ca sd tc sc u.1 st pz T Wt O SA KA R Ln Ky Ch (X ++ va_pl L u.2))) A) (cc := cX3_next) (maxL := 7) (ret := (some .long)) (by decide) rfl (Nat.le_of_ble_eq_true rfl) ?_
  intro p e s m below meth c A hx hb hr hml hts hown hlocks hin hK hP hD hA hS ls hl
  replace hown : s.vm.findClass RX3 = some m.cls := hown
  replace hl : lv_has ls 7 [(0, .ref (ad 0)), (1, .int i0), (2, .long n0)] := hl
  have hP : va_P D vwCl (wC ad ca sd tc sc tr st pz T Wt O SA KA R Ln Ky Ch (X ++ va_pl L f)) s.heap := hP
  have iX1 : ∀ w ∈ u_ws RX1 TX1 5, w ∈ wsX3_next := by decide +kernel
  have iX3 : ∀ w ∈ u_ws RX3 TX3 11, w ∈ wsX3_next := by decide +kernel
  have iX2 : ∀ w ∈ u_ws RX2 TX2 4, w ∈ wsX3_next := by decide +kernel
  refine lv_aload_n hx hb dX3_next_0 rfl (lv_at hl 0 rfl) ?_
  refine lv_iload_n hx hb dX3_next_1 rfl (lv_at hl 1 rfl) ?_
  refine nk_VRQ (As := [.int i0]) (rest := []) ⟨hx, hb, hml, hown, hts⟩ (mX3_streamAt l D ad ca sd tc sc tr st pz T Wt O SA KA R Ln Ky Ch (X ++ va_pl L f) i0 h8) (cwV 1 hts gX3_next_X3_streamAt rfl rfl rfl (by decide +kernel) ⟨Nat.le_of_ble_eq_true rfl, Nat.le_of_ble_eq_true rfl⟩) hK hP 0 3 rfl rfl rfl rfl hl.1 rfl (Nat.le_of_ble_eq_true rfl) dX3_next_2 ⟨Nat.le_of_ble_eq_true rfl, Nat.le_of_ble_eq_true rfl⟩ (fun r1 hr1 => ?_)
  subst hr1
  refine W.eq (g2 := F0 m 5 ls [.ref a]) (by rw [hAt]; rfl) ?_
  refine lv_astore (lv' := [(4, .ref a), (0, .ref (ad 0)), (1, .int i0), (2, .long n0)]) hx hb dX3_next_5 hl (by decide) rfl (fun ls hl => ?_)
  refine lv_lload_n hx hb dX3_next_7 rfl (lv_at hl 3 rfl) ?_
  refine lv_lconst (v := 0) hx hb dX3_next_8 (by decide) ?_
  refine W.lcmp hx hb dX3_next_9 ?_
  refine lv_if_lt (tgt := 28) hx hb dX3_next_10 (by decide) (fun c10 => ?_) (fun c10 => ?_)
  · skip
    have c10 : n0 < (0 : Int64) := (lg_cmp_lt _ _).mp c10
    refine lv_ldc2 (v := -1) hx hb hown (hts (.constantLong RX3 77 (-1)) (by decide +kernel)) dX3_next_28 ?_
    exact nk_retL (g := _) (tr, f) hx hb hr hlocks hP hD hS dX3_next_31 (by exact (if_pos c10))
  · skip
    have c10 : ¬ (n0 < (0 : Int64)) := fun h => c10 ((lg_cmp_lt _ _).mpr h)
    refine lv_aload hx hb dX3_next_13 (lv_at hl 0 rfl) ?_
    refine lv_ifnull hx hb dX3_next_15 ?_
    refine lv_aload hx hb dX3_next_18 (lv_at hl 0 rfl) ?_
    obtain ⟨k2, hk2⟩ := va_pl_get (X := (wC ad ca sd tc sc tr st pz T Wt O SA KA R Ln Ky Ch X)) (L := L) (f := f) haL
    have hk22 := hk2
    rw [hfa] at hk22
    have hPp : va_P D vwCl ((wC ad ca sd tc sc tr st pz T Wt O SA KA R Ln Ky Ch X) ++ va_pl L f) _ := hP
    have hDp : va_D A ((wC ad ca sd tc sc tr st pz T Wt O SA KA R Ln Ky Ch X) ++ va_pl L f) := hD
    refine va_get (D := D) (ci := 2) (v := .int pl) (C := RX2) (T := TX2) (N := 4) hx hb hts iX2 hown hK.1 hPp k2 hk22 rfl 2 (by decide) (hts (.fieldLink RX3 104 "NamedStreams$Stream" "place" "I") (by decide +kernel)) (fun _ h9 => h9) rfl dX3_next_20 ?_
    refine lv_ldc (v := 2147483647) hx hb hown (hts (.constant RX3 91 (2147483647)) (by decide +kernel)) dX3_next_23 ?_
    refine lv_icmp_ne (tgt := 32) hx hb dX3_next_25 (by decide) (fun c25 => ?_) (fun c25 => ?_)
    · skip
      refine lv_lload_n hx hb dX3_next_32 rfl (lv_at hl 3 rfl) ?_
      refine lv_lconst (v := 0) hx hb dX3_next_33 (by decide) ?_
      refine W.lcmp hx hb dX3_next_34 ?_
      refine lv_if_ne (tgt := 42) hx hb dX3_next_35 (by decide) (fun c35 => ?_) (fun c35 => ?_)
      · skip
        have c35 : ¬ (n0 = (0 : Int64)) := fun h => c35 ((lg_cmp_eq _ _).mpr h)
        refine lv_aload_n hx hb dX3_next_42 rfl (lv_at hl 1 rfl) ?_
        refine lv_aload hx hb dX3_next_43 (lv_at hl 0 rfl) ?_
        obtain ⟨k3, hk3⟩ := va_pl_get (X := (wC ad ca sd tc sc tr st pz T Wt O SA KA R Ln Ky Ch X)) (L := L) (f := f) haL
        have hk32 := hk3
        rw [hfa] at hk32
        have hPp : va_P D vwCl ((wC ad ca sd tc sc tr st pz T Wt O SA KA R Ln Ky Ch X) ++ va_pl L f) _ := hP
        have hDp : va_D A ((wC ad ca sd tc sc tr st pz T Wt O SA KA R Ln Ky Ch X) ++ va_pl L f) := hD
        refine va_get (D := D) (ci := 2) (v := .long rn) (C := RX2) (T := TX2) (N := 4) hx hb hts iX2 hown hK.1 hPp k3 hk32 rfl 0 (by decide) (hts (.fieldLink RX3 107 "NamedStreams$Stream" "run" "J") (by decide +kernel)) (fun _ h9 => h9) rfl dX3_next_45 ?_
        refine lv_aload hx hb dX3_next_48 (lv_at hl 0 rfl) ?_
        obtain ⟨k4, hk4⟩ := va_pl_get (X := (wC ad ca sd tc sc tr st pz T Wt O SA KA R Ln Ky Ch X)) (L := L) (f := f) haL
        have hk42 := hk4
        rw [hfa] at hk42
        have hPp : va_P D vwCl ((wC ad ca sd tc sc tr st pz T Wt O SA KA R Ln Ky Ch X) ++ va_pl L f) _ := hP
        have hDp : va_D A ((wC ad ca sd tc sc tr st pz T Wt O SA KA R Ln Ky Ch X) ++ va_pl L f) := hD
        refine va_get (D := D) (ci := 2) (v := .int po) (C := RX2) (T := TX2) (N := 4) hx hb hts iX2 hown hK.1 hPp k4 hk42 rfl 1 (by decide) (hts (.fieldLink RX3 110 "NamedStreams$Stream" "path" "I") (by decide +kernel)) (fun _ h9 => h9) rfl dX3_next_50 ?_
        refine lv_aload hx hb dX3_next_53 (lv_at hl 0 rfl) ?_
        obtain ⟨k5, hk5⟩ := va_pl_get (X := (wC ad ca sd tc sc tr st pz T Wt O SA KA R Ln Ky Ch X)) (L := L) (f := f) haL
        have hk52 := hk5
        rw [hfa] at hk52
        have hPp : va_P D vwCl ((wC ad ca sd tc sc tr st pz T Wt O SA KA R Ln Ky Ch X) ++ va_pl L f) _ := hP
        have hDp : va_D A ((wC ad ca sd tc sc tr st pz T Wt O SA KA R Ln Ky Ch X) ++ va_pl L f) := hD
        refine va_get (D := D) (ci := 2) (v := .int pl) (C := RX2) (T := TX2) (N := 4) hx hb hts iX2 hown hK.1 hPp k5 hk52 rfl 2 (by decide) (hts (.fieldLink RX3 104 "NamedStreams$Stream" "place" "I") (by decide +kernel)) (fun _ h9 => h9) rfl dX3_next_55 ?_
        refine lv_lload_n hx hb dX3_next_58 rfl (lv_at hl 3 rfl) ?_
        refine nk_VL (As := [.long rn, .int po, .int pl, .long n0]) (rest := []) ⟨hx, hb, hml, hown, hts⟩ (mX3_drawSpan l D ad ca sd tc sc tr st pz T Wt O SA KA R Ln Ky Ch (X ++ va_pl L f) rn po pl n0 hp0 c35) (cwV 4 hts gX3_next_X3_drawSpan rfl rfl rfl (by decide +kernel) ⟨Nat.le_of_ble_eq_true rfl, Nat.le_of_ble_eq_true rfl⟩) hK hP hD hS hA 0 3 rfl rfl rfl rfl hl.1 rfl (Nat.le_of_ble_eq_true rfl) dX3_next_59 ⟨Nat.le_of_ble_eq_true rfl, Nat.le_of_ble_eq_true rfl⟩ (fun r6 ur6 H locs hr6 hP hD hS => ?_)
        obtain ⟨rfl, rfl⟩ : r6 = (fSpan (fBase sd rn (Ky (Int32.toNatClampNeg po))) (fFirst pl) n0 tr).1 ∧ ur6 = (fSpan (fBase sd rn (Ky (Int32.toNatClampNeg po))) (fFirst pl) n0 tr).2 := by rw [hr6]; exact ⟨rfl, rfl⟩
        have hP : va_P D vwCl (wC ad ca sd tc sc ((fSpan (fBase sd rn (Ky (Int32.toNatClampNeg po))) (fFirst pl) n0 tr).2) st pz T Wt O SA KA R Ln Ky Ch (X ++ va_pl L f)) H := hP
        have hD : va_D A (wC ad ca sd tc sc ((fSpan (fBase sd rn (Ky (Int32.toNatClampNeg po))) (fFirst pl) n0 tr).2) st pz T Wt O SA KA R Ln Ky Ch (X ++ va_pl L f)) := hD
        refine lv_topl (fun z7 ez7 => ?_)
        refine lv_lstore (lv' := [(5, .long z7), (4, .ref a), (0, .ref (ad 0)), (1, .int i0), (2, .long n0)]) hx hb dX3_next_62 hl (by decide) rfl (fun ls hl => ?_)
        refine lv_aload hx hb dX3_next_64 (lv_at hl 1 rfl) ?_
        refine lv_dup hx hb dX3_next_66 rfl ?_
        obtain ⟨k8, hk8⟩ := va_pl_get (X := (wC ad ca sd tc sc ((fSpan (fBase sd rn (Ky (Int32.toNatClampNeg po))) (fFirst pl) n0 tr).2) st pz T Wt O SA KA R Ln Ky Ch X)) (L := L) (f := f) haL
        have hk82 := hk8
        rw [hfa] at hk82
        have hPp : va_P D vwCl ((wC ad ca sd tc sc ((fSpan (fBase sd rn (Ky (Int32.toNatClampNeg po))) (fFirst pl) n0 tr).2) st pz T Wt O SA KA R Ln Ky Ch X) ++ va_pl L f) _ := hP
        have hDp : va_D A ((wC ad ca sd tc sc ((fSpan (fBase sd rn (Ky (Int32.toNatClampNeg po))) (fFirst pl) n0 tr).2) st pz T Wt O SA KA R Ln Ky Ch X) ++ va_pl L f) := hD
        refine va_get (D := D) (ci := 2) (v := .int pl) (C := RX2) (T := TX2) (N := 4) hx hb hts iX2 hown hK.1 hPp k8 hk82 rfl 2 (by decide) (hts (.fieldLink RX3 104 "NamedStreams$Stream" "place" "I") (by decide +kernel)) (fun _ h9 => h9) rfl dX3_next_67 ?_
        refine lv_iconst (v := 1) hx hb dX3_next_70 (by decide) ?_
        refine lv_iadd hx hb dX3_next_71 ?_
        refine lv_topi (fun z9 ez9 => ?_)
        obtain ⟨k10, hk10⟩ := va_pl_get (X := (wC ad ca sd tc sc ((fSpan (fBase sd rn (Ky (Int32.toNatClampNeg po))) (fFirst pl) n0 tr).2) st pz T Wt O SA KA R Ln Ky Ch X)) (L := L) (f := f) haL
        have hk102 := hk10
        rw [hfa] at hk102
        have hPp : va_P D vwCl ((wC ad ca sd tc sc ((fSpan (fBase sd rn (Ky (Int32.toNatClampNeg po))) (fFirst pl) n0 tr).2) st pz T Wt O SA KA R Ln Ky Ch X) ++ va_pl L f) _ := hP
        have hDp : va_D A ((wC ad ca sd tc sc ((fSpan (fBase sd rn (Ky (Int32.toNatClampNeg po))) (fFirst pl) n0 tr).2) st pz T Wt O SA KA R Ln Ky Ch X) ++ va_pl L f) := hD
        refine va_put (D := D) (ci := 2) (v := .int z9) (ty := .int) (C := RX2) (T := TX2) (N := 4) hx hb hts iX2 tyX2 tyX2_ok nmX2 hown hK.1 hPp hDp hS k10 hk102 rfl 2 (by decide) (hts (.fieldLink RX3 104 "NamedStreams$Stream" "place" "I") (by decide +kernel)) (fun _ h9 => h9) rfl (by decide +kernel) rfl rfl (Nat.le_of_ble_eq_true rfl) dX3_next_72 (fun H locs hP hD hS => ?_)
        have hP : va_P D vwCl (((wC ad ca sd tc sc ((fSpan (fBase sd rn (Ky (Int32.toNatClampNeg po))) (fFirst pl) n0 tr).2) st pz T Wt O SA KA R Ln Ky Ch X) ++ va_pl L f).set k10 (a, .inr (2, [.long rn, .int po, .int z9, .int sp]))) H := hP
        have hD : va_D A (((wC ad ca sd tc sc ((fSpan (fBase sd rn (Ky (Int32.toNatClampNeg po))) (fFirst pl) n0 tr).2) st pz T Wt O SA KA R Ln Ky Ch X) ++ va_pl L f).set k10 (a, .inr (2, [.long rn, .int po, .int z9, .int sp]))) := hD
        rw [va_pl_set hDp haL hk10] at hP hD
        have hP : va_P D vwCl (wC ad ca sd tc sc ((fSpan (fBase sd rn (Ky (Int32.toNatClampNeg po))) (fFirst pl) n0 tr).2) st pz T Wt O SA KA R Ln Ky Ch (X ++ va_pl L (va_up f a (.inr (2, [.long rn, .int po, .int z9, .int sp]))))) H := hP
        have hD : va_D A (wC ad ca sd tc sc ((fSpan (fBase sd rn (Ky (Int32.toNatClampNeg po))) (fFirst pl) n0 tr).2) st pz T Wt O SA KA R Ln Ky Ch (X ++ va_pl L (va_up f a (.inr (2, [.long rn, .int po, .int z9, .int sp]))))) := hD
        refine lv_lload hx hb dX3_next_75 (lv_at hl 0 rfl) ?_
        exact nk_retL (g := _) ((fSpan (fBase sd rn (Ky (Int32.toNatClampNeg po))) (fFirst pl) n0 tr).2, (va_up f a (.inr (2, [.long rn, .int po, .int z9, .int sp])))) hx hb hr hlocks hP hD hS dX3_next_77 (by subst ez7; subst ez9; exact ((if_neg c10).trans ((if_neg c25).trans (if_neg c35))))
      · skip
        have c35 : n0 = (0 : Int64) := (lg_cmp_eq _ _).mp c35
        refine lv_ldc2 (v := -4) hx hb hown (hts (.constantLong RX3 75 (-4)) (by decide +kernel)) dX3_next_38 ?_
        exact nk_retL (g := _) (tr, f) hx hb hr hlocks hP hD hS dX3_next_41 (by exact ((if_neg c10).trans ((if_neg c25).trans (if_pos c35))))
    · skip
      refine lv_ldc2 (v := -1) hx hb hown (hts (.constantLong RX3 77 (-1)) (by decide +kernel)) dX3_next_28 ?_
      exact nk_retL (g := _) (tr, f) hx hb hr hlocks hP hD hS dX3_next_31 (by exact ((if_neg c10).trans (if_pos c25)))

set_option maxHeartbeats 800000 in
set_option maxRecDepth 100000 in
theorem mX3_nextPick_S (l : Launch) (D : va_G) (ad : Nat → Nat) (ca : Nat → ClassId) (sd : Int64) (tc : Int32) (sc : Int32) (tr : Int32) (st : Int32) (pz : Int32) (T : Nat → Int64) (Wt : Nat → Int64) (O : Nat → Int32) (SA : Nat → Option Nat) (KA : Nat → Option Nat) (R : Nat → Int64) (Ln : Nat → Int32) (Ky : Nat → Int64) (Ch : Nat → Int64) (X : va_W) (L : List Nat) (f : Nat → va_E) (i0 : Int32) (a : Nat) (rn : Int64) (po pl sp : Int32) (hAt : fAt sc SA i0 = some a) (haL : a ∈ L) (hfa : f a = eSt rn po pl sp) (h8 : sc ≤ 8) (hp0 : vp_in po 24) : nkMI l yX3_nextPick wsX3_nextPick ({ frames := 4, cells := 0, slots := 0, locals := 113 }) D (tC ca) [.ref (ad 0), .int i0] (wC ad ca sd tc sc tr st pz T Wt O SA KA R Ln Ky Ch (X ++ va_pl L f)) (fun u : Int32 × (Nat → va_E) => wC ad ca sd tc sc u.1 st pz T Wt O SA KA R Ln Ky Ch (X ++ va_pl L u.2)) (fun r u => fNPick sd Ky Wt tr f a rn po pl sp = (r, u)) 0 0 := by
  refine nk_ofM (Qf := fun A => va_Qi (fun r u => fNPick sd Ky Wt tr f a rn po pl sp = (r, u)) (nkB D A (fun u : Int32 × (Nat → va_E) => wC ad ca sd tc sc u.1 st pz T Wt O SA KA R Ln Ky Ch (X ++ va_pl L u.2))) A) (cc := cX3_nextPick) (maxL := 4) (ret := (some .int)) (by decide) rfl (Nat.le_of_ble_eq_true rfl) ?_
  intro p e s m below meth c A hx hb hr hml hts hown hlocks hin hK hP hD hA hS ls hl
  replace hown : s.vm.findClass RX3 = some m.cls := hown
  replace hl : lv_has ls 4 [(0, .ref (ad 0)), (1, .int i0)] := hl
  have hP : va_P D vwCl (wC ad ca sd tc sc tr st pz T Wt O SA KA R Ln Ky Ch (X ++ va_pl L f)) s.heap := hP
  have iX1 : ∀ w ∈ u_ws RX1 TX1 5, w ∈ wsX3_nextPick := by decide +kernel
  have iX3 : ∀ w ∈ u_ws RX3 TX3 11, w ∈ wsX3_nextPick := by decide +kernel
  have iX2 : ∀ w ∈ u_ws RX2 TX2 4, w ∈ wsX3_nextPick := by decide +kernel
  refine lv_aload_n hx hb dX3_nextPick_0 rfl (lv_at hl 0 rfl) ?_
  refine lv_iload_n hx hb dX3_nextPick_1 rfl (lv_at hl 1 rfl) ?_
  refine nk_VRQ (As := [.int i0]) (rest := []) ⟨hx, hb, hml, hown, hts⟩ (mX3_streamAt l D ad ca sd tc sc tr st pz T Wt O SA KA R Ln Ky Ch (X ++ va_pl L f) i0 h8) (cwV 1 hts gX3_nextPick_X3_streamAt rfl rfl rfl (by decide +kernel) ⟨Nat.le_of_ble_eq_true rfl, Nat.le_of_ble_eq_true rfl⟩) hK hP 0 3 rfl rfl rfl rfl hl.1 rfl (Nat.le_of_ble_eq_true rfl) dX3_nextPick_2 ⟨Nat.le_of_ble_eq_true rfl, Nat.le_of_ble_eq_true rfl⟩ (fun r1 hr1 => ?_)
  subst hr1
  refine W.eq (g2 := F0 m 5 ls [.ref a]) (by rw [hAt]; rfl) ?_
  refine lv_astore_n (lv' := [(2, .ref a), (0, .ref (ad 0)), (1, .int i0)]) hx hb dX3_nextPick_5 rfl hl (by decide) rfl (fun ls hl => ?_)
  refine lv_aload_n hx hb dX3_nextPick_6 rfl (lv_at hl 0 rfl) ?_
  refine lv_ifnull hx hb dX3_nextPick_7 ?_
  refine lv_aload_n hx hb dX3_nextPick_10 rfl (lv_at hl 0 rfl) ?_
  obtain ⟨k2, hk2⟩ := va_pl_get (X := (wC ad ca sd tc sc tr st pz T Wt O SA KA R Ln Ky Ch X)) (L := L) (f := f) haL
  have hk22 := hk2
  rw [hfa] at hk22
  have hPp : va_P D vwCl ((wC ad ca sd tc sc tr st pz T Wt O SA KA R Ln Ky Ch X) ++ va_pl L f) _ := hP
  have hDp : va_D A ((wC ad ca sd tc sc tr st pz T Wt O SA KA R Ln Ky Ch X) ++ va_pl L f) := hD
  refine va_get (D := D) (ci := 2) (v := .int pl) (C := RX2) (T := TX2) (N := 4) hx hb hts iX2 hown hK.1 hPp k2 hk22 rfl 2 (by decide) (hts (.fieldLink RX3 104 "NamedStreams$Stream" "place" "I") (by decide +kernel)) (fun _ h9 => h9) rfl dX3_nextPick_11 ?_
  refine lv_ldc (v := 2147483647) hx hb hown (hts (.constant RX3 91 (2147483647)) (by decide +kernel)) dX3_nextPick_14 ?_
  refine lv_icmp_ne (tgt := 21) hx hb dX3_nextPick_16 (by decide) (fun c16 => ?_) (fun c16 => ?_)
  · skip
    refine lv_aload_n hx hb dX3_nextPick_21 rfl (lv_at hl 1 rfl) ?_
    refine lv_aload_n hx hb dX3_nextPick_22 rfl (lv_at hl 0 rfl) ?_
    obtain ⟨k3, hk3⟩ := va_pl_get (X := (wC ad ca sd tc sc tr st pz T Wt O SA KA R Ln Ky Ch X)) (L := L) (f := f) haL
    have hk32 := hk3
    rw [hfa] at hk32
    have hPp : va_P D vwCl ((wC ad ca sd tc sc tr st pz T Wt O SA KA R Ln Ky Ch X) ++ va_pl L f) _ := hP
    have hDp : va_D A ((wC ad ca sd tc sc tr st pz T Wt O SA KA R Ln Ky Ch X) ++ va_pl L f) := hD
    refine va_get (D := D) (ci := 2) (v := .long rn) (C := RX2) (T := TX2) (N := 4) hx hb hts iX2 hown hK.1 hPp k3 hk32 rfl 0 (by decide) (hts (.fieldLink RX3 107 "NamedStreams$Stream" "run" "J") (by decide +kernel)) (fun _ h9 => h9) rfl dX3_nextPick_23 ?_
    refine lv_aload_n hx hb dX3_nextPick_26 rfl (lv_at hl 0 rfl) ?_
    obtain ⟨k4, hk4⟩ := va_pl_get (X := (wC ad ca sd tc sc tr st pz T Wt O SA KA R Ln Ky Ch X)) (L := L) (f := f) haL
    have hk42 := hk4
    rw [hfa] at hk42
    have hPp : va_P D vwCl ((wC ad ca sd tc sc tr st pz T Wt O SA KA R Ln Ky Ch X) ++ va_pl L f) _ := hP
    have hDp : va_D A ((wC ad ca sd tc sc tr st pz T Wt O SA KA R Ln Ky Ch X) ++ va_pl L f) := hD
    refine va_get (D := D) (ci := 2) (v := .int po) (C := RX2) (T := TX2) (N := 4) hx hb hts iX2 hown hK.1 hPp k4 hk42 rfl 1 (by decide) (hts (.fieldLink RX3 110 "NamedStreams$Stream" "path" "I") (by decide +kernel)) (fun _ h9 => h9) rfl dX3_nextPick_27 ?_
    refine lv_aload_n hx hb dX3_nextPick_30 rfl (lv_at hl 0 rfl) ?_
    obtain ⟨k5, hk5⟩ := va_pl_get (X := (wC ad ca sd tc sc tr st pz T Wt O SA KA R Ln Ky Ch X)) (L := L) (f := f) haL
    have hk52 := hk5
    rw [hfa] at hk52
    have hPp : va_P D vwCl ((wC ad ca sd tc sc tr st pz T Wt O SA KA R Ln Ky Ch X) ++ va_pl L f) _ := hP
    have hDp : va_D A ((wC ad ca sd tc sc tr st pz T Wt O SA KA R Ln Ky Ch X) ++ va_pl L f) := hD
    refine va_get (D := D) (ci := 2) (v := .int pl) (C := RX2) (T := TX2) (N := 4) hx hb hts iX2 hown hK.1 hPp k5 hk52 rfl 2 (by decide) (hts (.fieldLink RX3 104 "NamedStreams$Stream" "place" "I") (by decide +kernel)) (fun _ h9 => h9) rfl dX3_nextPick_31 ?_
    refine nk_VI (As := [.long rn, .int po, .int pl]) (rest := []) ⟨hx, hb, hml, hown, hts⟩ (mX3_drawPick l D ad ca sd tc sc tr st pz T Wt O SA KA R Ln Ky Ch (X ++ va_pl L f) rn po pl hp0) (cwV 3 hts gX3_nextPick_X3_drawPick rfl rfl rfl (by decide +kernel) ⟨Nat.le_of_ble_eq_true rfl, Nat.le_of_ble_eq_true rfl⟩) hK hP hD hS hA 0 3 rfl rfl rfl rfl hl.1 rfl (Nat.le_of_ble_eq_true rfl) dX3_nextPick_34 ⟨Nat.le_of_ble_eq_true rfl, Nat.le_of_ble_eq_true rfl⟩ (fun r6 ur6 H locs hr6 hP hD hS => ?_)
    obtain ⟨rfl, rfl⟩ : r6 = (fPick (fBase sd rn (Ky (Int32.toNatClampNeg po))) (fFirst pl) Wt tr).1 ∧ ur6 = (fPick (fBase sd rn (Ky (Int32.toNatClampNeg po))) (fFirst pl) Wt tr).2 := by rw [hr6]; exact ⟨rfl, rfl⟩
    have hP : va_P D vwCl (wC ad ca sd tc sc ((fPick (fBase sd rn (Ky (Int32.toNatClampNeg po))) (fFirst pl) Wt tr).2) st pz T Wt O SA KA R Ln Ky Ch (X ++ va_pl L f)) H := hP
    have hD : va_D A (wC ad ca sd tc sc ((fPick (fBase sd rn (Ky (Int32.toNatClampNeg po))) (fFirst pl) Wt tr).2) st pz T Wt O SA KA R Ln Ky Ch (X ++ va_pl L f)) := hD
    refine lv_topi (fun z7 ez7 => ?_)
    refine lv_istore_n (lv' := [(3, .int z7), (2, .ref a), (0, .ref (ad 0)), (1, .int i0)]) hx hb dX3_nextPick_37 rfl hl (by decide) rfl (fun ls hl => ?_)
    refine lv_iload_n hx hb dX3_nextPick_38 rfl (lv_at hl 0 rfl) ?_
    refine lv_bipush (v := -4) hx hb dX3_nextPick_39 (by decide) ?_
    refine lv_icmp_eq (tgt := 60) hx hb dX3_nextPick_41 (by decide) (fun c41 => ?_) (fun c41 => ?_)
    · skip
      refine lv_iload_n hx hb dX3_nextPick_60 rfl (lv_at hl 0 rfl) ?_
      exact nk_retI (g := _) ((fPick (fBase sd rn (Ky (Int32.toNatClampNeg po))) (fFirst pl) Wt tr).2, f) hx hb hr hlocks hP hD hS dX3_nextPick_61 (by subst ez7; exact ((if_neg c16).trans (if_pos c41)))
    · skip
      refine lv_iload_n hx hb dX3_nextPick_44 rfl (lv_at hl 0 rfl) ?_
      refine lv_bipush (v := -5) hx hb dX3_nextPick_45 (by decide) ?_
      refine lv_icmp_eq (tgt := 60) hx hb dX3_nextPick_47 (by decide) (fun c47 => ?_) (fun c47 => ?_)
      · skip
        refine lv_iload_n hx hb dX3_nextPick_60 rfl (lv_at hl 0 rfl) ?_
        exact nk_retI (g := _) ((fPick (fBase sd rn (Ky (Int32.toNatClampNeg po))) (fFirst pl) Wt tr).2, f) hx hb hr hlocks hP hD hS dX3_nextPick_61 (by subst ez7; exact ((if_neg c16).trans ((if_neg c41).trans (if_pos c47))))
      · skip
        refine lv_aload_n hx hb dX3_nextPick_50 rfl (lv_at hl 1 rfl) ?_
        refine lv_dup hx hb dX3_nextPick_51 rfl ?_
        obtain ⟨k8, hk8⟩ := va_pl_get (X := (wC ad ca sd tc sc ((fPick (fBase sd rn (Ky (Int32.toNatClampNeg po))) (fFirst pl) Wt tr).2) st pz T Wt O SA KA R Ln Ky Ch X)) (L := L) (f := f) haL
        have hk82 := hk8
        rw [hfa] at hk82
        have hPp : va_P D vwCl ((wC ad ca sd tc sc ((fPick (fBase sd rn (Ky (Int32.toNatClampNeg po))) (fFirst pl) Wt tr).2) st pz T Wt O SA KA R Ln Ky Ch X) ++ va_pl L f) _ := hP
        have hDp : va_D A ((wC ad ca sd tc sc ((fPick (fBase sd rn (Ky (Int32.toNatClampNeg po))) (fFirst pl) Wt tr).2) st pz T Wt O SA KA R Ln Ky Ch X) ++ va_pl L f) := hD
        refine va_get (D := D) (ci := 2) (v := .int pl) (C := RX2) (T := TX2) (N := 4) hx hb hts iX2 hown hK.1 hPp k8 hk82 rfl 2 (by decide) (hts (.fieldLink RX3 104 "NamedStreams$Stream" "place" "I") (by decide +kernel)) (fun _ h9 => h9) rfl dX3_nextPick_52 ?_
        refine lv_iconst (v := 1) hx hb dX3_nextPick_55 (by decide) ?_
        refine lv_iadd hx hb dX3_nextPick_56 ?_
        refine lv_topi (fun z9 ez9 => ?_)
        obtain ⟨k10, hk10⟩ := va_pl_get (X := (wC ad ca sd tc sc ((fPick (fBase sd rn (Ky (Int32.toNatClampNeg po))) (fFirst pl) Wt tr).2) st pz T Wt O SA KA R Ln Ky Ch X)) (L := L) (f := f) haL
        have hk102 := hk10
        rw [hfa] at hk102
        have hPp : va_P D vwCl ((wC ad ca sd tc sc ((fPick (fBase sd rn (Ky (Int32.toNatClampNeg po))) (fFirst pl) Wt tr).2) st pz T Wt O SA KA R Ln Ky Ch X) ++ va_pl L f) _ := hP
        have hDp : va_D A ((wC ad ca sd tc sc ((fPick (fBase sd rn (Ky (Int32.toNatClampNeg po))) (fFirst pl) Wt tr).2) st pz T Wt O SA KA R Ln Ky Ch X) ++ va_pl L f) := hD
        refine va_put (D := D) (ci := 2) (v := .int z9) (ty := .int) (C := RX2) (T := TX2) (N := 4) hx hb hts iX2 tyX2 tyX2_ok nmX2 hown hK.1 hPp hDp hS k10 hk102 rfl 2 (by decide) (hts (.fieldLink RX3 104 "NamedStreams$Stream" "place" "I") (by decide +kernel)) (fun _ h9 => h9) rfl (by decide +kernel) rfl rfl (Nat.le_of_ble_eq_true rfl) dX3_nextPick_57 (fun H locs hP hD hS => ?_)
        have hP : va_P D vwCl (((wC ad ca sd tc sc ((fPick (fBase sd rn (Ky (Int32.toNatClampNeg po))) (fFirst pl) Wt tr).2) st pz T Wt O SA KA R Ln Ky Ch X) ++ va_pl L f).set k10 (a, .inr (2, [.long rn, .int po, .int z9, .int sp]))) H := hP
        have hD : va_D A (((wC ad ca sd tc sc ((fPick (fBase sd rn (Ky (Int32.toNatClampNeg po))) (fFirst pl) Wt tr).2) st pz T Wt O SA KA R Ln Ky Ch X) ++ va_pl L f).set k10 (a, .inr (2, [.long rn, .int po, .int z9, .int sp]))) := hD
        rw [va_pl_set hDp haL hk10] at hP hD
        have hP : va_P D vwCl (wC ad ca sd tc sc ((fPick (fBase sd rn (Ky (Int32.toNatClampNeg po))) (fFirst pl) Wt tr).2) st pz T Wt O SA KA R Ln Ky Ch (X ++ va_pl L (va_up f a (.inr (2, [.long rn, .int po, .int z9, .int sp]))))) H := hP
        have hD : va_D A (wC ad ca sd tc sc ((fPick (fBase sd rn (Ky (Int32.toNatClampNeg po))) (fFirst pl) Wt tr).2) st pz T Wt O SA KA R Ln Ky Ch (X ++ va_pl L (va_up f a (.inr (2, [.long rn, .int po, .int z9, .int sp]))))) := hD
        refine lv_iload_n hx hb dX3_nextPick_60 rfl (lv_at hl 0 rfl) ?_
        exact nk_retI (g := _) ((fPick (fBase sd rn (Ky (Int32.toNatClampNeg po))) (fFirst pl) Wt tr).2, (va_up f a (.inr (2, [.long rn, .int po, .int z9, .int sp])))) hx hb hr hlocks hP hD hS dX3_nextPick_61 (by subst ez7; subst ez9; exact ((if_neg c16).trans ((if_neg c41).trans (if_neg c47))))
  · skip
    refine lv_iconst (v := -1) hx hb dX3_nextPick_19 (by decide) ?_
    exact nk_retI (g := _) (tr, f) hx hb hr hlocks hP hD hS dX3_nextPick_20 (by exact (if_pos c16))

set_option maxHeartbeats 800000 in
set_option maxRecDepth 100000 in
theorem mX3_skip_S (l : Launch) (D : va_G) (ad : Nat → Nat) (ca : Nat → ClassId) (sd : Int64) (tc : Int32) (sc : Int32) (tr : Int32) (st : Int32) (pz : Int32) (T : Nat → Int64) (Wt : Nat → Int64) (O : Nat → Int32) (SA : Nat → Option Nat) (KA : Nat → Option Nat) (R : Nat → Int64) (Ln : Nat → Int32) (Ky : Nat → Int64) (Ch : Nat → Int64) (X : va_W) (L : List Nat) (f : Nat → va_E) (i0 : Int32) (a : Nat) (rn : Int64) (po pl sp : Int32) (hAt : fAt sc SA i0 = some a) (haL : a ∈ L) (hfa : f a = eSt rn po pl sp) (n0 : Int32) (h8 : sc ≤ 8) : nkMI l yX3_skip wsX3_skip ({ frames := 1, cells := 0, slots := 0, locals := 21 }) D (tC ca) [.ref (ad 0), .int i0, .int n0] (wC ad ca sd tc sc tr st pz T Wt O SA KA R Ln Ky Ch (X ++ va_pl L f)) (fun u : Nat → va_E => wC ad ca sd tc sc tr st pz T Wt O SA KA R Ln Ky Ch (X ++ va_pl L u)) (fun r u => fSkip n0 f a rn po pl sp = (r, u)) 0 0 := by
  refine nk_ofM (Qf := fun A => va_Qi (fun r u => fSkip n0 f a rn po pl sp = (r, u)) (nkB D A (fun u : Nat → va_E => wC ad ca sd tc sc tr st pz T Wt O SA KA R Ln Ky Ch (X ++ va_pl L u))) A) (cc := cX3_skip) (maxL := 4) (ret := (some .int)) (by decide) rfl (Nat.le_of_ble_eq_true rfl) ?_
  intro p e s m below meth c A hx hb hr hml hts hown hlocks hin hK hP hD hA hS ls hl
  replace hown : s.vm.findClass RX3 = some m.cls := hown
  replace hl : lv_has ls 4 [(0, .ref (ad 0)), (1, .int i0), (2, .int n0)] := hl
  have hP : va_P D vwCl (wC ad ca sd tc sc tr st pz T Wt O SA KA R Ln Ky Ch (X ++ va_pl L f)) s.heap := hP
  have iX3 : ∀ w ∈ u_ws RX3 TX3 11, w ∈ wsX3_skip := by decide +kernel
  have iX2 : ∀ w ∈ u_ws RX2 TX2 4, w ∈ wsX3_skip := by decide +kernel
  refine lv_aload_n hx hb dX3_skip_0 rfl (lv_at hl 0 rfl) ?_
  refine lv_iload_n hx hb dX3_skip_1 rfl (lv_at hl 1 rfl) ?_
  refine nk_VRQ (As := [.int i0]) (rest := []) ⟨hx, hb, hml, hown, hts⟩ (mX3_streamAt l D ad ca sd tc sc tr st pz T Wt O SA KA R Ln Ky Ch (X ++ va_pl L f) i0 h8) (cwV 1 hts gX3_skip_X3_streamAt rfl rfl rfl (by decide +kernel) ⟨Nat.le_of_ble_eq_true rfl, Nat.le_of_ble_eq_true rfl⟩) hK hP 0 3 rfl rfl rfl rfl hl.1 rfl (Nat.le_of_ble_eq_true rfl) dX3_skip_2 ⟨Nat.le_of_ble_eq_true rfl, Nat.le_of_ble_eq_true rfl⟩ (fun r1 hr1 => ?_)
  subst hr1
  refine W.eq (g2 := F0 m 5 ls [.ref a]) (by rw [hAt]; rfl) ?_
  refine lv_astore_n (lv' := [(3, .ref a), (0, .ref (ad 0)), (1, .int i0), (2, .int n0)]) hx hb dX3_skip_5 rfl hl (by decide) rfl (fun ls hl => ?_)
  refine lv_aload_n hx hb dX3_skip_6 rfl (lv_at hl 0 rfl) ?_
  refine lv_ifnull hx hb dX3_skip_7 ?_
  refine lv_iload_n hx hb dX3_skip_10 rfl (lv_at hl 3 rfl) ?_
  refine lv_if_lt (tgt := 31) hx hb dX3_skip_11 (by decide) (fun c11 => ?_) (fun c11 => ?_)
  · skip
    refine lv_iconst (v := -1) hx hb dX3_skip_31 (by decide) ?_
    exact nk_retI (g := _) f hx hb hr hlocks hP hD hS dX3_skip_32 (by exact (if_pos c11))
  · skip
    refine lv_iload_n hx hb dX3_skip_14 rfl (lv_at hl 3 rfl) ?_
    refine lv_ldc (v := 1000000000) hx hb hown (hts (.constant RX3 120 (1000000000)) (by decide +kernel)) dX3_skip_15 ?_
    refine lv_icmp_gt (tgt := 31) hx hb dX3_skip_17 (by decide) (fun c17 => ?_) (fun c17 => ?_)
    · skip
      refine lv_iconst (v := -1) hx hb dX3_skip_31 (by decide) ?_
      exact nk_retI (g := _) f hx hb hr hlocks hP hD hS dX3_skip_32 (by exact ((if_neg c11).trans (if_pos c17)))
    · skip
      refine lv_aload_n hx hb dX3_skip_20 rfl (lv_at hl 0 rfl) ?_
      obtain ⟨k2, hk2⟩ := va_pl_get (X := (wC ad ca sd tc sc tr st pz T Wt O SA KA R Ln Ky Ch X)) (L := L) (f := f) haL
      have hk22 := hk2
      rw [hfa] at hk22
      have hPp : va_P D vwCl ((wC ad ca sd tc sc tr st pz T Wt O SA KA R Ln Ky Ch X) ++ va_pl L f) _ := hP
      have hDp : va_D A ((wC ad ca sd tc sc tr st pz T Wt O SA KA R Ln Ky Ch X) ++ va_pl L f) := hD
      refine va_get (D := D) (ci := 2) (v := .int pl) (C := RX2) (T := TX2) (N := 4) hx hb hts iX2 hown hK.1 hPp k2 hk22 rfl 2 (by decide) (hts (.fieldLink RX3 104 "NamedStreams$Stream" "place" "I") (by decide +kernel)) (fun _ h9 => h9) rfl dX3_skip_21 ?_
      refine lv_ldc (v := 2147483647) hx hb hown (hts (.constant RX3 91 (2147483647)) (by decide +kernel)) dX3_skip_24 ?_
      refine lv_iload_n hx hb dX3_skip_26 rfl (lv_at hl 3 rfl) ?_
      refine lv_isub hx hb dX3_skip_27 ?_
      refine lv_icmp_le (tgt := 33) hx hb dX3_skip_28 (by decide) (fun c28 => ?_) (fun c28 => ?_)
      · skip
        refine lv_aload_n hx hb dX3_skip_33 rfl (lv_at hl 0 rfl) ?_
        refine lv_dup hx hb dX3_skip_34 rfl ?_
        obtain ⟨k3, hk3⟩ := va_pl_get (X := (wC ad ca sd tc sc tr st pz T Wt O SA KA R Ln Ky Ch X)) (L := L) (f := f) haL
        have hk32 := hk3
        rw [hfa] at hk32
        have hPp : va_P D vwCl ((wC ad ca sd tc sc tr st pz T Wt O SA KA R Ln Ky Ch X) ++ va_pl L f) _ := hP
        have hDp : va_D A ((wC ad ca sd tc sc tr st pz T Wt O SA KA R Ln Ky Ch X) ++ va_pl L f) := hD
        refine va_get (D := D) (ci := 2) (v := .int pl) (C := RX2) (T := TX2) (N := 4) hx hb hts iX2 hown hK.1 hPp k3 hk32 rfl 2 (by decide) (hts (.fieldLink RX3 104 "NamedStreams$Stream" "place" "I") (by decide +kernel)) (fun _ h9 => h9) rfl dX3_skip_35 ?_
        refine lv_iload_n hx hb dX3_skip_38 rfl (lv_at hl 3 rfl) ?_
        refine lv_iadd hx hb dX3_skip_39 ?_
        refine lv_topi (fun z4 ez4 => ?_)
        obtain ⟨k5, hk5⟩ := va_pl_get (X := (wC ad ca sd tc sc tr st pz T Wt O SA KA R Ln Ky Ch X)) (L := L) (f := f) haL
        have hk52 := hk5
        rw [hfa] at hk52
        have hPp : va_P D vwCl ((wC ad ca sd tc sc tr st pz T Wt O SA KA R Ln Ky Ch X) ++ va_pl L f) _ := hP
        have hDp : va_D A ((wC ad ca sd tc sc tr st pz T Wt O SA KA R Ln Ky Ch X) ++ va_pl L f) := hD
        refine va_put (D := D) (ci := 2) (v := .int z4) (ty := .int) (C := RX2) (T := TX2) (N := 4) hx hb hts iX2 tyX2 tyX2_ok nmX2 hown hK.1 hPp hDp hS k5 hk52 rfl 2 (by decide) (hts (.fieldLink RX3 104 "NamedStreams$Stream" "place" "I") (by decide +kernel)) (fun _ h9 => h9) rfl (by decide +kernel) rfl rfl (Nat.le_of_ble_eq_true rfl) dX3_skip_40 (fun H locs hP hD hS => ?_)
        have hP : va_P D vwCl (((wC ad ca sd tc sc tr st pz T Wt O SA KA R Ln Ky Ch X) ++ va_pl L f).set k5 (a, .inr (2, [.long rn, .int po, .int z4, .int sp]))) H := hP
        have hD : va_D A (((wC ad ca sd tc sc tr st pz T Wt O SA KA R Ln Ky Ch X) ++ va_pl L f).set k5 (a, .inr (2, [.long rn, .int po, .int z4, .int sp]))) := hD
        rw [va_pl_set hDp haL hk5] at hP hD
        have hP : va_P D vwCl (wC ad ca sd tc sc tr st pz T Wt O SA KA R Ln Ky Ch (X ++ va_pl L (va_up f a (.inr (2, [.long rn, .int po, .int z4, .int sp]))))) H := hP
        have hD : va_D A (wC ad ca sd tc sc tr st pz T Wt O SA KA R Ln Ky Ch (X ++ va_pl L (va_up f a (.inr (2, [.long rn, .int po, .int z4, .int sp]))))) := hD
        refine lv_aload_n hx hb dX3_skip_43 rfl (lv_at hl 0 rfl) ?_
        obtain ⟨k6, hk6⟩ := va_pl_get (X := (wC ad ca sd tc sc tr st pz T Wt O SA KA R Ln Ky Ch X)) (L := L) (f := (va_up f a (.inr (2, [.long rn, .int po, .int z4, .int sp])))) haL
        have hk62 := hk6
        rw [(va_up_self f a (.inr (2, [.long rn, .int po, .int z4, .int sp])))] at hk62
        have hPp : va_P D vwCl ((wC ad ca sd tc sc tr st pz T Wt O SA KA R Ln Ky Ch X) ++ va_pl L (va_up f a (.inr (2, [.long rn, .int po, .int z4, .int sp])))) _ := hP
        have hDp : va_D A ((wC ad ca sd tc sc tr st pz T Wt O SA KA R Ln Ky Ch X) ++ va_pl L (va_up f a (.inr (2, [.long rn, .int po, .int z4, .int sp])))) := hD
        refine va_get (D := D) (ci := 2) (v := .int z4) (C := RX2) (T := TX2) (N := 4) hx hb hts iX2 hown hK.1 hPp k6 hk62 rfl 2 (by decide) (hts (.fieldLink RX3 104 "NamedStreams$Stream" "place" "I") (by decide +kernel)) (fun _ h9 => h9) rfl dX3_skip_44 ?_
        exact nk_retI (g := _) (va_up f a (.inr (2, [.long rn, .int po, .int z4, .int sp]))) hx hb hr hlocks hP hD hS dX3_skip_47 (by subst ez4; exact ((if_neg c11).trans ((if_neg c17).trans (if_pos c28))))
      · skip
        refine lv_iconst (v := -1) hx hb dX3_skip_31 (by decide) ?_
        exact nk_retI (g := _) f hx hb hr hlocks hP hD hS dX3_skip_32 (by exact ((if_neg c11).trans ((if_neg c17).trans (if_neg c28))))

set_option maxHeartbeats 800000 in
set_option maxRecDepth 100000 in
theorem mX3_told_S (l : Launch) (D : va_G) (ad : Nat → Nat) (ca : Nat → ClassId) (sd : Int64) (tc : Int32) (sc : Int32) (tr : Int32) (st : Int32) (pz : Int32) (T : Nat → Int64) (Wt : Nat → Int64) (O : Nat → Int32) (SA : Nat → Option Nat) (KA : Nat → Option Nat) (R : Nat → Int64) (Ln : Nat → Int32) (Ky : Nat → Int64) (Ch : Nat → Int64) (X : va_W) (L : List Nat) (f : Nat → va_E) (i0 : Int32) (a : Nat) (rn : Int64) (po pl sp : Int32) (hAt : fAt sc SA i0 = some a) (haL : a ∈ L) (hfa : f a = eSt rn po pl sp) (x0 : Int32) (h8 : sc ≤ 8) : nkRI l yX3_told wsX3_told ({ frames := 1, cells := 0, slots := 0, locals := 21 }) D (tC ca) [.ref (ad 0), .int i0, .int x0] (wC ad ca sd tc sc tr st pz T Wt O SA KA R Ln Ky Ch (X ++ va_pl L f)) (fun r => r = fTold x0 po pl sp) := by
  refine nk_ofR (cc := cX3_told) (maxL := 4) (ret := (some .int)) (by decide) rfl (Nat.le_of_ble_eq_true rfl) ?_
  intro p e s m below meth c hx hb hr hml hts hown hlocks hK hP ls hl
  replace hown : s.vm.findClass RX3 = some m.cls := hown
  replace hl : lv_has ls 4 [(0, .ref (ad 0)), (1, .int i0), (2, .int x0)] := hl
  have hP : va_P D vwCl (wC ad ca sd tc sc tr st pz T Wt O SA KA R Ln Ky Ch (X ++ va_pl L f)) s.heap := hP
  have iX3 : ∀ w ∈ u_ws RX3 TX3 11, w ∈ wsX3_told := by decide +kernel
  have iX2 : ∀ w ∈ u_ws RX2 TX2 4, w ∈ wsX3_told := by decide +kernel
  refine lv_aload_n hx hb dX3_told_0 rfl (lv_at hl 0 rfl) ?_
  refine lv_iload_n hx hb dX3_told_1 rfl (lv_at hl 1 rfl) ?_
  refine nk_VRQ (As := [.int i0]) (rest := []) ⟨hx, hb, hml, hown, hts⟩ (mX3_streamAt l D ad ca sd tc sc tr st pz T Wt O SA KA R Ln Ky Ch (X ++ va_pl L f) i0 h8) (cwV 1 hts gX3_told_X3_streamAt rfl rfl rfl (by decide +kernel) ⟨Nat.le_of_ble_eq_true rfl, Nat.le_of_ble_eq_true rfl⟩) hK hP 0 3 rfl rfl rfl rfl hl.1 rfl (Nat.le_of_ble_eq_true rfl) dX3_told_2 ⟨Nat.le_of_ble_eq_true rfl, Nat.le_of_ble_eq_true rfl⟩ (fun r1 hr1 => ?_)
  subst hr1
  refine W.eq (g2 := F0 m 5 ls [.ref a]) (by rw [hAt]; rfl) ?_
  refine lv_astore_n (lv' := [(3, .ref a), (0, .ref (ad 0)), (1, .int i0), (2, .int x0)]) hx hb dX3_told_5 rfl hl (by decide) rfl (fun ls hl => ?_)
  refine lv_aload_n hx hb dX3_told_6 rfl (lv_at hl 0 rfl) ?_
  refine lv_ifnonnull (tgt := 12) hx hb dX3_told_7 (by decide) ?_
  refine lv_iload_n hx hb dX3_told_12 rfl (lv_at hl 3 rfl) ?_
  by_cases c13_0 : x0 = (0 : Int32)
  · skip
    refine lv_tableIn (tgt := 40) hx hb dX3_told_13 (by rw [c13_0]; decide) (by rw [c13_0]; decide) (by rw [c13_0]; rfl) (by decide) ?_
    refine lv_aload_n hx hb dX3_told_40 rfl (lv_at hl 0 rfl) ?_
    obtain ⟨k2, hk2⟩ := va_pl_get (X := (wC ad ca sd tc sc tr st pz T Wt O SA KA R Ln Ky Ch X)) (L := L) (f := f) haL
    have hk22 := hk2
    rw [hfa] at hk22
    have hPp : va_P D vwCl ((wC ad ca sd tc sc tr st pz T Wt O SA KA R Ln Ky Ch X) ++ va_pl L f) _ := hP
    refine va_get (D := D) (ci := 2) (v := .int po) (C := RX2) (T := TX2) (N := 4) hx hb hts iX2 hown hK.1 hPp k2 hk22 rfl 1 (by decide) (hts (.fieldLink RX3 110 "NamedStreams$Stream" "path" "I") (by decide +kernel)) (fun _ h9 => h9) rfl dX3_told_41 ?_
    exact nk_endI hx hb hr hlocks dX3_told_44 (by exact (if_pos c13_0).symm)
  · skip
    by_cases c13_1 : x0 = (1 : Int32)
    · skip
      refine lv_tableIn (tgt := 45) hx hb dX3_told_13 (by rw [c13_1]; decide) (by rw [c13_1]; decide) (by rw [c13_1]; rfl) (by decide) ?_
      refine lv_aload_n hx hb dX3_told_45 rfl (lv_at hl 0 rfl) ?_
      obtain ⟨k3, hk3⟩ := va_pl_get (X := (wC ad ca sd tc sc tr st pz T Wt O SA KA R Ln Ky Ch X)) (L := L) (f := f) haL
      have hk32 := hk3
      rw [hfa] at hk32
      have hPp : va_P D vwCl ((wC ad ca sd tc sc tr st pz T Wt O SA KA R Ln Ky Ch X) ++ va_pl L f) _ := hP
      refine va_get (D := D) (ci := 2) (v := .int pl) (C := RX2) (T := TX2) (N := 4) hx hb hts iX2 hown hK.1 hPp k3 hk32 rfl 2 (by decide) (hts (.fieldLink RX3 104 "NamedStreams$Stream" "place" "I") (by decide +kernel)) (fun _ h9 => h9) rfl dX3_told_46 ?_
      exact nk_endI hx hb hr hlocks dX3_told_49 (by exact ((if_neg c13_0).trans (if_pos c13_1)).symm)
    · skip
      by_cases c13_2 : x0 = (2 : Int32)
      · skip
        refine lv_tableIn (tgt := 50) hx hb dX3_told_13 (by rw [c13_2]; decide) (by rw [c13_2]; decide) (by rw [c13_2]; rfl) (by decide) ?_
        refine lv_aload_n hx hb dX3_told_50 rfl (lv_at hl 0 rfl) ?_
        obtain ⟨k4, hk4⟩ := va_pl_get (X := (wC ad ca sd tc sc tr st pz T Wt O SA KA R Ln Ky Ch X)) (L := L) (f := f) haL
        have hk42 := hk4
        rw [hfa] at hk42
        have hPp : va_P D vwCl ((wC ad ca sd tc sc tr st pz T Wt O SA KA R Ln Ky Ch X) ++ va_pl L f) _ := hP
        refine va_get (D := D) (ci := 2) (v := .int sp) (C := RX2) (T := TX2) (N := 4) hx hb hts iX2 hown hK.1 hPp k4 hk42 rfl 3 (by decide) (hts (.fieldLink RX3 113 "NamedStreams$Stream" "splits" "I") (by decide +kernel)) (fun _ h9 => h9) rfl dX3_told_51 ?_
        exact nk_endI hx hb hr hlocks dX3_told_54 (by exact ((if_neg c13_0).trans ((if_neg c13_1).trans (if_pos c13_2))).symm)
      · skip
        refine lv_tableOut (tgt := 55) hx hb dX3_told_13 (ns_out (by decide) (by decide) (ns_out3 c13_0 c13_1 c13_2)) (by decide) ?_
        refine lv_iconst (v := -1) hx hb dX3_told_55 (by decide) ?_
        exact nk_endI hx hb hr hlocks dX3_told_56 (by exact ((if_neg c13_0).trans ((if_neg c13_1).trans (if_neg c13_2))).symm)

set_option maxHeartbeats 800000 in
set_option maxRecDepth 100000 in
theorem mX2_init (l : Launch) (D : va_G) (tys : List (ClassId × FieldType)) (Z : va_W) (L : List Nat) (f : Nat → va_E) (a : Nat) (haL : a ∈ L) (hfa : f a = .inr (2, [.long 0, .int 0, .int 0, .int 0])) (r0 : Int64) (p0 : Int32) : nkMV l yX2_init wsX2_init ({ frames := 1, cells := 0, slots := 0, locals := 12 }) D tys [.ref a, .long r0, .int p0] (Z ++ va_pl L f) (fun u : Nat → va_E => Z ++ va_pl L u) (fun u => u = va_up f a (eSt r0 p0 0 0)) 0 0 := by
  refine nk_ofM (Qf := fun A => va_Qv (fun u => u = va_up f a (eSt r0 p0 0 0)) (nkB D A (fun u : Nat → va_E => Z ++ va_pl L u)) A) (cc := cX2_init) (maxL := 4) (ret := none) (by decide) rfl (Nat.le_of_ble_eq_true rfl) ?_
  intro p e s m below meth c A hx hb hr hml hts hown hlocks hin hK hP hD hA hS ls hl
  replace hown : s.vm.findClass RX2 = some m.cls := hown
  replace hl : lv_has ls 4 [(0, .ref a), (1, .long r0), (3, .int p0)] := hl
  have hP : va_P D vwCl (Z ++ va_pl L f) s.heap := hP
  have iX2 : ∀ w ∈ u_ws RX2 TX2 4, w ∈ wsX2_init := by decide +kernel
  refine lv_aload_n hx hb dX2_init_0 rfl (lv_at hl 0 rfl) ?_
  refine W.objInit hx hb hown (hts (.methodLink RX2 1 objectInit) (by decide +kernel)) (hts (.instanceMethod objectInit) (by decide +kernel)) (hts (.code objectInit ⟨#[0xb1]⟩ 1 none) (by decide +kernel)) rfl (by rw [hml]; exact hl.1) rfl dX2_init_1 (Nat.le_of_ble_eq_true rfl) (Nat.le_of_ble_eq_true rfl) ?_
  refine W.eq (g2 := F0 m 4 ls []) rfl ?_
  refine lv_aload_n hx hb dX2_init_4 rfl (lv_at hl 0 rfl) ?_
  refine lv_iconst (v := 0) hx hb dX2_init_5 (by decide) ?_
  obtain ⟨k1, hk1⟩ := va_pl_get (X := Z) (L := L) (f := f) haL
  have hk12 := hk1
  rw [hfa] at hk12
  have hPp : va_P D vwCl (Z ++ va_pl L f) _ := hP
  have hDp : va_D A (Z ++ va_pl L f) := hD
  refine va_put (D := D) (ci := 2) (v := .int (0 : Int32)) (ty := .int) (C := RX2) (T := TX2) (N := 4) hx hb hts iX2 tyX2 tyX2_ok nmX2 hown hK.1 hPp hDp hS k1 hk12 rfl 2 (by decide) (hts (.fieldLink RX2 7 "NamedStreams$Stream" "place" "I") (by decide +kernel)) (fun _ h9 => h9) rfl (by decide +kernel) rfl rfl (Nat.le_of_ble_eq_true rfl) dX2_init_6 (fun H locs hP hD hS => ?_)
  have hP : va_P D vwCl ((Z ++ va_pl L f).set k1 (a, .inr (2, [.long (0 : Int64), .int (0 : Int32), .int (0 : Int32), .int (0 : Int32)]))) H := hP
  have hD : va_D A ((Z ++ va_pl L f).set k1 (a, .inr (2, [.long (0 : Int64), .int (0 : Int32), .int (0 : Int32), .int (0 : Int32)]))) := hD
  rw [va_pl_set hDp haL hk1] at hP hD
  have hP : va_P D vwCl (Z ++ va_pl L (va_up f a (.inr (2, [.long (0 : Int64), .int (0 : Int32), .int (0 : Int32), .int (0 : Int32)])))) H := hP
  have hD : va_D A (Z ++ va_pl L (va_up f a (.inr (2, [.long (0 : Int64), .int (0 : Int32), .int (0 : Int32), .int (0 : Int32)])))) := hD
  refine lv_aload_n hx hb dX2_init_9 rfl (lv_at hl 0 rfl) ?_
  refine lv_iconst (v := 0) hx hb dX2_init_10 (by decide) ?_
  obtain ⟨k2, hk2⟩ := va_pl_get (X := Z) (L := L) (f := (va_up f a (.inr (2, [.long (0 : Int64), .int (0 : Int32), .int (0 : Int32), .int (0 : Int32)])))) haL
  have hk22 := hk2
  rw [(va_up_self f a (.inr (2, [.long (0 : Int64), .int (0 : Int32), .int (0 : Int32), .int (0 : Int32)])))] at hk22
  have hPp : va_P D vwCl (Z ++ va_pl L (va_up f a (.inr (2, [.long (0 : Int64), .int (0 : Int32), .int (0 : Int32), .int (0 : Int32)])))) _ := hP
  have hDp : va_D A (Z ++ va_pl L (va_up f a (.inr (2, [.long (0 : Int64), .int (0 : Int32), .int (0 : Int32), .int (0 : Int32)])))) := hD
  refine va_put (D := D) (ci := 2) (v := .int (0 : Int32)) (ty := .int) (C := RX2) (T := TX2) (N := 4) hx hb hts iX2 tyX2 tyX2_ok nmX2 hown hK.1 hPp hDp hS k2 hk22 rfl 3 (by decide) (hts (.fieldLink RX2 13 "NamedStreams$Stream" "splits" "I") (by decide +kernel)) (fun _ h9 => h9) rfl (by decide +kernel) rfl rfl (Nat.le_of_ble_eq_true rfl) dX2_init_11 (fun H locs hP hD hS => ?_)
  have hP : va_P D vwCl ((Z ++ va_pl L (va_up f a (.inr (2, [.long (0 : Int64), .int (0 : Int32), .int (0 : Int32), .int (0 : Int32)])))).set k2 (a, .inr (2, [.long (0 : Int64), .int (0 : Int32), .int (0 : Int32), .int (0 : Int32)]))) H := hP
  have hD : va_D A ((Z ++ va_pl L (va_up f a (.inr (2, [.long (0 : Int64), .int (0 : Int32), .int (0 : Int32), .int (0 : Int32)])))).set k2 (a, .inr (2, [.long (0 : Int64), .int (0 : Int32), .int (0 : Int32), .int (0 : Int32)]))) := hD
  rw [va_pl_set hDp haL hk2] at hP hD
  have hP : va_P D vwCl (Z ++ va_pl L (va_up (va_up f a (.inr (2, [.long (0 : Int64), .int (0 : Int32), .int (0 : Int32), .int (0 : Int32)]))) a (.inr (2, [.long (0 : Int64), .int (0 : Int32), .int (0 : Int32), .int (0 : Int32)])))) H := hP
  have hD : va_D A (Z ++ va_pl L (va_up (va_up f a (.inr (2, [.long (0 : Int64), .int (0 : Int32), .int (0 : Int32), .int (0 : Int32)]))) a (.inr (2, [.long (0 : Int64), .int (0 : Int32), .int (0 : Int32), .int (0 : Int32)])))) := hD
  refine lv_aload_n hx hb dX2_init_14 rfl (lv_at hl 0 rfl) ?_
  refine lv_lload_n hx hb dX2_init_15 rfl (lv_at hl 1 rfl) ?_
  obtain ⟨k3, hk3⟩ := va_pl_get (X := Z) (L := L) (f := (va_up (va_up f a (.inr (2, [.long (0 : Int64), .int (0 : Int32), .int (0 : Int32), .int (0 : Int32)]))) a (.inr (2, [.long (0 : Int64), .int (0 : Int32), .int (0 : Int32), .int (0 : Int32)])))) haL
  have hk32 := hk3
  rw [(va_up_self (va_up f a (.inr (2, [.long (0 : Int64), .int (0 : Int32), .int (0 : Int32), .int (0 : Int32)]))) a (.inr (2, [.long (0 : Int64), .int (0 : Int32), .int (0 : Int32), .int (0 : Int32)])))] at hk32
  have hPp : va_P D vwCl (Z ++ va_pl L (va_up (va_up f a (.inr (2, [.long (0 : Int64), .int (0 : Int32), .int (0 : Int32), .int (0 : Int32)]))) a (.inr (2, [.long (0 : Int64), .int (0 : Int32), .int (0 : Int32), .int (0 : Int32)])))) _ := hP
  have hDp : va_D A (Z ++ va_pl L (va_up (va_up f a (.inr (2, [.long (0 : Int64), .int (0 : Int32), .int (0 : Int32), .int (0 : Int32)]))) a (.inr (2, [.long (0 : Int64), .int (0 : Int32), .int (0 : Int32), .int (0 : Int32)])))) := hD
  refine va_putF (D := D) (ci := 2) (v := .long r0) (ty := .long) (C := RX2) (T := TX2) (N := 4) hx hb hts iX2 tyX2 tyX2_ok nmX2 hown hK.1 hPp hDp hS k3 hk32 rfl 0 (by decide) (hts (.fieldLink RX2 16 "NamedStreams$Stream" "run" "J") (by decide +kernel)) (fun _ h9 => h9) rfl hin rfl (by decide +kernel) rfl rfl (Nat.le_of_ble_eq_true rfl) dX2_init_16 (fun H locs hP hD hS => ?_)
  have hP : va_P D vwCl ((Z ++ va_pl L (va_up (va_up f a (.inr (2, [.long (0 : Int64), .int (0 : Int32), .int (0 : Int32), .int (0 : Int32)]))) a (.inr (2, [.long (0 : Int64), .int (0 : Int32), .int (0 : Int32), .int (0 : Int32)])))).set k3 (a, .inr (2, [.long r0, .int (0 : Int32), .int (0 : Int32), .int (0 : Int32)]))) H := hP
  have hD : va_D A ((Z ++ va_pl L (va_up (va_up f a (.inr (2, [.long (0 : Int64), .int (0 : Int32), .int (0 : Int32), .int (0 : Int32)]))) a (.inr (2, [.long (0 : Int64), .int (0 : Int32), .int (0 : Int32), .int (0 : Int32)])))).set k3 (a, .inr (2, [.long r0, .int (0 : Int32), .int (0 : Int32), .int (0 : Int32)]))) := hD
  rw [va_pl_set hDp haL hk3] at hP hD
  have hP : va_P D vwCl (Z ++ va_pl L (va_up (va_up (va_up f a (.inr (2, [.long (0 : Int64), .int (0 : Int32), .int (0 : Int32), .int (0 : Int32)]))) a (.inr (2, [.long (0 : Int64), .int (0 : Int32), .int (0 : Int32), .int (0 : Int32)]))) a (.inr (2, [.long r0, .int (0 : Int32), .int (0 : Int32), .int (0 : Int32)])))) H := hP
  have hD : va_D A (Z ++ va_pl L (va_up (va_up (va_up f a (.inr (2, [.long (0 : Int64), .int (0 : Int32), .int (0 : Int32), .int (0 : Int32)]))) a (.inr (2, [.long (0 : Int64), .int (0 : Int32), .int (0 : Int32), .int (0 : Int32)]))) a (.inr (2, [.long r0, .int (0 : Int32), .int (0 : Int32), .int (0 : Int32)])))) := hD
  refine lv_aload_n hx hb dX2_init_19 rfl (lv_at hl 0 rfl) ?_
  refine lv_iload_n hx hb dX2_init_20 rfl (lv_at hl 2 rfl) ?_
  obtain ⟨k4, hk4⟩ := va_pl_get (X := Z) (L := L) (f := (va_up (va_up (va_up f a (.inr (2, [.long (0 : Int64), .int (0 : Int32), .int (0 : Int32), .int (0 : Int32)]))) a (.inr (2, [.long (0 : Int64), .int (0 : Int32), .int (0 : Int32), .int (0 : Int32)]))) a (.inr (2, [.long r0, .int (0 : Int32), .int (0 : Int32), .int (0 : Int32)])))) haL
  have hk42 := hk4
  rw [(va_up_self (va_up (va_up f a (.inr (2, [.long (0 : Int64), .int (0 : Int32), .int (0 : Int32), .int (0 : Int32)]))) a (.inr (2, [.long (0 : Int64), .int (0 : Int32), .int (0 : Int32), .int (0 : Int32)]))) a (.inr (2, [.long r0, .int (0 : Int32), .int (0 : Int32), .int (0 : Int32)])))] at hk42
  have hPp : va_P D vwCl (Z ++ va_pl L (va_up (va_up (va_up f a (.inr (2, [.long (0 : Int64), .int (0 : Int32), .int (0 : Int32), .int (0 : Int32)]))) a (.inr (2, [.long (0 : Int64), .int (0 : Int32), .int (0 : Int32), .int (0 : Int32)]))) a (.inr (2, [.long r0, .int (0 : Int32), .int (0 : Int32), .int (0 : Int32)])))) _ := hP
  have hDp : va_D A (Z ++ va_pl L (va_up (va_up (va_up f a (.inr (2, [.long (0 : Int64), .int (0 : Int32), .int (0 : Int32), .int (0 : Int32)]))) a (.inr (2, [.long (0 : Int64), .int (0 : Int32), .int (0 : Int32), .int (0 : Int32)]))) a (.inr (2, [.long r0, .int (0 : Int32), .int (0 : Int32), .int (0 : Int32)])))) := hD
  refine va_putF (D := D) (ci := 2) (v := .int p0) (ty := .int) (C := RX2) (T := TX2) (N := 4) hx hb hts iX2 tyX2 tyX2_ok nmX2 hown hK.1 hPp hDp hS k4 hk42 rfl 1 (by decide) (hts (.fieldLink RX2 20 "NamedStreams$Stream" "path" "I") (by decide +kernel)) (fun _ h9 => h9) rfl hin rfl (by decide +kernel) rfl rfl (Nat.le_of_ble_eq_true rfl) dX2_init_21 (fun H locs hP hD hS => ?_)
  have hP : va_P D vwCl ((Z ++ va_pl L (va_up (va_up (va_up f a (.inr (2, [.long (0 : Int64), .int (0 : Int32), .int (0 : Int32), .int (0 : Int32)]))) a (.inr (2, [.long (0 : Int64), .int (0 : Int32), .int (0 : Int32), .int (0 : Int32)]))) a (.inr (2, [.long r0, .int (0 : Int32), .int (0 : Int32), .int (0 : Int32)])))).set k4 (a, .inr (2, [.long r0, .int p0, .int (0 : Int32), .int (0 : Int32)]))) H := hP
  have hD : va_D A ((Z ++ va_pl L (va_up (va_up (va_up f a (.inr (2, [.long (0 : Int64), .int (0 : Int32), .int (0 : Int32), .int (0 : Int32)]))) a (.inr (2, [.long (0 : Int64), .int (0 : Int32), .int (0 : Int32), .int (0 : Int32)]))) a (.inr (2, [.long r0, .int (0 : Int32), .int (0 : Int32), .int (0 : Int32)])))).set k4 (a, .inr (2, [.long r0, .int p0, .int (0 : Int32), .int (0 : Int32)]))) := hD
  rw [va_pl_set hDp haL hk4] at hP hD
  have hP : va_P D vwCl (Z ++ va_pl L (va_up (va_up (va_up (va_up f a (.inr (2, [.long (0 : Int64), .int (0 : Int32), .int (0 : Int32), .int (0 : Int32)]))) a (.inr (2, [.long (0 : Int64), .int (0 : Int32), .int (0 : Int32), .int (0 : Int32)]))) a (.inr (2, [.long r0, .int (0 : Int32), .int (0 : Int32), .int (0 : Int32)]))) a (.inr (2, [.long r0, .int p0, .int (0 : Int32), .int (0 : Int32)])))) H := hP
  have hD : va_D A (Z ++ va_pl L (va_up (va_up (va_up (va_up f a (.inr (2, [.long (0 : Int64), .int (0 : Int32), .int (0 : Int32), .int (0 : Int32)]))) a (.inr (2, [.long (0 : Int64), .int (0 : Int32), .int (0 : Int32), .int (0 : Int32)]))) a (.inr (2, [.long r0, .int (0 : Int32), .int (0 : Int32), .int (0 : Int32)]))) a (.inr (2, [.long r0, .int p0, .int (0 : Int32), .int (0 : Int32)])))) := hD
  exact nk_retV (g := _) (va_up (va_up (va_up (va_up f a (.inr (2, [.long (0 : Int64), .int (0 : Int32), .int (0 : Int32), .int (0 : Int32)]))) a (.inr (2, [.long (0 : Int64), .int (0 : Int32), .int (0 : Int32), .int (0 : Int32)]))) a (.inr (2, [.long r0, .int (0 : Int32), .int (0 : Int32), .int (0 : Int32)]))) a (.inr (2, [.long r0, .int p0, .int (0 : Int32), .int (0 : Int32)]))) hx hb hr hlocks hP hD hS dX2_init_24 (by simp only [bx_uu])

set_option maxHeartbeats 800000 in
set_option maxRecDepth 100000 in
theorem mX0_init (l : Launch) (D : va_G) (tys : List (ClassId × FieldType)) (Z : va_W) (L : List Nat) (f : Nat → va_E) (a : Nat) (haL : a ∈ L) (hfa : f a = .inr (0, [.int 0, .int 0, .int 0])) : nkMV l yX0_init wsX0_init ({ frames := 1, cells := 0, slots := 0, locals := 12 }) D tys [.ref a] (Z ++ va_pl L f) (fun u : Nat → va_E => Z ++ va_pl L u) (fun u => u = va_up f a (eKp 0 0 0)) 0 0 := by
  refine nk_ofM (Qf := fun A => va_Qv (fun u => u = va_up f a (eKp 0 0 0)) (nkB D A (fun u : Nat → va_E => Z ++ va_pl L u)) A) (cc := cX0_init) (maxL := 1) (ret := none) (by decide) rfl (Nat.le_of_ble_eq_true rfl) ?_
  intro p e s m below meth c A hx hb hr hml hts hown hlocks hin hK hP hD hA hS ls hl
  replace hown : s.vm.findClass RX0 = some m.cls := hown
  replace hl : lv_has ls 1 [(0, .ref a)] := hl
  have hP : va_P D vwCl (Z ++ va_pl L f) s.heap := hP
  have iX0 : ∀ w ∈ u_ws RX0 TX0 3, w ∈ wsX0_init := by decide +kernel
  refine lv_aload_n hx hb dX0_init_0 rfl (lv_at hl 0 rfl) ?_
  refine W.objInit hx hb hown (hts (.methodLink RX0 1 objectInit) (by decide +kernel)) (hts (.instanceMethod objectInit) (by decide +kernel)) (hts (.code objectInit ⟨#[0xb1]⟩ 1 none) (by decide +kernel)) rfl (by rw [hml]; exact hl.1) rfl dX0_init_1 (Nat.le_of_ble_eq_true rfl) (Nat.le_of_ble_eq_true rfl) ?_
  refine W.eq (g2 := F0 m 4 ls []) rfl ?_
  refine lv_aload_n hx hb dX0_init_4 rfl (lv_at hl 0 rfl) ?_
  refine lv_iconst (v := 0) hx hb dX0_init_5 (by decide) ?_
  obtain ⟨k1, hk1⟩ := va_pl_get (X := Z) (L := L) (f := f) haL
  have hk12 := hk1
  rw [hfa] at hk12
  have hPp : va_P D vwCl (Z ++ va_pl L f) _ := hP
  have hDp : va_D A (Z ++ va_pl L f) := hD
  refine va_put (D := D) (ci := 0) (v := .int (0 : Int32)) (ty := .int) (C := RX0) (T := TX0) (N := 3) hx hb hts iX0 tyX0 tyX0_ok nmX0 hown hK.1 hPp hDp hS k1 hk12 rfl 0 (by decide) (hts (.fieldLink RX0 7 "NamedStreams$Kept" "stream" "I") (by decide +kernel)) (fun _ h9 => h9) rfl (by decide +kernel) rfl rfl (Nat.le_of_ble_eq_true rfl) dX0_init_6 (fun H locs hP hD hS => ?_)
  have hP : va_P D vwCl ((Z ++ va_pl L f).set k1 (a, .inr (0, [.int (0 : Int32), .int (0 : Int32), .int (0 : Int32)]))) H := hP
  have hD : va_D A ((Z ++ va_pl L f).set k1 (a, .inr (0, [.int (0 : Int32), .int (0 : Int32), .int (0 : Int32)]))) := hD
  rw [va_pl_set hDp haL hk1] at hP hD
  have hP : va_P D vwCl (Z ++ va_pl L (va_up f a (.inr (0, [.int (0 : Int32), .int (0 : Int32), .int (0 : Int32)])))) H := hP
  have hD : va_D A (Z ++ va_pl L (va_up f a (.inr (0, [.int (0 : Int32), .int (0 : Int32), .int (0 : Int32)])))) := hD
  refine lv_aload_n hx hb dX0_init_9 rfl (lv_at hl 0 rfl) ?_
  refine lv_iconst (v := 0) hx hb dX0_init_10 (by decide) ?_
  obtain ⟨k2, hk2⟩ := va_pl_get (X := Z) (L := L) (f := (va_up f a (.inr (0, [.int (0 : Int32), .int (0 : Int32), .int (0 : Int32)])))) haL
  have hk22 := hk2
  rw [(va_up_self f a (.inr (0, [.int (0 : Int32), .int (0 : Int32), .int (0 : Int32)])))] at hk22
  have hPp : va_P D vwCl (Z ++ va_pl L (va_up f a (.inr (0, [.int (0 : Int32), .int (0 : Int32), .int (0 : Int32)])))) _ := hP
  have hDp : va_D A (Z ++ va_pl L (va_up f a (.inr (0, [.int (0 : Int32), .int (0 : Int32), .int (0 : Int32)])))) := hD
  refine va_put (D := D) (ci := 0) (v := .int (0 : Int32)) (ty := .int) (C := RX0) (T := TX0) (N := 3) hx hb hts iX0 tyX0 tyX0_ok nmX0 hown hK.1 hPp hDp hS k2 hk22 rfl 1 (by decide) (hts (.fieldLink RX0 13 "NamedStreams$Kept" "place" "I") (by decide +kernel)) (fun _ h9 => h9) rfl (by decide +kernel) rfl rfl (Nat.le_of_ble_eq_true rfl) dX0_init_11 (fun H locs hP hD hS => ?_)
  have hP : va_P D vwCl ((Z ++ va_pl L (va_up f a (.inr (0, [.int (0 : Int32), .int (0 : Int32), .int (0 : Int32)])))).set k2 (a, .inr (0, [.int (0 : Int32), .int (0 : Int32), .int (0 : Int32)]))) H := hP
  have hD : va_D A ((Z ++ va_pl L (va_up f a (.inr (0, [.int (0 : Int32), .int (0 : Int32), .int (0 : Int32)])))).set k2 (a, .inr (0, [.int (0 : Int32), .int (0 : Int32), .int (0 : Int32)]))) := hD
  rw [va_pl_set hDp haL hk2] at hP hD
  have hP : va_P D vwCl (Z ++ va_pl L (va_up (va_up f a (.inr (0, [.int (0 : Int32), .int (0 : Int32), .int (0 : Int32)]))) a (.inr (0, [.int (0 : Int32), .int (0 : Int32), .int (0 : Int32)])))) H := hP
  have hD : va_D A (Z ++ va_pl L (va_up (va_up f a (.inr (0, [.int (0 : Int32), .int (0 : Int32), .int (0 : Int32)]))) a (.inr (0, [.int (0 : Int32), .int (0 : Int32), .int (0 : Int32)])))) := hD
  refine lv_aload_n hx hb dX0_init_14 rfl (lv_at hl 0 rfl) ?_
  refine lv_iconst (v := 0) hx hb dX0_init_15 (by decide) ?_
  obtain ⟨k3, hk3⟩ := va_pl_get (X := Z) (L := L) (f := (va_up (va_up f a (.inr (0, [.int (0 : Int32), .int (0 : Int32), .int (0 : Int32)]))) a (.inr (0, [.int (0 : Int32), .int (0 : Int32), .int (0 : Int32)])))) haL
  have hk32 := hk3
  rw [(va_up_self (va_up f a (.inr (0, [.int (0 : Int32), .int (0 : Int32), .int (0 : Int32)]))) a (.inr (0, [.int (0 : Int32), .int (0 : Int32), .int (0 : Int32)])))] at hk32
  have hPp : va_P D vwCl (Z ++ va_pl L (va_up (va_up f a (.inr (0, [.int (0 : Int32), .int (0 : Int32), .int (0 : Int32)]))) a (.inr (0, [.int (0 : Int32), .int (0 : Int32), .int (0 : Int32)])))) _ := hP
  have hDp : va_D A (Z ++ va_pl L (va_up (va_up f a (.inr (0, [.int (0 : Int32), .int (0 : Int32), .int (0 : Int32)]))) a (.inr (0, [.int (0 : Int32), .int (0 : Int32), .int (0 : Int32)])))) := hD
  refine va_put (D := D) (ci := 0) (v := .int (0 : Int32)) (ty := .int) (C := RX0) (T := TX0) (N := 3) hx hb hts iX0 tyX0 tyX0_ok nmX0 hown hK.1 hPp hDp hS k3 hk32 rfl 2 (by decide) (hts (.fieldLink RX0 16 "NamedStreams$Kept" "splits" "I") (by decide +kernel)) (fun _ h9 => h9) rfl (by decide +kernel) rfl rfl (Nat.le_of_ble_eq_true rfl) dX0_init_16 (fun H locs hP hD hS => ?_)
  have hP : va_P D vwCl ((Z ++ va_pl L (va_up (va_up f a (.inr (0, [.int (0 : Int32), .int (0 : Int32), .int (0 : Int32)]))) a (.inr (0, [.int (0 : Int32), .int (0 : Int32), .int (0 : Int32)])))).set k3 (a, .inr (0, [.int (0 : Int32), .int (0 : Int32), .int (0 : Int32)]))) H := hP
  have hD : va_D A ((Z ++ va_pl L (va_up (va_up f a (.inr (0, [.int (0 : Int32), .int (0 : Int32), .int (0 : Int32)]))) a (.inr (0, [.int (0 : Int32), .int (0 : Int32), .int (0 : Int32)])))).set k3 (a, .inr (0, [.int (0 : Int32), .int (0 : Int32), .int (0 : Int32)]))) := hD
  rw [va_pl_set hDp haL hk3] at hP hD
  have hP : va_P D vwCl (Z ++ va_pl L (va_up (va_up (va_up f a (.inr (0, [.int (0 : Int32), .int (0 : Int32), .int (0 : Int32)]))) a (.inr (0, [.int (0 : Int32), .int (0 : Int32), .int (0 : Int32)]))) a (.inr (0, [.int (0 : Int32), .int (0 : Int32), .int (0 : Int32)])))) H := hP
  have hD : va_D A (Z ++ va_pl L (va_up (va_up (va_up f a (.inr (0, [.int (0 : Int32), .int (0 : Int32), .int (0 : Int32)]))) a (.inr (0, [.int (0 : Int32), .int (0 : Int32), .int (0 : Int32)]))) a (.inr (0, [.int (0 : Int32), .int (0 : Int32), .int (0 : Int32)])))) := hD
  exact nk_retV (g := _) (va_up (va_up (va_up f a (.inr (0, [.int (0 : Int32), .int (0 : Int32), .int (0 : Int32)]))) a (.inr (0, [.int (0 : Int32), .int (0 : Int32), .int (0 : Int32)]))) a (.inr (0, [.int (0 : Int32), .int (0 : Int32), .int (0 : Int32)]))) hx hb hr hlocks hP hD hS dX0_init_19 (by simp only [bx_uu])
end
section
theorem nk_push {X : va_W} {L : List Nat} {f : Nat → va_E} {q : Nat} {e : va_E} (h : q ∉ L) : (X ++ va_pl L f) ++ [(q, e)] = X ++ va_pl (L ++ [q]) (va_up f q e) := by rw [List.append_assoc, va_pl_push h]
set_option maxHeartbeats 800000 in
set_option maxRecDepth 100000 in
theorem mX3_addStream (l : Launch) (D : va_G) (ad : Nat → Nat) (ca : Nat → ClassId) (sd : Int64) (tc : Int32) (sc : Int32) (tr : Int32) (st : Int32) (pz : Int32) (T : Nat → Int64) (Wt : Nat → Int64) (O : Nat → Int32) (SA : Nat → Option Nat) (KA : Nat → Option Nat) (R : Nat → Int64) (Ln : Nat → Int32) (Ky : Nat → Int64) (Ch : Nat → Int64) (X : va_W) (L : List Nat) (f : Nat → va_E) (r0 : Int64) (p0 : Int32) (h0 : 0 ≤ sc) (h8 : sc < 8) : nkMI l yX3_addStream wsX3_addStream ({ frames := 2, cells := 1, slots := 4, locals := 35 }) D (tC ca) [.ref (ad 0), .long r0, .int p0] (wC ad ca sd tc sc tr st pz T Wt O SA KA R Ln Ky Ch (X ++ va_pl L f)) (fun u : Nat × Int32 => wC ad ca sd tc u.2 tr st pz T Wt O (va_up SA (Int32.toNatClampNeg sc) (some u.1)) KA R Ln Ky Ch (X ++ va_pl (L ++ [u.1]) (va_up f u.1 (eSt r0 p0 0 0)))) (fun r u => sc = r ∧ u.1 ∉ L ∧ sc + 1 = u.2) 1 4 := by
  refine nk_ofM (Qf := fun A => va_Qi (fun r u => sc = r ∧ u.1 ∉ L ∧ sc + 1 = u.2) (nkB D A (fun u : Nat × Int32 => wC ad ca sd tc u.2 tr st pz T Wt O (va_up SA (Int32.toNatClampNeg sc) (some u.1)) KA R Ln Ky Ch (X ++ va_pl (L ++ [u.1]) (va_up f u.1 (eSt r0 p0 0 0))))) A) (cc := cX3_addStream) (maxL := 5) (ret := (some .int)) (by decide) rfl (Nat.le_of_ble_eq_true rfl) ?_
  intro p e s m below meth c A hx hb hr hml hts hown hlocks hin hK hP hD hA hS ls hl
  replace hown : s.vm.findClass RX3 = some m.cls := hown
  replace hl : lv_has ls 5 [(0, .ref (ad 0)), (1, .long r0), (3, .int p0)] := hl
  have hP : va_P D vwCl (wC ad ca sd tc sc tr st pz T Wt O SA KA R Ln Ky Ch (X ++ va_pl L f)) s.heap := hP
  have iX3 : ∀ w ∈ u_ws RX3 TX3 11, w ∈ wsX3_addStream := by decide +kernel
  have iX2 : ∀ w ∈ u_ws RX2 TX2 4, w ∈ wsX3_addStream := by decide +kernel
  refine lv_aload_n hx hb dX3_addStream_0 rfl (lv_at hl 0 rfl) ?_
  refine va_get (D := D) (ci := 3) (v := .int sc) (C := RX3) (T := TX3) (N := 11) hx hb hts iX3 hown hK.1 hP 0 rfl rfl 7 (by decide) (hts (.fieldLink RX3 37 "NamedStreams" "streamCount" "I") (by decide +kernel)) (fun _ h9 => h9) rfl dX3_addStream_1 ?_
  refine lv_istore (lv' := [(4, .int sc), (0, .ref (ad 0)), (1, .long r0), (3, .int p0)]) hx hb dX3_addStream_4 hl (by decide) rfl (fun ls hl => ?_)
  refine lv_aload_n hx hb dX3_addStream_6 rfl (lv_at hl 1 rfl) ?_
  refine va_get (D := D) (ci := 3) (v := .ref (ad 5)) (C := RX3) (T := TX3) (N := 11) hx hb hts iX3 hown hK.1 hP 0 rfl rfl 6 (by decide) (hts (.fieldLink RX3 33 "NamedStreams" "streams" "[LNamedStreams$Stream;") (by decide +kernel)) (fun _ h9 => h9) rfl dX3_addStream_7 ?_
  refine lv_iload hx hb dX3_addStream_10 (lv_at hl 0 rfl) ?_
  have hPn := hP
  refine va_new (ci := 2) (fs := [.long 0, .int 0, .int 0, .int 0]) (C := RX2) (T := TX2) (N := 4) hx hb hts iX2 tyX2 tyX2_ok hown (hts (.classLink RX3 31 RX2) (by decide +kernel)) (hts (.instantiable RX2 4) (by decide +kernel)) (hts (.initialized RX2) (by decide +kernel)) hK.1 hP hD hS hA rfl (fun j hj => by rcases (show j = 0 ∨ j = 1 ∨ j = 2 ∨ j = 3 by omega) with rfl | rfl | rfl | rfl <;> rfl) (Nat.le_of_ble_eq_true rfl) (Nat.le_of_ble_eq_true rfl) dX3_addStream_12 (fun q12 H hP hD hS => ?_)
  have hP : va_P D vwCl (((wC ad ca sd tc sc tr st pz T Wt O SA KA R Ln Ky Ch X) ++ va_pl L f) ++ [(q12, .inr (2, [.long 0, .int 0, .int 0, .int 0]))]) H := hP
  have hD : va_D A (((wC ad ca sd tc sc tr st pz T Wt O SA KA R Ln Ky Ch X) ++ va_pl L f) ++ [(q12, .inr (2, [.long 0, .int 0, .int 0, .int 0]))]) := hD
  have hq12 := va_pl_fresh2 hD
  rw [nk_push hq12] at hP hD
  have hP : va_P D vwCl (wC ad ca sd tc sc tr st pz T Wt O SA KA R Ln Ky Ch (X ++ va_pl (L ++ [q12]) (va_up f q12 (.inr (2, [.long 0, .int 0, .int 0, .int 0]))))) H := hP
  have hD : va_D A (wC ad ca sd tc sc tr st pz T Wt O SA KA R Ln Ky Ch (X ++ va_pl (L ++ [q12]) (va_up f q12 (.inr (2, [.long 0, .int 0, .int 0, .int 0]))))) := hD
  refine lv_dup hx hb dX3_addStream_15 rfl ?_
  refine lv_lload_n hx hb dX3_addStream_16 rfl (lv_at hl 2 rfl) ?_
  refine lv_iload_n hx hb dX3_addStream_17 rfl (lv_at hl 3 rfl) ?_
  refine nk_IV (As := [.long r0, .int p0]) (rest := [.ref q12, .int sc, .ref (ad 5)]) ⟨hx, hb, hml, hown, hts⟩ (mX2_init l D (tC ca) (wC ad ca sd tc sc tr st pz T Wt O SA KA R Ln Ky Ch X) (L ++ [q12]) (va_up f q12 (.inr (2, [.long 0, .int 0, .int 0, .int 0]))) q12 (l_in_new L q12) (va_up_self f q12 (.inr (2, [.long 0, .int 0, .int 0, .int 0]))) r0 p0) (cwI 2 hts gX3_addStream_X2_init rfl rfl rfl (hts (.initialized RX2) (by decide +kernel)) (hts (.methodLink RX3 168 yX2_init) (by decide +kernel)) (hts (.instanceMethod yX2_init) (by decide +kernel)) rfl (by decide +kernel) ⟨Nat.le_of_ble_eq_true rfl, Nat.le_of_ble_eq_true rfl⟩) hK hP hD hS hA rfl hl.1 rfl (Nat.le_of_ble_eq_true rfl) dX3_addStream_18 ⟨Nat.le_of_ble_eq_true rfl, Nat.le_of_ble_eq_true rfl⟩ (fun ur1 H locs hr1 hP hD hS => ?_)
  subst hr1
  have hP : va_P D vwCl ((wC ad ca sd tc sc tr st pz T Wt O SA KA R Ln Ky Ch X) ++ va_pl (L ++ [q12]) (va_up (va_up f q12 (.inr (2, [.long 0, .int 0, .int 0, .int 0]))) q12 (.inr (2, [.long r0, .int p0, .int (0 : Int32), .int (0 : Int32)])))) H := hP
  have hD : va_D A ((wC ad ca sd tc sc tr st pz T Wt O SA KA R Ln Ky Ch X) ++ va_pl (L ++ [q12]) (va_up (va_up f q12 (.inr (2, [.long 0, .int 0, .int 0, .int 0]))) q12 (.inr (2, [.long r0, .int p0, .int (0 : Int32), .int (0 : Int32)])))) := hD
  rw [bx_uu] at hP hD
  have hP : va_P D vwCl (wC ad ca sd tc sc tr st pz T Wt O SA KA R Ln Ky Ch (X ++ va_pl (L ++ [q12]) (va_up f q12 (.inr (2, [.long r0, .int p0, .int (0 : Int32), .int (0 : Int32)]))))) H := hP
  have hD : va_D A (wC ad ca sd tc sc tr st pz T Wt O SA KA R Ln Ky Ch (X ++ va_pl (L ++ [q12]) (va_up f q12 (.inr (2, [.long r0, .int p0, .int (0 : Int32), .int (0 : Int32)]))))) := hD
  obtain ⟨k2, hk2⟩ := va_pl_get (X := (wC ad ca sd tc sc tr st pz T Wt O SA KA R Ln Ky Ch X)) (L := (L ++ [q12])) (f := (va_up f q12 (.inr (2, [.long r0, .int p0, .int (0 : Int32), .int (0 : Int32)])))) (l_in_new L q12)
  have hk22 := hk2
  rw [(va_up_self f q12 (.inr (2, [.long r0, .int p0, .int (0 : Int32), .int (0 : Int32)])))] at hk22
  have hPp : va_P D vwCl ((wC ad ca sd tc sc tr st pz T Wt O SA KA R Ln Ky Ch X) ++ va_pl (L ++ [q12]) (va_up f q12 (.inr (2, [.long r0, .int p0, .int (0 : Int32), .int (0 : Int32)])))) _ := hP
  have hDp : va_D A ((wC ad ca sd tc sc tr st pz T Wt O SA KA R Ln Ky Ch X) ++ va_pl (L ++ [q12]) (va_up f q12 (.inr (2, [.long r0, .int p0, .int (0 : Int32), .int (0 : Int32)])))) := hD
  refine va_astq (r := (RX2, TX2, 4)) hx hb hK.1 hPp hDp hS 5 3 k2 2 rfl rfl hk22 rfl (ns_in h0 h8 (by decide)) dX3_addStream_21 (fun H locs hP hD hS => ?_)
  have hP : va_P D vwCl (wC ad ca sd tc sc tr st pz T Wt O (va_up SA (Int32.toNatClampNeg sc) (some q12)) KA R Ln Ky Ch (X ++ va_pl (L ++ [q12]) (va_up f q12 (.inr (2, [.long r0, .int p0, .int (0 : Int32), .int (0 : Int32)]))))) H := hP
  have hD : va_D A (wC ad ca sd tc sc tr st pz T Wt O (va_up SA (Int32.toNatClampNeg sc) (some q12)) KA R Ln Ky Ch (X ++ va_pl (L ++ [q12]) (va_up f q12 (.inr (2, [.long r0, .int p0, .int (0 : Int32), .int (0 : Int32)]))))) := hD
  refine lv_aload_n hx hb dX3_addStream_22 rfl (lv_at hl 1 rfl) ?_
  refine lv_dup hx hb dX3_addStream_23 rfl ?_
  refine va_get (D := D) (ci := 3) (v := .int sc) (C := RX3) (T := TX3) (N := 11) hx hb hts iX3 hown hK.1 hP 0 rfl rfl 7 (by decide) (hts (.fieldLink RX3 37 "NamedStreams" "streamCount" "I") (by decide +kernel)) (fun _ h9 => h9) rfl dX3_addStream_24 ?_
  refine lv_iconst (v := 1) hx hb dX3_addStream_27 (by decide) ?_
  refine lv_iadd hx hb dX3_addStream_28 ?_
  refine lv_topi (fun z3 ez3 => ?_)
  refine va_put (D := D) (ci := 3) (v := .int z3) (ty := .int) (C := RX3) (T := TX3) (N := 11) hx hb hts iX3 tyX3 tyX3_ok nmX3 hown hK.1 hP hD hS 0 rfl rfl 7 (by decide) (hts (.fieldLink RX3 37 "NamedStreams" "streamCount" "I") (by decide +kernel)) (fun _ h9 => h9) rfl (by decide +kernel) rfl rfl (Nat.le_of_ble_eq_true rfl) dX3_addStream_29 (fun H locs hP hD hS => ?_)
  have hP : va_P D vwCl (wC ad ca sd tc z3 tr st pz T Wt O (va_up SA (Int32.toNatClampNeg sc) (some q12)) KA R Ln Ky Ch (X ++ va_pl (L ++ [q12]) (va_up f q12 (.inr (2, [.long r0, .int p0, .int (0 : Int32), .int (0 : Int32)]))))) H := hP
  have hD : va_D A (wC ad ca sd tc z3 tr st pz T Wt O (va_up SA (Int32.toNatClampNeg sc) (some q12)) KA R Ln Ky Ch (X ++ va_pl (L ++ [q12]) (va_up f q12 (.inr (2, [.long r0, .int p0, .int (0 : Int32), .int (0 : Int32)]))))) := hD
  refine lv_iload hx hb dX3_addStream_32 (lv_at hl 0 rfl) ?_
  exact nk_retI (g := _) (q12, z3) hx hb hr hlocks hP hD hS dX3_addStream_34 ⟨rfl, hq12, ez3.symm⟩

set_option maxHeartbeats 800000 in
set_option maxRecDepth 100000 in
theorem mX3_open_B (l : Launch) (D : va_G) (ad : Nat → Nat) (ca : Nat → ClassId) (sd : Int64) (tc : Int32) (sc : Int32) (tr : Int32) (st : Int32) (pz : Int32) (T : Nat → Int64) (Wt : Nat → Int64) (O : Nat → Int32) (SA : Nat → Option Nat) (KA : Nat → Option Nat) (R : Nat → Int64) (Ln : Nat → Int32) (Ky : Nat → Int64) (Ch : Nat → Int64) (X : va_W) (L : List Nat) (f : Nat → va_E) (r0 : Int64) (p0 : Int32) (hB : fHas pz p0 = 0 ∨ ¬ sc < 8) : nkMI l yX3_open wsX3_open ({ frames := 3, cells := 0, slots := 0, locals := 59 }) D (tC ca) [.ref (ad 0), .long r0, .int p0] (wC ad ca sd tc sc tr st pz T Wt O SA KA R Ln Ky Ch (X ++ va_pl L f)) (fun _ : Unit => wC ad ca sd tc sc tr st pz T Wt O SA KA R Ln Ky Ch (X ++ va_pl L f)) (fun r _ => r = if fHas pz p0 = 0 then -1 else -2) 0 0 := by
  refine nk_ofM (Qf := fun A => va_Qi (fun r _ => r = if fHas pz p0 = 0 then -1 else -2) (nkB D A (fun _ : Unit => wC ad ca sd tc sc tr st pz T Wt O SA KA R Ln Ky Ch (X ++ va_pl L f))) A) (cc := cX3_open) (maxL := 4) (ret := (some .int)) (by decide) rfl (Nat.le_of_ble_eq_true rfl) ?_
  intro p e s m below meth c A hx hb hr hml hts hown hlocks hin hK hP hD hA hS ls hl
  replace hown : s.vm.findClass RX3 = some m.cls := hown
  replace hl : lv_has ls 4 [(0, .ref (ad 0)), (1, .long r0), (3, .int p0)] := hl
  have hP : va_P D vwCl (wC ad ca sd tc sc tr st pz T Wt O SA KA R Ln Ky Ch (X ++ va_pl L f)) s.heap := hP
  have iX1 : ∀ w ∈ u_ws RX1 TX1 5, w ∈ wsX3_open := by decide +kernel
  have iX3 : ∀ w ∈ u_ws RX3 TX3 11, w ∈ wsX3_open := by decide +kernel
  have iX2 : ∀ w ∈ u_ws RX2 TX2 4, w ∈ wsX3_open := by decide +kernel
  refine lv_aload_n hx hb dX3_open_0 rfl (lv_at hl 0 rfl) ?_
  refine va_get (D := D) (ci := 3) (v := .ref (ad 2)) (C := RX3) (T := TX3) (N := 11) hx hb hts iX3 hown hK.1 hP 0 rfl rfl 3 (by decide) (hts (.fieldLink RX3 20 "NamedStreams" "paths" "LNamedStreams$Paths;") (by decide +kernel)) (fun _ h9 => h9) rfl dX3_open_1 ?_
  refine lv_iload_n hx hb dX3_open_4 rfl (lv_at hl 2 rfl) ?_
  refine nk_VRI (As := [.int p0]) (rest := []) ⟨hx, hb, hml, hown, hts⟩ (mX1_has l D ad ca sd tc sc tr st pz T Wt O SA KA R Ln Ky Ch (X ++ va_pl L f) p0) (cwV 1 hts gX3_open_X1_has rfl rfl rfl (by decide +kernel) ⟨Nat.le_of_ble_eq_true rfl, Nat.le_of_ble_eq_true rfl⟩) hK hP 2 1 rfl rfl rfl rfl hl.1 rfl (Nat.le_of_ble_eq_true rfl) dX3_open_5 ⟨Nat.le_of_ble_eq_true rfl, Nat.le_of_ble_eq_true rfl⟩ (fun r1 hr1 => ?_)
  subst hr1
  refine lv_if_ne (tgt := 13) hx hb dX3_open_8 (by decide) (fun c8 => ?_) (fun c8 => ?_)
  · skip
    refine lv_aload_n hx hb dX3_open_13 rfl (lv_at hl 0 rfl) ?_
    refine va_get (D := D) (ci := 3) (v := .int sc) (C := RX3) (T := TX3) (N := 11) hx hb hts iX3 hown hK.1 hP 0 rfl rfl 7 (by decide) (hts (.fieldLink RX3 37 "NamedStreams" "streamCount" "I") (by decide +kernel)) (fun _ h9 => h9) rfl dX3_open_14 ?_
    refine lv_bipush (v := 8) hx hb dX3_open_17 (by decide) ?_
    refine lv_icmp_lt (tgt := 25) hx hb dX3_open_19 (by decide) (fun c19 => ?_) (fun c19 => ?_)
    · skip
      exact absurd c19 (hB.elim (fun h => absurd h c8) id)
    · skip
      refine lv_bipush (v := -2) hx hb dX3_open_22 (by decide) ?_
      exact nk_retI (g := _) () hx hb hr hlocks hP hD hS dX3_open_24 (by exact (if_neg c8).symm)
  · skip
    refine lv_iconst (v := -1) hx hb dX3_open_11 (by decide) ?_
    exact nk_retI (g := _) () hx hb hr hlocks hP hD hS dX3_open_12 (by exact (if_pos c8).symm)

set_option maxHeartbeats 800000 in
set_option maxRecDepth 100000 in
theorem mX3_open_A (l : Launch) (D : va_G) (ad : Nat → Nat) (ca : Nat → ClassId) (sd : Int64) (tc : Int32) (sc : Int32) (tr : Int32) (st : Int32) (pz : Int32) (T : Nat → Int64) (Wt : Nat → Int64) (O : Nat → Int32) (SA : Nat → Option Nat) (KA : Nat → Option Nat) (R : Nat → Int64) (Ln : Nat → Int32) (Ky : Nat → Int64) (Ch : Nat → Int64) (X : va_W) (L : List Nat) (f : Nat → va_E) (r0 : Int64) (p0 : Int32) (hB : ¬ fHas pz p0 = 0) (h0 : 0 ≤ sc) (h8 : sc < 8) : nkMI l yX3_open wsX3_open ({ frames := 3, cells := 1, slots := 4, locals := 59 }) D (tC ca) [.ref (ad 0), .long r0, .int p0] (wC ad ca sd tc sc tr st pz T Wt O SA KA R Ln Ky Ch (X ++ va_pl L f)) (fun u : Nat × Int32 => wC ad ca sd tc u.2 tr st pz T Wt O (va_up SA (Int32.toNatClampNeg sc) (some u.1)) KA R Ln Ky Ch (X ++ va_pl (L ++ [u.1]) (va_up f u.1 (eSt r0 p0 0 0)))) (fun r u => sc = r ∧ u.1 ∉ L ∧ sc + 1 = u.2) 1 4 := by
  refine nk_ofM (Qf := fun A => va_Qi (fun r u => sc = r ∧ u.1 ∉ L ∧ sc + 1 = u.2) (nkB D A (fun u : Nat × Int32 => wC ad ca sd tc u.2 tr st pz T Wt O (va_up SA (Int32.toNatClampNeg sc) (some u.1)) KA R Ln Ky Ch (X ++ va_pl (L ++ [u.1]) (va_up f u.1 (eSt r0 p0 0 0))))) A) (cc := cX3_open) (maxL := 4) (ret := (some .int)) (by decide) rfl (Nat.le_of_ble_eq_true rfl) ?_
  intro p e s m below meth c A hx hb hr hml hts hown hlocks hin hK hP hD hA hS ls hl
  replace hown : s.vm.findClass RX3 = some m.cls := hown
  replace hl : lv_has ls 4 [(0, .ref (ad 0)), (1, .long r0), (3, .int p0)] := hl
  have hP : va_P D vwCl (wC ad ca sd tc sc tr st pz T Wt O SA KA R Ln Ky Ch (X ++ va_pl L f)) s.heap := hP
  have iX1 : ∀ w ∈ u_ws RX1 TX1 5, w ∈ wsX3_open := by decide +kernel
  have iX3 : ∀ w ∈ u_ws RX3 TX3 11, w ∈ wsX3_open := by decide +kernel
  have iX2 : ∀ w ∈ u_ws RX2 TX2 4, w ∈ wsX3_open := by decide +kernel
  refine lv_aload_n hx hb dX3_open_0 rfl (lv_at hl 0 rfl) ?_
  refine va_get (D := D) (ci := 3) (v := .ref (ad 2)) (C := RX3) (T := TX3) (N := 11) hx hb hts iX3 hown hK.1 hP 0 rfl rfl 3 (by decide) (hts (.fieldLink RX3 20 "NamedStreams" "paths" "LNamedStreams$Paths;") (by decide +kernel)) (fun _ h9 => h9) rfl dX3_open_1 ?_
  refine lv_iload_n hx hb dX3_open_4 rfl (lv_at hl 2 rfl) ?_
  refine nk_VRI (As := [.int p0]) (rest := []) ⟨hx, hb, hml, hown, hts⟩ (mX1_has l D ad ca sd tc sc tr st pz T Wt O SA KA R Ln Ky Ch (X ++ va_pl L f) p0) (cwV 1 hts gX3_open_X1_has rfl rfl rfl (by decide +kernel) ⟨Nat.le_of_ble_eq_true rfl, Nat.le_of_ble_eq_true rfl⟩) hK hP 2 1 rfl rfl rfl rfl hl.1 rfl (Nat.le_of_ble_eq_true rfl) dX3_open_5 ⟨Nat.le_of_ble_eq_true rfl, Nat.le_of_ble_eq_true rfl⟩ (fun r1 hr1 => ?_)
  subst hr1
  refine lv_if_ne (tgt := 13) hx hb dX3_open_8 (by decide) (fun c8 => ?_) (fun c8 => ?_)
  · skip
    refine lv_aload_n hx hb dX3_open_13 rfl (lv_at hl 0 rfl) ?_
    refine va_get (D := D) (ci := 3) (v := .int sc) (C := RX3) (T := TX3) (N := 11) hx hb hts iX3 hown hK.1 hP 0 rfl rfl 7 (by decide) (hts (.fieldLink RX3 37 "NamedStreams" "streamCount" "I") (by decide +kernel)) (fun _ h9 => h9) rfl dX3_open_14 ?_
    refine lv_bipush (v := 8) hx hb dX3_open_17 (by decide) ?_
    refine lv_icmp_lt (tgt := 25) hx hb dX3_open_19 (by decide) (fun c19 => ?_) (fun c19 => ?_)
    · skip
      refine lv_aload_n hx hb dX3_open_25 rfl (lv_at hl 0 rfl) ?_
      refine lv_lload_n hx hb dX3_open_26 rfl (lv_at hl 1 rfl) ?_
      refine lv_iload_n hx hb dX3_open_27 rfl (lv_at hl 2 rfl) ?_
      refine nk_VI (As := [.long r0, .int p0]) (rest := []) ⟨hx, hb, hml, hown, hts⟩ (mX3_addStream l D ad ca sd tc sc tr st pz T Wt O SA KA R Ln Ky Ch X L f r0 p0 h0 h8) (cwV 2 hts gX3_open_X3_addStream rfl rfl rfl (by decide +kernel) ⟨Nat.le_of_ble_eq_true rfl, Nat.le_of_ble_eq_true rfl⟩) hK hP hD hS hA 0 3 rfl rfl rfl rfl hl.1 rfl (Nat.le_of_ble_eq_true rfl) dX3_open_28 ⟨Nat.le_of_ble_eq_true rfl, Nat.le_of_ble_eq_true rfl⟩ (fun r2 ur2 H locs hr2 hP hD hS => ?_)
      obtain ⟨q9, s9⟩ := ur2
      obtain ⟨rfl, hq9, hs9⟩ := hr2
      have hq9 : q9 ∉ L := hq9
      have hs9 : sc + 1 = s9 := hs9
      have hP : va_P D vwCl (wC ad ca sd tc s9 tr st pz T Wt O (va_up SA (Int32.toNatClampNeg sc) (some q9)) KA R Ln Ky Ch (X ++ va_pl (L ++ [q9]) (va_up f q9 (eSt r0 p0 0 0)))) H := hP
      have hD : va_D A (wC ad ca sd tc s9 tr st pz T Wt O (va_up SA (Int32.toNatClampNeg sc) (some q9)) KA R Ln Ky Ch (X ++ va_pl (L ++ [q9]) (va_up f q9 (eSt r0 p0 0 0)))) := hD
      exact nk_retI (g := _) (q9, s9) hx hb hr hlocks hP hD hS dX3_open_31 ⟨rfl, hq9, hs9⟩
    · skip
      exact absurd h8 c19
  · skip
    exact absurd c8 hB

set_option maxHeartbeats 800000 in
set_option maxRecDepth 100000 in
theorem mX3_split_F (l : Launch) (D : va_G) (ad : Nat → Nat) (ca : Nat → ClassId) (sd : Int64) (tc : Int32) (sc : Int32) (tr : Int32) (st : Int32) (pz : Int32) (T : Nat → Int64) (Wt : Nat → Int64) (O : Nat → Int32) (SA : Nat → Option Nat) (KA : Nat → Option Nat) (R : Nat → Int64) (Ln : Nat → Int32) (Ky : Nat → Int64) (Ch : Nat → Int64) (X : va_W) (L : List Nat) (f : Nat → va_E) (i0 : Int32) (a : Nat) (rn : Int64) (po pl sp : Int32) (hAt : fAt sc SA i0 = some a) (haL : a ∈ L) (hfa : f a = eSt rn po pl sp) (h8 : sc ≤ 8) (hF : ¬ sc < 8) : nkMI l yX3_split wsX3_split ({ frames := 4, cells := 0, slots := 0, locals := 97 }) D (tC ca) [.ref (ad 0), .int i0] (wC ad ca sd tc sc tr st pz T Wt O SA KA R Ln Ky Ch (X ++ va_pl L f)) (fun _ : Unit => wC ad ca sd tc sc tr st pz T Wt O SA KA R Ln Ky Ch (X ++ va_pl L f)) (fun r _ => r = -2) 0 0 := by
  refine nk_ofM (Qf := fun A => va_Qi (fun r _ => r = -2) (nkB D A (fun _ : Unit => wC ad ca sd tc sc tr st pz T Wt O SA KA R Ln Ky Ch (X ++ va_pl L f))) A) (cc := cX3_split) (maxL := 4) (ret := (some .int)) (by decide) rfl (Nat.le_of_ble_eq_true rfl) ?_
  intro p e s m below meth c A hx hb hr hml hts hown hlocks hin hK hP hD hA hS ls hl
  replace hown : s.vm.findClass RX3 = some m.cls := hown
  replace hl : lv_has ls 4 [(0, .ref (ad 0)), (1, .int i0)] := hl
  have hP : va_P D vwCl (wC ad ca sd tc sc tr st pz T Wt O SA KA R Ln Ky Ch (X ++ va_pl L f)) s.heap := hP
  have iX1 : ∀ w ∈ u_ws RX1 TX1 5, w ∈ wsX3_split := by decide +kernel
  have iX3 : ∀ w ∈ u_ws RX3 TX3 11, w ∈ wsX3_split := by decide +kernel
  have iX2 : ∀ w ∈ u_ws RX2 TX2 4, w ∈ wsX3_split := by decide +kernel
  refine lv_aload_n hx hb dX3_split_0 rfl (lv_at hl 0 rfl) ?_
  refine lv_iload_n hx hb dX3_split_1 rfl (lv_at hl 1 rfl) ?_
  refine nk_VRQ (As := [.int i0]) (rest := []) ⟨hx, hb, hml, hown, hts⟩ (mX3_streamAt l D ad ca sd tc sc tr st pz T Wt O SA KA R Ln Ky Ch (X ++ va_pl L f) i0 h8) (cwV 1 hts gX3_split_X3_streamAt rfl rfl rfl (by decide +kernel) ⟨Nat.le_of_ble_eq_true rfl, Nat.le_of_ble_eq_true rfl⟩) hK hP 0 3 rfl rfl rfl rfl hl.1 rfl (Nat.le_of_ble_eq_true rfl) dX3_split_2 ⟨Nat.le_of_ble_eq_true rfl, Nat.le_of_ble_eq_true rfl⟩ (fun r1 hr1 => ?_)
  subst hr1
  refine W.eq (g2 := F0 m 5 ls [.ref a]) (by rw [hAt]; rfl) ?_
  refine lv_astore_n (lv' := [(2, .ref a), (0, .ref (ad 0)), (1, .int i0)]) hx hb dX3_split_5 rfl hl (by decide) rfl (fun ls hl => ?_)
  refine lv_aload_n hx hb dX3_split_6 rfl (lv_at hl 0 rfl) ?_
  refine lv_ifnonnull (tgt := 12) hx hb dX3_split_7 (by decide) ?_
  refine lv_aload_n hx hb dX3_split_12 rfl (lv_at hl 1 rfl) ?_
  refine va_get (D := D) (ci := 3) (v := .int sc) (C := RX3) (T := TX3) (N := 11) hx hb hts iX3 hown hK.1 hP 0 rfl rfl 7 (by decide) (hts (.fieldLink RX3 37 "NamedStreams" "streamCount" "I") (by decide +kernel)) (fun _ h9 => h9) rfl dX3_split_13 ?_
  refine lv_bipush (v := 8) hx hb dX3_split_16 (by decide) ?_
  refine lv_icmp_lt (tgt := 24) hx hb dX3_split_18 (by decide) (fun c18 => ?_) (fun c18 => ?_)
  · skip
    exact absurd c18 hF
  · skip
    refine lv_bipush (v := -2) hx hb dX3_split_21 (by decide) ?_
    exact nk_retI (g := _) () hx hb hr hlocks hP hD hS dX3_split_23 rfl

set_option maxHeartbeats 800000 in
set_option maxRecDepth 100000 in
theorem mX3_split_E (l : Launch) (D : va_G) (ad : Nat → Nat) (ca : Nat → ClassId) (sd : Int64) (tc : Int32) (sc : Int32) (tr : Int32) (st : Int32) (T : Nat → Int64) (Wt : Nat → Int64) (O : Nat → Int32) (SA : Nat → Option Nat) (KA : Nat → Option Nat) (R : Nat → Int64) (Ln : Nat → Int32) (Ky : Nat → Int64) (Ch : Nat → Int64) (X : va_W) (L : List Nat) (f : Nat → va_E) (zz pp ll : Nat) (i0 : Int32) (a : Nat) (rn : Int64) (pl sp : Int32) (hAt : fAt sc SA i0 = some a) (haL : a ∈ L) (hfa : f a = eSt rn (nI pp) pl sp) (hz0 : zz ≤ 24) (hp0 : pp < zz) (hl0 : Ln (Int32.toNatClampNeg (nI pp)) = nI ll) (hl1 : ll ≤ 4) (h8 : sc < 8) (hE : (fEntC R Ch Ln Ky zz (nI pp) ll (Int32.toInt64 sp)).1 = -2) : nkMI l yX3_split wsX3_split ({ frames := 4, cells := 0, slots := 0, locals := 97 }) D (tC ca) [.ref (ad 0), .int i0] (wC ad ca sd tc sc tr st (nI zz) T Wt O SA KA R Ln Ky Ch (X ++ va_pl L f)) (fun u : (Nat → Int64) × sPth => wC ad ca sd tc sc tr st u.2.2.2.2 T Wt O SA KA u.2.1 u.2.2.1 u.2.2.2.1 u.1 (X ++ va_pl L f)) (fun r u => fEntC R Ch Ln Ky zz (nI pp) ll (Int32.toInt64 sp) = (r, u)) 0 0 := by
  refine nk_ofM (Qf := fun A => va_Qi (fun r u => fEntC R Ch Ln Ky zz (nI pp) ll (Int32.toInt64 sp) = (r, u)) (nkB D A (fun u : (Nat → Int64) × sPth => wC ad ca sd tc sc tr st u.2.2.2.2 T Wt O SA KA u.2.1 u.2.2.1 u.2.2.2.1 u.1 (X ++ va_pl L f))) A) (cc := cX3_split) (maxL := 4) (ret := (some .int)) (by decide) rfl (Nat.le_of_ble_eq_true rfl) ?_
  intro p e s m below meth c A hx hb hr hml hts hown hlocks hin hK hP hD hA hS ls hl
  replace hown : s.vm.findClass RX3 = some m.cls := hown
  replace hl : lv_has ls 4 [(0, .ref (ad 0)), (1, .int i0)] := hl
  have hP : va_P D vwCl (wC ad ca sd tc sc tr st (nI zz) T Wt O SA KA R Ln Ky Ch (X ++ va_pl L f)) s.heap := hP
  have iX1 : ∀ w ∈ u_ws RX1 TX1 5, w ∈ wsX3_split := by decide +kernel
  have iX3 : ∀ w ∈ u_ws RX3 TX3 11, w ∈ wsX3_split := by decide +kernel
  have iX2 : ∀ w ∈ u_ws RX2 TX2 4, w ∈ wsX3_split := by decide +kernel
  have h8w : sc ≤ 8 := Int32.le_of_lt h8
  refine lv_aload_n hx hb dX3_split_0 rfl (lv_at hl 0 rfl) ?_
  refine lv_iload_n hx hb dX3_split_1 rfl (lv_at hl 1 rfl) ?_
  refine nk_VRQ (As := [.int i0]) (rest := []) ⟨hx, hb, hml, hown, hts⟩ (mX3_streamAt l D ad ca sd tc sc tr st (nI zz) T Wt O SA KA R Ln Ky Ch (X ++ va_pl L f) i0 h8w) (cwV 1 hts gX3_split_X3_streamAt rfl rfl rfl (by decide +kernel) ⟨Nat.le_of_ble_eq_true rfl, Nat.le_of_ble_eq_true rfl⟩) hK hP 0 3 rfl rfl rfl rfl hl.1 rfl (Nat.le_of_ble_eq_true rfl) dX3_split_2 ⟨Nat.le_of_ble_eq_true rfl, Nat.le_of_ble_eq_true rfl⟩ (fun r1 hr1 => ?_)
  subst hr1
  refine W.eq (g2 := F0 m 5 ls [.ref a]) (by rw [hAt]; rfl) ?_
  refine lv_astore_n (lv' := [(2, .ref a), (0, .ref (ad 0)), (1, .int i0)]) hx hb dX3_split_5 rfl hl (by decide) rfl (fun ls hl => ?_)
  refine lv_aload_n hx hb dX3_split_6 rfl (lv_at hl 0 rfl) ?_
  refine lv_ifnonnull (tgt := 12) hx hb dX3_split_7 (by decide) ?_
  refine lv_aload_n hx hb dX3_split_12 rfl (lv_at hl 1 rfl) ?_
  refine va_get (D := D) (ci := 3) (v := .int sc) (C := RX3) (T := TX3) (N := 11) hx hb hts iX3 hown hK.1 hP 0 rfl rfl 7 (by decide) (hts (.fieldLink RX3 37 "NamedStreams" "streamCount" "I") (by decide +kernel)) (fun _ h9 => h9) rfl dX3_split_13 ?_
  refine lv_bipush (v := 8) hx hb dX3_split_16 (by decide) ?_
  refine lv_icmp_lt (tgt := 24) hx hb dX3_split_18 (by decide) (fun c18 => ?_) (fun c18 => ?_)
  · skip
    refine lv_aload_n hx hb dX3_split_24 rfl (lv_at hl 1 rfl) ?_
    refine va_get (D := D) (ci := 3) (v := .ref (ad 2)) (C := RX3) (T := TX3) (N := 11) hx hb hts iX3 hown hK.1 hP 0 rfl rfl 3 (by decide) (hts (.fieldLink RX3 20 "NamedStreams" "paths" "LNamedStreams$Paths;") (by decide +kernel)) (fun _ h9 => h9) rfl dX3_split_25 ?_
    refine lv_aload_n hx hb dX3_split_28 rfl (lv_at hl 0 rfl) ?_
    obtain ⟨k2, hk2⟩ := va_pl_get (X := (wC ad ca sd tc sc tr st (nI zz) T Wt O SA KA R Ln Ky Ch X)) (L := L) (f := f) haL
    have hk22 := hk2
    rw [hfa] at hk22
    have hPp : va_P D vwCl ((wC ad ca sd tc sc tr st (nI zz) T Wt O SA KA R Ln Ky Ch X) ++ va_pl L f) _ := hP
    have hDp : va_D A ((wC ad ca sd tc sc tr st (nI zz) T Wt O SA KA R Ln Ky Ch X) ++ va_pl L f) := hD
    refine va_get (D := D) (ci := 2) (v := .int (nI pp)) (C := RX2) (T := TX2) (N := 4) hx hb hts iX2 hown hK.1 hPp k2 hk22 rfl 1 (by decide) (hts (.fieldLink RX3 110 "NamedStreams$Stream" "path" "I") (by decide +kernel)) (fun _ h9 => h9) rfl dX3_split_29 ?_
    refine lv_aload_n hx hb dX3_split_32 rfl (lv_at hl 0 rfl) ?_
    obtain ⟨k3, hk3⟩ := va_pl_get (X := (wC ad ca sd tc sc tr st (nI zz) T Wt O SA KA R Ln Ky Ch X)) (L := L) (f := f) haL
    have hk32 := hk3
    rw [hfa] at hk32
    have hPp : va_P D vwCl ((wC ad ca sd tc sc tr st (nI zz) T Wt O SA KA R Ln Ky Ch X) ++ va_pl L f) _ := hP
    have hDp : va_D A ((wC ad ca sd tc sc tr st (nI zz) T Wt O SA KA R Ln Ky Ch X) ++ va_pl L f) := hD
    refine va_get (D := D) (ci := 2) (v := .int sp) (C := RX2) (T := TX2) (N := 4) hx hb hts iX2 hown hK.1 hPp k3 hk32 rfl 3 (by decide) (hts (.fieldLink RX3 113 "NamedStreams$Stream" "splits" "I") (by decide +kernel)) (fun _ h9 => h9) rfl dX3_split_33 ?_
    refine lv_i2l hx hb dX3_split_36 rfl ?_
    refine nk_VI (As := [.int (nI pp), .long (Int32.toInt64 sp)]) (rest := []) ⟨hx, hb, hml, hown, hts⟩ (mX1_enterChild l D ad ca sd tc sc tr st T Wt O SA KA R Ln Ky Ch (X ++ va_pl L f) zz pp ll (Int32.toInt64 sp) hz0 hp0 hl0 hl1) (cwV 2 hts gX3_split_X1_enterChild rfl rfl rfl (by decide +kernel) ⟨Nat.le_of_ble_eq_true rfl, Nat.le_of_ble_eq_true rfl⟩) hK hP hD hS hA 2 1 rfl rfl rfl rfl hl.1 rfl (Nat.le_of_ble_eq_true rfl) dX3_split_37 ⟨Nat.le_of_ble_eq_true rfl, Nat.le_of_ble_eq_true rfl⟩ (fun r4 ur4 H locs hr4 hP hD hS => ?_)
    obtain ⟨rfl, rfl⟩ : r4 = (fEntC R Ch Ln Ky zz (nI pp) ll (Int32.toInt64 sp)).1 ∧ ur4 = (fEntC R Ch Ln Ky zz (nI pp) ll (Int32.toInt64 sp)).2 := by rw [hr4]; exact ⟨rfl, rfl⟩
    have hP : va_P D vwCl (wC ad ca sd tc sc tr st ((fEntC R Ch Ln Ky zz (nI pp) ll (Int32.toInt64 sp)).2.2.2.2.2) T Wt O SA KA ((fEntC R Ch Ln Ky zz (nI pp) ll (Int32.toInt64 sp)).2.2.1) ((fEntC R Ch Ln Ky zz (nI pp) ll (Int32.toInt64 sp)).2.2.2.1) ((fEntC R Ch Ln Ky zz (nI pp) ll (Int32.toInt64 sp)).2.2.2.2.1) ((fEntC R Ch Ln Ky zz (nI pp) ll (Int32.toInt64 sp)).2.1) (X ++ va_pl L f)) H := hP
    have hD : va_D A (wC ad ca sd tc sc tr st ((fEntC R Ch Ln Ky zz (nI pp) ll (Int32.toInt64 sp)).2.2.2.2.2) T Wt O SA KA ((fEntC R Ch Ln Ky zz (nI pp) ll (Int32.toInt64 sp)).2.2.1) ((fEntC R Ch Ln Ky zz (nI pp) ll (Int32.toInt64 sp)).2.2.2.1) ((fEntC R Ch Ln Ky zz (nI pp) ll (Int32.toInt64 sp)).2.2.2.2.1) ((fEntC R Ch Ln Ky zz (nI pp) ll (Int32.toInt64 sp)).2.1) (X ++ va_pl L f)) := hD
    refine lv_topi (fun z5 ez5 => ?_)
    refine lv_istore_n (lv' := [(3, .int z5), (2, .ref a), (0, .ref (ad 0)), (1, .int i0)]) hx hb dX3_split_40 rfl hl (by decide) rfl (fun ls hl => ?_)
    refine lv_iload_n hx hb dX3_split_41 rfl (lv_at hl 0 rfl) ?_
    refine lv_bipush (v := -2) hx hb dX3_split_42 (by decide) ?_
    refine lv_icmp_ne (tgt := 50) hx hb dX3_split_44 (by decide) (fun c44 => ?_) (fun c44 => ?_)
    · skip
      exact absurd (by subst ez5; exact hE) c44
    · skip
      refine lv_bipush (v := -2) hx hb dX3_split_47 (by decide) ?_
      exact nk_retI (g := _) (fEntC R Ch Ln Ky zz (nI pp) ll (Int32.toInt64 sp)).2 hx hb hr hlocks hP hD hS dX3_split_49 (by rw [← hE])
  · skip
    exact absurd h8 c18

set_option maxHeartbeats 800000 in
set_option maxRecDepth 100000 in
theorem mX3_split_A (l : Launch) (D : va_G) (ad : Nat → Nat) (ca : Nat → ClassId) (sd : Int64) (tc : Int32) (sc : Int32) (tr : Int32) (st : Int32) (T : Nat → Int64) (Wt : Nat → Int64) (O : Nat → Int32) (SA : Nat → Option Nat) (KA : Nat → Option Nat) (R : Nat → Int64) (Ln : Nat → Int32) (Ky : Nat → Int64) (Ch : Nat → Int64) (X : va_W) (L : List Nat) (f : Nat → va_E) (zz pp ll : Nat) (i0 : Int32) (a : Nat) (rn : Int64) (pl sp : Int32) (hAt : fAt sc SA i0 = some a) (haL : a ∈ L) (hfa : f a = eSt rn (nI pp) pl sp) (hz0 : zz ≤ 24) (hp0 : pp < zz) (hl0 : Ln (Int32.toNatClampNeg (nI pp)) = nI ll) (hl1 : ll ≤ 4) (h0 : 0 ≤ sc) (h8 : sc < 8) (hE : ¬ (fEntC R Ch Ln Ky zz (nI pp) ll (Int32.toInt64 sp)).1 = -2) : nkMI l yX3_split wsX3_split ({ frames := 4, cells := 1, slots := 4, locals := 97 }) D (tC ca) [.ref (ad 0), .int i0] (wC ad ca sd tc sc tr st (nI zz) T Wt O SA KA R Ln Ky Ch (X ++ va_pl L f)) (fun u : Nat × Int32 => wC ad ca sd tc u.2 tr st ((fEntC R Ch Ln Ky zz (nI pp) ll (Int32.toInt64 sp)).2.2.2.2.2) T Wt O (va_up SA (Int32.toNatClampNeg sc) (some u.1)) KA ((fEntC R Ch Ln Ky zz (nI pp) ll (Int32.toInt64 sp)).2.2.1) ((fEntC R Ch Ln Ky zz (nI pp) ll (Int32.toInt64 sp)).2.2.2.1) ((fEntC R Ch Ln Ky zz (nI pp) ll (Int32.toInt64 sp)).2.2.2.2.1) ((fEntC R Ch Ln Ky zz (nI pp) ll (Int32.toInt64 sp)).2.1) (X ++ va_pl (L ++ [u.1]) (va_up (va_up f a (eSt rn (nI pp) pl (sp + 1))) u.1 (eSt rn (fEntC R Ch Ln Ky zz (nI pp) ll (Int32.toInt64 sp)).1 0 0)))) (fun r u => sc = r ∧ u.1 ∉ L ∧ sc + 1 = u.2) 1 4 := by
  refine nk_ofM (Qf := fun A => va_Qi (fun r u => sc = r ∧ u.1 ∉ L ∧ sc + 1 = u.2) (nkB D A (fun u : Nat × Int32 => wC ad ca sd tc u.2 tr st ((fEntC R Ch Ln Ky zz (nI pp) ll (Int32.toInt64 sp)).2.2.2.2.2) T Wt O (va_up SA (Int32.toNatClampNeg sc) (some u.1)) KA ((fEntC R Ch Ln Ky zz (nI pp) ll (Int32.toInt64 sp)).2.2.1) ((fEntC R Ch Ln Ky zz (nI pp) ll (Int32.toInt64 sp)).2.2.2.1) ((fEntC R Ch Ln Ky zz (nI pp) ll (Int32.toInt64 sp)).2.2.2.2.1) ((fEntC R Ch Ln Ky zz (nI pp) ll (Int32.toInt64 sp)).2.1) (X ++ va_pl (L ++ [u.1]) (va_up (va_up f a (eSt rn (nI pp) pl (sp + 1))) u.1 (eSt rn (fEntC R Ch Ln Ky zz (nI pp) ll (Int32.toInt64 sp)).1 0 0))))) A) (cc := cX3_split) (maxL := 4) (ret := (some .int)) (by decide) rfl (Nat.le_of_ble_eq_true rfl) ?_
  intro p e s m below meth c A hx hb hr hml hts hown hlocks hin hK hP hD hA hS ls hl
  replace hown : s.vm.findClass RX3 = some m.cls := hown
  replace hl : lv_has ls 4 [(0, .ref (ad 0)), (1, .int i0)] := hl
  have hP : va_P D vwCl (wC ad ca sd tc sc tr st (nI zz) T Wt O SA KA R Ln Ky Ch (X ++ va_pl L f)) s.heap := hP
  have iX1 : ∀ w ∈ u_ws RX1 TX1 5, w ∈ wsX3_split := by decide +kernel
  have iX3 : ∀ w ∈ u_ws RX3 TX3 11, w ∈ wsX3_split := by decide +kernel
  have iX2 : ∀ w ∈ u_ws RX2 TX2 4, w ∈ wsX3_split := by decide +kernel
  have h8w : sc ≤ 8 := Int32.le_of_lt h8
  refine lv_aload_n hx hb dX3_split_0 rfl (lv_at hl 0 rfl) ?_
  refine lv_iload_n hx hb dX3_split_1 rfl (lv_at hl 1 rfl) ?_
  refine nk_VRQ (As := [.int i0]) (rest := []) ⟨hx, hb, hml, hown, hts⟩ (mX3_streamAt l D ad ca sd tc sc tr st (nI zz) T Wt O SA KA R Ln Ky Ch (X ++ va_pl L f) i0 h8w) (cwV 1 hts gX3_split_X3_streamAt rfl rfl rfl (by decide +kernel) ⟨Nat.le_of_ble_eq_true rfl, Nat.le_of_ble_eq_true rfl⟩) hK hP 0 3 rfl rfl rfl rfl hl.1 rfl (Nat.le_of_ble_eq_true rfl) dX3_split_2 ⟨Nat.le_of_ble_eq_true rfl, Nat.le_of_ble_eq_true rfl⟩ (fun r1 hr1 => ?_)
  subst hr1
  refine W.eq (g2 := F0 m 5 ls [.ref a]) (by rw [hAt]; rfl) ?_
  refine lv_astore_n (lv' := [(2, .ref a), (0, .ref (ad 0)), (1, .int i0)]) hx hb dX3_split_5 rfl hl (by decide) rfl (fun ls hl => ?_)
  refine lv_aload_n hx hb dX3_split_6 rfl (lv_at hl 0 rfl) ?_
  refine lv_ifnonnull (tgt := 12) hx hb dX3_split_7 (by decide) ?_
  refine lv_aload_n hx hb dX3_split_12 rfl (lv_at hl 1 rfl) ?_
  refine va_get (D := D) (ci := 3) (v := .int sc) (C := RX3) (T := TX3) (N := 11) hx hb hts iX3 hown hK.1 hP 0 rfl rfl 7 (by decide) (hts (.fieldLink RX3 37 "NamedStreams" "streamCount" "I") (by decide +kernel)) (fun _ h9 => h9) rfl dX3_split_13 ?_
  refine lv_bipush (v := 8) hx hb dX3_split_16 (by decide) ?_
  refine lv_icmp_lt (tgt := 24) hx hb dX3_split_18 (by decide) (fun c18 => ?_) (fun c18 => ?_)
  · skip
    refine lv_aload_n hx hb dX3_split_24 rfl (lv_at hl 1 rfl) ?_
    refine va_get (D := D) (ci := 3) (v := .ref (ad 2)) (C := RX3) (T := TX3) (N := 11) hx hb hts iX3 hown hK.1 hP 0 rfl rfl 3 (by decide) (hts (.fieldLink RX3 20 "NamedStreams" "paths" "LNamedStreams$Paths;") (by decide +kernel)) (fun _ h9 => h9) rfl dX3_split_25 ?_
    refine lv_aload_n hx hb dX3_split_28 rfl (lv_at hl 0 rfl) ?_
    obtain ⟨k2, hk2⟩ := va_pl_get (X := (wC ad ca sd tc sc tr st (nI zz) T Wt O SA KA R Ln Ky Ch X)) (L := L) (f := f) haL
    have hk22 := hk2
    rw [hfa] at hk22
    have hPp : va_P D vwCl ((wC ad ca sd tc sc tr st (nI zz) T Wt O SA KA R Ln Ky Ch X) ++ va_pl L f) _ := hP
    have hDp : va_D A ((wC ad ca sd tc sc tr st (nI zz) T Wt O SA KA R Ln Ky Ch X) ++ va_pl L f) := hD
    refine va_get (D := D) (ci := 2) (v := .int (nI pp)) (C := RX2) (T := TX2) (N := 4) hx hb hts iX2 hown hK.1 hPp k2 hk22 rfl 1 (by decide) (hts (.fieldLink RX3 110 "NamedStreams$Stream" "path" "I") (by decide +kernel)) (fun _ h9 => h9) rfl dX3_split_29 ?_
    refine lv_aload_n hx hb dX3_split_32 rfl (lv_at hl 0 rfl) ?_
    obtain ⟨k3, hk3⟩ := va_pl_get (X := (wC ad ca sd tc sc tr st (nI zz) T Wt O SA KA R Ln Ky Ch X)) (L := L) (f := f) haL
    have hk32 := hk3
    rw [hfa] at hk32
    have hPp : va_P D vwCl ((wC ad ca sd tc sc tr st (nI zz) T Wt O SA KA R Ln Ky Ch X) ++ va_pl L f) _ := hP
    have hDp : va_D A ((wC ad ca sd tc sc tr st (nI zz) T Wt O SA KA R Ln Ky Ch X) ++ va_pl L f) := hD
    refine va_get (D := D) (ci := 2) (v := .int sp) (C := RX2) (T := TX2) (N := 4) hx hb hts iX2 hown hK.1 hPp k3 hk32 rfl 3 (by decide) (hts (.fieldLink RX3 113 "NamedStreams$Stream" "splits" "I") (by decide +kernel)) (fun _ h9 => h9) rfl dX3_split_33 ?_
    refine lv_i2l hx hb dX3_split_36 rfl ?_
    refine nk_VI (As := [.int (nI pp), .long (Int32.toInt64 sp)]) (rest := []) ⟨hx, hb, hml, hown, hts⟩ (mX1_enterChild l D ad ca sd tc sc tr st T Wt O SA KA R Ln Ky Ch (X ++ va_pl L f) zz pp ll (Int32.toInt64 sp) hz0 hp0 hl0 hl1) (cwV 2 hts gX3_split_X1_enterChild rfl rfl rfl (by decide +kernel) ⟨Nat.le_of_ble_eq_true rfl, Nat.le_of_ble_eq_true rfl⟩) hK hP hD hS hA 2 1 rfl rfl rfl rfl hl.1 rfl (Nat.le_of_ble_eq_true rfl) dX3_split_37 ⟨Nat.le_of_ble_eq_true rfl, Nat.le_of_ble_eq_true rfl⟩ (fun r4 ur4 H locs hr4 hP hD hS => ?_)
    obtain ⟨rfl, rfl⟩ : r4 = (fEntC R Ch Ln Ky zz (nI pp) ll (Int32.toInt64 sp)).1 ∧ ur4 = (fEntC R Ch Ln Ky zz (nI pp) ll (Int32.toInt64 sp)).2 := by rw [hr4]; exact ⟨rfl, rfl⟩
    have hP : va_P D vwCl (wC ad ca sd tc sc tr st ((fEntC R Ch Ln Ky zz (nI pp) ll (Int32.toInt64 sp)).2.2.2.2.2) T Wt O SA KA ((fEntC R Ch Ln Ky zz (nI pp) ll (Int32.toInt64 sp)).2.2.1) ((fEntC R Ch Ln Ky zz (nI pp) ll (Int32.toInt64 sp)).2.2.2.1) ((fEntC R Ch Ln Ky zz (nI pp) ll (Int32.toInt64 sp)).2.2.2.2.1) ((fEntC R Ch Ln Ky zz (nI pp) ll (Int32.toInt64 sp)).2.1) (X ++ va_pl L f)) H := hP
    have hD : va_D A (wC ad ca sd tc sc tr st ((fEntC R Ch Ln Ky zz (nI pp) ll (Int32.toInt64 sp)).2.2.2.2.2) T Wt O SA KA ((fEntC R Ch Ln Ky zz (nI pp) ll (Int32.toInt64 sp)).2.2.1) ((fEntC R Ch Ln Ky zz (nI pp) ll (Int32.toInt64 sp)).2.2.2.1) ((fEntC R Ch Ln Ky zz (nI pp) ll (Int32.toInt64 sp)).2.2.2.2.1) ((fEntC R Ch Ln Ky zz (nI pp) ll (Int32.toInt64 sp)).2.1) (X ++ va_pl L f)) := hD
    refine lv_topi (fun z5 ez5 => ?_)
    refine lv_istore_n (lv' := [(3, .int z5), (2, .ref a), (0, .ref (ad 0)), (1, .int i0)]) hx hb dX3_split_40 rfl hl (by decide) rfl (fun ls hl => ?_)
    refine lv_iload_n hx hb dX3_split_41 rfl (lv_at hl 0 rfl) ?_
    refine lv_bipush (v := -2) hx hb dX3_split_42 (by decide) ?_
    refine lv_icmp_ne (tgt := 50) hx hb dX3_split_44 (by decide) (fun c44 => ?_) (fun c44 => ?_)
    · skip
      refine lv_aload_n hx hb dX3_split_50 rfl (lv_at hl 1 rfl) ?_
      refine lv_dup hx hb dX3_split_51 rfl ?_
      obtain ⟨k6, hk6⟩ := va_pl_get (X := (wC ad ca sd tc sc tr st ((fEntC R Ch Ln Ky zz (nI pp) ll (Int32.toInt64 sp)).2.2.2.2.2) T Wt O SA KA ((fEntC R Ch Ln Ky zz (nI pp) ll (Int32.toInt64 sp)).2.2.1) ((fEntC R Ch Ln Ky zz (nI pp) ll (Int32.toInt64 sp)).2.2.2.1) ((fEntC R Ch Ln Ky zz (nI pp) ll (Int32.toInt64 sp)).2.2.2.2.1) ((fEntC R Ch Ln Ky zz (nI pp) ll (Int32.toInt64 sp)).2.1) X)) (L := L) (f := f) haL
      have hk62 := hk6
      rw [hfa] at hk62
      have hPp : va_P D vwCl ((wC ad ca sd tc sc tr st ((fEntC R Ch Ln Ky zz (nI pp) ll (Int32.toInt64 sp)).2.2.2.2.2) T Wt O SA KA ((fEntC R Ch Ln Ky zz (nI pp) ll (Int32.toInt64 sp)).2.2.1) ((fEntC R Ch Ln Ky zz (nI pp) ll (Int32.toInt64 sp)).2.2.2.1) ((fEntC R Ch Ln Ky zz (nI pp) ll (Int32.toInt64 sp)).2.2.2.2.1) ((fEntC R Ch Ln Ky zz (nI pp) ll (Int32.toInt64 sp)).2.1) X) ++ va_pl L f) _ := hP
      have hDp : va_D A ((wC ad ca sd tc sc tr st ((fEntC R Ch Ln Ky zz (nI pp) ll (Int32.toInt64 sp)).2.2.2.2.2) T Wt O SA KA ((fEntC R Ch Ln Ky zz (nI pp) ll (Int32.toInt64 sp)).2.2.1) ((fEntC R Ch Ln Ky zz (nI pp) ll (Int32.toInt64 sp)).2.2.2.1) ((fEntC R Ch Ln Ky zz (nI pp) ll (Int32.toInt64 sp)).2.2.2.2.1) ((fEntC R Ch Ln Ky zz (nI pp) ll (Int32.toInt64 sp)).2.1) X) ++ va_pl L f) := hD
      refine va_get (D := D) (ci := 2) (v := .int sp) (C := RX2) (T := TX2) (N := 4) hx hb hts iX2 hown hK.1 hPp k6 hk62 rfl 3 (by decide) (hts (.fieldLink RX3 113 "NamedStreams$Stream" "splits" "I") (by decide +kernel)) (fun _ h9 => h9) rfl dX3_split_52 ?_
      refine lv_iconst (v := 1) hx hb dX3_split_55 (by decide) ?_
      refine lv_iadd hx hb dX3_split_56 ?_
      refine lv_topi (fun z7 ez7 => ?_)
      obtain ⟨k8, hk8⟩ := va_pl_get (X := (wC ad ca sd tc sc tr st ((fEntC R Ch Ln Ky zz (nI pp) ll (Int32.toInt64 sp)).2.2.2.2.2) T Wt O SA KA ((fEntC R Ch Ln Ky zz (nI pp) ll (Int32.toInt64 sp)).2.2.1) ((fEntC R Ch Ln Ky zz (nI pp) ll (Int32.toInt64 sp)).2.2.2.1) ((fEntC R Ch Ln Ky zz (nI pp) ll (Int32.toInt64 sp)).2.2.2.2.1) ((fEntC R Ch Ln Ky zz (nI pp) ll (Int32.toInt64 sp)).2.1) X)) (L := L) (f := f) haL
      have hk82 := hk8
      rw [hfa] at hk82
      have hPp : va_P D vwCl ((wC ad ca sd tc sc tr st ((fEntC R Ch Ln Ky zz (nI pp) ll (Int32.toInt64 sp)).2.2.2.2.2) T Wt O SA KA ((fEntC R Ch Ln Ky zz (nI pp) ll (Int32.toInt64 sp)).2.2.1) ((fEntC R Ch Ln Ky zz (nI pp) ll (Int32.toInt64 sp)).2.2.2.1) ((fEntC R Ch Ln Ky zz (nI pp) ll (Int32.toInt64 sp)).2.2.2.2.1) ((fEntC R Ch Ln Ky zz (nI pp) ll (Int32.toInt64 sp)).2.1) X) ++ va_pl L f) _ := hP
      have hDp : va_D A ((wC ad ca sd tc sc tr st ((fEntC R Ch Ln Ky zz (nI pp) ll (Int32.toInt64 sp)).2.2.2.2.2) T Wt O SA KA ((fEntC R Ch Ln Ky zz (nI pp) ll (Int32.toInt64 sp)).2.2.1) ((fEntC R Ch Ln Ky zz (nI pp) ll (Int32.toInt64 sp)).2.2.2.1) ((fEntC R Ch Ln Ky zz (nI pp) ll (Int32.toInt64 sp)).2.2.2.2.1) ((fEntC R Ch Ln Ky zz (nI pp) ll (Int32.toInt64 sp)).2.1) X) ++ va_pl L f) := hD
      refine va_put (D := D) (ci := 2) (v := .int z7) (ty := .int) (C := RX2) (T := TX2) (N := 4) hx hb hts iX2 tyX2 tyX2_ok nmX2 hown hK.1 hPp hDp hS k8 hk82 rfl 3 (by decide) (hts (.fieldLink RX3 113 "NamedStreams$Stream" "splits" "I") (by decide +kernel)) (fun _ h9 => h9) rfl (by decide +kernel) rfl rfl (Nat.le_of_ble_eq_true rfl) dX3_split_57 (fun H locs hP hD hS => ?_)
      have hP : va_P D vwCl (((wC ad ca sd tc sc tr st ((fEntC R Ch Ln Ky zz (nI pp) ll (Int32.toInt64 sp)).2.2.2.2.2) T Wt O SA KA ((fEntC R Ch Ln Ky zz (nI pp) ll (Int32.toInt64 sp)).2.2.1) ((fEntC R Ch Ln Ky zz (nI pp) ll (Int32.toInt64 sp)).2.2.2.1) ((fEntC R Ch Ln Ky zz (nI pp) ll (Int32.toInt64 sp)).2.2.2.2.1) ((fEntC R Ch Ln Ky zz (nI pp) ll (Int32.toInt64 sp)).2.1) X) ++ va_pl L f).set k8 (a, .inr (2, [.long rn, .int (nI pp), .int pl, .int z7]))) H := hP
      have hD : va_D A (((wC ad ca sd tc sc tr st ((fEntC R Ch Ln Ky zz (nI pp) ll (Int32.toInt64 sp)).2.2.2.2.2) T Wt O SA KA ((fEntC R Ch Ln Ky zz (nI pp) ll (Int32.toInt64 sp)).2.2.1) ((fEntC R Ch Ln Ky zz (nI pp) ll (Int32.toInt64 sp)).2.2.2.1) ((fEntC R Ch Ln Ky zz (nI pp) ll (Int32.toInt64 sp)).2.2.2.2.1) ((fEntC R Ch Ln Ky zz (nI pp) ll (Int32.toInt64 sp)).2.1) X) ++ va_pl L f).set k8 (a, .inr (2, [.long rn, .int (nI pp), .int pl, .int z7]))) := hD
      rw [va_pl_set hDp haL hk8] at hP hD
      have hP : va_P D vwCl (wC ad ca sd tc sc tr st ((fEntC R Ch Ln Ky zz (nI pp) ll (Int32.toInt64 sp)).2.2.2.2.2) T Wt O SA KA ((fEntC R Ch Ln Ky zz (nI pp) ll (Int32.toInt64 sp)).2.2.1) ((fEntC R Ch Ln Ky zz (nI pp) ll (Int32.toInt64 sp)).2.2.2.1) ((fEntC R Ch Ln Ky zz (nI pp) ll (Int32.toInt64 sp)).2.2.2.2.1) ((fEntC R Ch Ln Ky zz (nI pp) ll (Int32.toInt64 sp)).2.1) (X ++ va_pl L (va_up f a (.inr (2, [.long rn, .int (nI pp), .int pl, .int z7]))))) H := hP
      have hD : va_D A (wC ad ca sd tc sc tr st ((fEntC R Ch Ln Ky zz (nI pp) ll (Int32.toInt64 sp)).2.2.2.2.2) T Wt O SA KA ((fEntC R Ch Ln Ky zz (nI pp) ll (Int32.toInt64 sp)).2.2.1) ((fEntC R Ch Ln Ky zz (nI pp) ll (Int32.toInt64 sp)).2.2.2.1) ((fEntC R Ch Ln Ky zz (nI pp) ll (Int32.toInt64 sp)).2.2.2.2.1) ((fEntC R Ch Ln Ky zz (nI pp) ll (Int32.toInt64 sp)).2.1) (X ++ va_pl L (va_up f a (.inr (2, [.long rn, .int (nI pp), .int pl, .int z7]))))) := hD
      refine lv_aload_n hx hb dX3_split_60 rfl (lv_at hl 2 rfl) ?_
      refine lv_aload_n hx hb dX3_split_61 rfl (lv_at hl 1 rfl) ?_
      obtain ⟨k9, hk9⟩ := va_pl_get (X := (wC ad ca sd tc sc tr st ((fEntC R Ch Ln Ky zz (nI pp) ll (Int32.toInt64 sp)).2.2.2.2.2) T Wt O SA KA ((fEntC R Ch Ln Ky zz (nI pp) ll (Int32.toInt64 sp)).2.2.1) ((fEntC R Ch Ln Ky zz (nI pp) ll (Int32.toInt64 sp)).2.2.2.1) ((fEntC R Ch Ln Ky zz (nI pp) ll (Int32.toInt64 sp)).2.2.2.2.1) ((fEntC R Ch Ln Ky zz (nI pp) ll (Int32.toInt64 sp)).2.1) X)) (L := L) (f := (va_up f a (.inr (2, [.long rn, .int (nI pp), .int pl, .int z7])))) haL
      have hk92 := hk9
      rw [(va_up_self f a (.inr (2, [.long rn, .int (nI pp), .int pl, .int z7])))] at hk92
      have hPp : va_P D vwCl ((wC ad ca sd tc sc tr st ((fEntC R Ch Ln Ky zz (nI pp) ll (Int32.toInt64 sp)).2.2.2.2.2) T Wt O SA KA ((fEntC R Ch Ln Ky zz (nI pp) ll (Int32.toInt64 sp)).2.2.1) ((fEntC R Ch Ln Ky zz (nI pp) ll (Int32.toInt64 sp)).2.2.2.1) ((fEntC R Ch Ln Ky zz (nI pp) ll (Int32.toInt64 sp)).2.2.2.2.1) ((fEntC R Ch Ln Ky zz (nI pp) ll (Int32.toInt64 sp)).2.1) X) ++ va_pl L (va_up f a (.inr (2, [.long rn, .int (nI pp), .int pl, .int z7])))) _ := hP
      have hDp : va_D A ((wC ad ca sd tc sc tr st ((fEntC R Ch Ln Ky zz (nI pp) ll (Int32.toInt64 sp)).2.2.2.2.2) T Wt O SA KA ((fEntC R Ch Ln Ky zz (nI pp) ll (Int32.toInt64 sp)).2.2.1) ((fEntC R Ch Ln Ky zz (nI pp) ll (Int32.toInt64 sp)).2.2.2.1) ((fEntC R Ch Ln Ky zz (nI pp) ll (Int32.toInt64 sp)).2.2.2.2.1) ((fEntC R Ch Ln Ky zz (nI pp) ll (Int32.toInt64 sp)).2.1) X) ++ va_pl L (va_up f a (.inr (2, [.long rn, .int (nI pp), .int pl, .int z7])))) := hD
      refine va_get (D := D) (ci := 2) (v := .long rn) (C := RX2) (T := TX2) (N := 4) hx hb hts iX2 hown hK.1 hPp k9 hk92 rfl 0 (by decide) (hts (.fieldLink RX3 107 "NamedStreams$Stream" "run" "J") (by decide +kernel)) (fun _ h9 => h9) rfl dX3_split_62 ?_
      refine lv_iload_n hx hb dX3_split_65 rfl (lv_at hl 0 rfl) ?_
      refine nk_VI (As := [.long rn, .int z5]) (rest := []) ⟨hx, hb, hml, hown, hts⟩ (mX3_addStream l D ad ca sd tc sc tr st ((fEntC R Ch Ln Ky zz (nI pp) ll (Int32.toInt64 sp)).2.2.2.2.2) T Wt O SA KA ((fEntC R Ch Ln Ky zz (nI pp) ll (Int32.toInt64 sp)).2.2.1) ((fEntC R Ch Ln Ky zz (nI pp) ll (Int32.toInt64 sp)).2.2.2.1) ((fEntC R Ch Ln Ky zz (nI pp) ll (Int32.toInt64 sp)).2.2.2.2.1) ((fEntC R Ch Ln Ky zz (nI pp) ll (Int32.toInt64 sp)).2.1) X L (va_up f a (.inr (2, [.long rn, .int (nI pp), .int pl, .int z7]))) rn z5 h0 h8) (cwV 2 hts gX3_split_X3_addStream rfl rfl rfl (by decide +kernel) ⟨Nat.le_of_ble_eq_true rfl, Nat.le_of_ble_eq_true rfl⟩) hK hP hD hS hA 0 3 rfl rfl rfl rfl hl.1 rfl (Nat.le_of_ble_eq_true rfl) dX3_split_66 ⟨Nat.le_of_ble_eq_true rfl, Nat.le_of_ble_eq_true rfl⟩ (fun r10 ur10 H locs hr10 hP hD hS => ?_)
      obtain ⟨q9, s9⟩ := ur10
      obtain ⟨rfl, hq9, hs9⟩ := hr10
      have hq9 : q9 ∉ L := hq9
      have hs9 : sc + 1 = s9 := hs9
      have hP : va_P D vwCl (wC ad ca sd tc s9 tr st ((fEntC R Ch Ln Ky zz (nI pp) ll (Int32.toInt64 sp)).2.2.2.2.2) T Wt O (va_up SA (Int32.toNatClampNeg sc) (some q9)) KA ((fEntC R Ch Ln Ky zz (nI pp) ll (Int32.toInt64 sp)).2.2.1) ((fEntC R Ch Ln Ky zz (nI pp) ll (Int32.toInt64 sp)).2.2.2.1) ((fEntC R Ch Ln Ky zz (nI pp) ll (Int32.toInt64 sp)).2.2.2.2.1) ((fEntC R Ch Ln Ky zz (nI pp) ll (Int32.toInt64 sp)).2.1) (X ++ va_pl (L ++ [q9]) (va_up (va_up f a (.inr (2, [.long rn, .int (nI pp), .int pl, .int z7]))) q9 (eSt rn z5 0 0)))) H := hP
      have hD : va_D A (wC ad ca sd tc s9 tr st ((fEntC R Ch Ln Ky zz (nI pp) ll (Int32.toInt64 sp)).2.2.2.2.2) T Wt O (va_up SA (Int32.toNatClampNeg sc) (some q9)) KA ((fEntC R Ch Ln Ky zz (nI pp) ll (Int32.toInt64 sp)).2.2.1) ((fEntC R Ch Ln Ky zz (nI pp) ll (Int32.toInt64 sp)).2.2.2.1) ((fEntC R Ch Ln Ky zz (nI pp) ll (Int32.toInt64 sp)).2.2.2.2.1) ((fEntC R Ch Ln Ky zz (nI pp) ll (Int32.toInt64 sp)).2.1) (X ++ va_pl (L ++ [q9]) (va_up (va_up f a (.inr (2, [.long rn, .int (nI pp), .int pl, .int z7]))) q9 (eSt rn z5 0 0)))) := hD
      subst ez5
      subst ez7
      exact nk_retI (g := _) (q9, s9) hx hb hr hlocks hP hD hS dX3_split_69 ⟨rfl, hq9, hs9⟩
    · skip
      exact absurd (by subst ez5; exact c44) hE
  · skip
    exact absurd h8 c18

set_option maxHeartbeats 800000 in
set_option maxRecDepth 100000 in
theorem mX3_keep_B (l : Launch) (D : va_G) (ad : Nat → Nat) (ca : Nat → ClassId) (sd : Int64) (tc : Int32) (sc : Int32) (tr : Int32) (st : Int32) (pz : Int32) (T : Nat → Int64) (Wt : Nat → Int64) (O : Nat → Int32) (SA : Nat → Option Nat) (KA : Nat → Option Nat) (R : Nat → Int64) (Ln : Nat → Int32) (Ky : Nat → Int64) (Ch : Nat → Int64) (X : va_W) (L : List Nat) (f : Nat → va_E) (i0 : Int32) (a : Nat) (rn : Int64) (po pl sp : Int32) (hAt : fAt sc SA i0 = some a) (haL : a ∈ L) (hfa : f a = eSt rn po pl sp) (k0 : Int32) (h8 : sc ≤ 8) (hk : k0 < 0 ∨ 4 ≤ k0) : nkMI l yX3_keep wsX3_keep ({ frames := 2, cells := 0, slots := 0, locals := 32 }) D (tC ca) [.ref (ad 0), .int k0, .int i0] (wC ad ca sd tc sc tr st pz T Wt O SA KA R Ln Ky Ch (X ++ va_pl L f)) (fun _ : Unit => wC ad ca sd tc sc tr st pz T Wt O SA KA R Ln Ky Ch (X ++ va_pl L f)) (fun r _ => r = -1) 0 0 := by
  refine nk_ofM (Qf := fun A => va_Qi (fun r _ => r = -1) (nkB D A (fun _ : Unit => wC ad ca sd tc sc tr st pz T Wt O SA KA R Ln Ky Ch (X ++ va_pl L f))) A) (cc := cX3_keep) (maxL := 5) (ret := (some .int)) (by decide) rfl (Nat.le_of_ble_eq_true rfl) ?_
  intro p e s m below meth c A hx hb hr hml hts hown hlocks hin hK hP hD hA hS ls hl
  replace hown : s.vm.findClass RX3 = some m.cls := hown
  replace hl : lv_has ls 5 [(0, .ref (ad 0)), (1, .int k0), (2, .int i0)] := hl
  have hP : va_P D vwCl (wC ad ca sd tc sc tr st pz T Wt O SA KA R Ln Ky Ch (X ++ va_pl L f)) s.heap := hP
  have iX3 : ∀ w ∈ u_ws RX3 TX3 11, w ∈ wsX3_keep := by decide +kernel
  have iX2 : ∀ w ∈ u_ws RX2 TX2 4, w ∈ wsX3_keep := by decide +kernel
  have iX0 : ∀ w ∈ u_ws RX0 TX0 3, w ∈ wsX3_keep := by decide +kernel
  refine lv_aload_n hx hb dX3_keep_0 rfl (lv_at hl 0 rfl) ?_
  refine lv_iload_n hx hb dX3_keep_1 rfl (lv_at hl 2 rfl) ?_
  refine nk_VRQ (As := [.int i0]) (rest := []) ⟨hx, hb, hml, hown, hts⟩ (mX3_streamAt l D ad ca sd tc sc tr st pz T Wt O SA KA R Ln Ky Ch (X ++ va_pl L f) i0 h8) (cwV 1 hts gX3_keep_X3_streamAt rfl rfl rfl (by decide +kernel) ⟨Nat.le_of_ble_eq_true rfl, Nat.le_of_ble_eq_true rfl⟩) hK hP 0 3 rfl rfl rfl rfl hl.1 rfl (Nat.le_of_ble_eq_true rfl) dX3_keep_2 ⟨Nat.le_of_ble_eq_true rfl, Nat.le_of_ble_eq_true rfl⟩ (fun r1 hr1 => ?_)
  subst hr1
  refine W.eq (g2 := F0 m 5 ls [.ref a]) (by rw [hAt]; rfl) ?_
  refine lv_astore_n (lv' := [(3, .ref a), (0, .ref (ad 0)), (1, .int k0), (2, .int i0)]) hx hb dX3_keep_5 rfl hl (by decide) rfl (fun ls hl => ?_)
  refine lv_iload_n hx hb dX3_keep_6 rfl (lv_at hl 2 rfl) ?_
  refine lv_if_lt (tgt := 19) hx hb dX3_keep_7 (by decide) (fun c7 => ?_) (fun c7 => ?_)
  · skip
    refine lv_iconst (v := -1) hx hb dX3_keep_19 (by decide) ?_
    exact nk_retI (g := _) () hx hb hr hlocks hP hD hS dX3_keep_20 rfl
  · skip
    refine lv_iload_n hx hb dX3_keep_10 rfl (lv_at hl 2 rfl) ?_
    refine lv_iconst (v := 4) hx hb dX3_keep_11 (by decide) ?_
    refine lv_icmp_ge (tgt := 19) hx hb dX3_keep_12 (by decide) (fun c12 => ?_) (fun c12 => ?_)
    · skip
      refine lv_iconst (v := -1) hx hb dX3_keep_19 (by decide) ?_
      exact nk_retI (g := _) () hx hb hr hlocks hP hD hS dX3_keep_20 rfl
    · skip
      exact absurd (hk.elim (fun h => absurd h c7) id) c12

set_option maxHeartbeats 800000 in
set_option maxRecDepth 100000 in
theorem mX3_keep_E (l : Launch) (D : va_G) (ad : Nat → Nat) (ca : Nat → ClassId) (sd : Int64) (tc : Int32) (sc : Int32) (tr : Int32) (st : Int32) (pz : Int32) (T : Nat → Int64) (Wt : Nat → Int64) (O : Nat → Int32) (SA : Nat → Option Nat) (KA : Nat → Option Nat) (R : Nat → Int64) (Ln : Nat → Int32) (Ky : Nat → Int64) (Ch : Nat → Int64) (X : va_W) (L : List Nat) (f : Nat → va_E) (i0 : Int32) (a : Nat) (rn : Int64) (po pl sp : Int32) (hAt : fAt sc SA i0 = some a) (haL : a ∈ L) (hfa : f a = eSt rn po pl sp) (k0 : Int32) (b : Nat) (ks kp kc : Int32) (hKA : KA (Int32.toNatClampNeg k0) = some b) (hbL : b ∈ L) (hfb : f b = eKp ks kp kc) (h8 : sc ≤ 8) (hk1 : ¬ k0 < 0) (hk2 : ¬ 4 ≤ k0) : nkMI l yX3_keep wsX3_keep ({ frames := 2, cells := 0, slots := 0, locals := 32 }) D (tC ca) [.ref (ad 0), .int k0, .int i0] (wC ad ca sd tc sc tr st pz T Wt O SA KA R Ln Ky Ch (X ++ va_pl L f)) (fun u : Nat → va_E => wC ad ca sd tc sc tr st pz T Wt O SA KA R Ln Ky Ch (X ++ va_pl L u)) (fun r u => pl = r ∧ u = va_up f b (eKp i0 pl sp)) 0 0 := by
  refine nk_ofM (Qf := fun A => va_Qi (fun r u => pl = r ∧ u = va_up f b (eKp i0 pl sp)) (nkB D A (fun u : Nat → va_E => wC ad ca sd tc sc tr st pz T Wt O SA KA R Ln Ky Ch (X ++ va_pl L u))) A) (cc := cX3_keep) (maxL := 5) (ret := (some .int)) (by decide) rfl (Nat.le_of_ble_eq_true rfl) ?_
  intro p e s m below meth c A hx hb hr hml hts hown hlocks hin hK hP hD hA hS ls hl
  replace hown : s.vm.findClass RX3 = some m.cls := hown
  replace hl : lv_has ls 5 [(0, .ref (ad 0)), (1, .int k0), (2, .int i0)] := hl
  have hP : va_P D vwCl (wC ad ca sd tc sc tr st pz T Wt O SA KA R Ln Ky Ch (X ++ va_pl L f)) s.heap := hP
  have iX3 : ∀ w ∈ u_ws RX3 TX3 11, w ∈ wsX3_keep := by decide +kernel
  have iX2 : ∀ w ∈ u_ws RX2 TX2 4, w ∈ wsX3_keep := by decide +kernel
  have iX0 : ∀ w ∈ u_ws RX0 TX0 3, w ∈ wsX3_keep := by decide +kernel
  have hab : a ≠ b := (ns_ne02 hfa hfb).symm
  refine lv_aload_n hx hb dX3_keep_0 rfl (lv_at hl 0 rfl) ?_
  refine lv_iload_n hx hb dX3_keep_1 rfl (lv_at hl 2 rfl) ?_
  refine nk_VRQ (As := [.int i0]) (rest := []) ⟨hx, hb, hml, hown, hts⟩ (mX3_streamAt l D ad ca sd tc sc tr st pz T Wt O SA KA R Ln Ky Ch (X ++ va_pl L f) i0 h8) (cwV 1 hts gX3_keep_X3_streamAt rfl rfl rfl (by decide +kernel) ⟨Nat.le_of_ble_eq_true rfl, Nat.le_of_ble_eq_true rfl⟩) hK hP 0 3 rfl rfl rfl rfl hl.1 rfl (Nat.le_of_ble_eq_true rfl) dX3_keep_2 ⟨Nat.le_of_ble_eq_true rfl, Nat.le_of_ble_eq_true rfl⟩ (fun r1 hr1 => ?_)
  subst hr1
  refine W.eq (g2 := F0 m 5 ls [.ref a]) (by rw [hAt]; rfl) ?_
  refine lv_astore_n (lv' := [(3, .ref a), (0, .ref (ad 0)), (1, .int k0), (2, .int i0)]) hx hb dX3_keep_5 rfl hl (by decide) rfl (fun ls hl => ?_)
  refine lv_iload_n hx hb dX3_keep_6 rfl (lv_at hl 2 rfl) ?_
  refine lv_if_lt (tgt := 19) hx hb dX3_keep_7 (by decide) (fun c7 => ?_) (fun c7 => ?_)
  · skip
    exact absurd c7 hk1
  · skip
    refine lv_iload_n hx hb dX3_keep_10 rfl (lv_at hl 2 rfl) ?_
    refine lv_iconst (v := 4) hx hb dX3_keep_11 (by decide) ?_
    refine lv_icmp_ge (tgt := 19) hx hb dX3_keep_12 (by decide) (fun c12 => ?_) (fun c12 => ?_)
    · skip
      exact absurd c12 hk2
    · skip
      refine lv_aload_n hx hb dX3_keep_15 rfl (lv_at hl 0 rfl) ?_
      refine lv_ifnonnull (tgt := 21) hx hb dX3_keep_16 (by decide) ?_
      refine lv_aload_n hx hb dX3_keep_21 rfl (lv_at hl 1 rfl) ?_
      refine va_get (D := D) (ci := 3) (v := .ref (ad 6)) (C := RX3) (T := TX3) (N := 11) hx hb hts iX3 hown hK.1 hP 0 rfl rfl 8 (by decide) (hts (.fieldLink RX3 42 "NamedStreams" "kept" "[LNamedStreams$Kept;") (by decide +kernel)) (fun _ h9 => h9) rfl dX3_keep_22 ?_
      refine lv_iload_n hx hb dX3_keep_25 rfl (lv_at hl 2 rfl) ?_
      refine va_aldq hx hb hK.1 hP 6 4 rfl rfl (ns_in (ns_nn c7) (Int32.not_le.mp c12) (by decide)) dX3_keep_26 ?_
      refine W.eq (g2 := F0 m 27 ls [.ref b]) (by rw [hKA]; rfl) ?_
      refine lv_astore (lv' := [(4, .ref b), (3, .ref a), (0, .ref (ad 0)), (1, .int k0), (2, .int i0)]) hx hb dX3_keep_27 hl (by decide) rfl (fun ls hl => ?_)
      refine lv_aload hx hb dX3_keep_29 (lv_at hl 0 rfl) ?_
      refine lv_ifnonnull (tgt := 51) hx hb dX3_keep_31 (by decide) ?_
      refine lv_aload hx hb dX3_keep_51 (lv_at hl 0 rfl) ?_
      refine lv_iload_n hx hb dX3_keep_53 rfl (lv_at hl 4 rfl) ?_
      obtain ⟨k2, hk2⟩ := va_pl_get (X := (wC ad ca sd tc sc tr st pz T Wt O SA KA R Ln Ky Ch X)) (L := L) (f := f) hbL
      have hk22 := hk2
      rw [hfb] at hk22
      have hPp : va_P D vwCl ((wC ad ca sd tc sc tr st pz T Wt O SA KA R Ln Ky Ch X) ++ va_pl L f) _ := hP
      have hDp : va_D A ((wC ad ca sd tc sc tr st pz T Wt O SA KA R Ln Ky Ch X) ++ va_pl L f) := hD
      refine va_put (D := D) (ci := 0) (v := .int i0) (ty := .int) (C := RX0) (T := TX0) (N := 3) hx hb hts iX0 tyX0 tyX0_ok nmX0 hown hK.1 hPp hDp hS k2 hk22 rfl 0 (by decide) (hts (.fieldLink RX3 122 "NamedStreams$Kept" "stream" "I") (by decide +kernel)) (fun _ h9 => h9) rfl (by decide +kernel) rfl rfl (Nat.le_of_ble_eq_true rfl) dX3_keep_54 (fun H locs hP hD hS => ?_)
      have hP : va_P D vwCl (((wC ad ca sd tc sc tr st pz T Wt O SA KA R Ln Ky Ch X) ++ va_pl L f).set k2 (b, .inr (0, [.int i0, .int kp, .int kc]))) H := hP
      have hD : va_D A (((wC ad ca sd tc sc tr st pz T Wt O SA KA R Ln Ky Ch X) ++ va_pl L f).set k2 (b, .inr (0, [.int i0, .int kp, .int kc]))) := hD
      rw [va_pl_set hDp hbL hk2] at hP hD
      have hP : va_P D vwCl (wC ad ca sd tc sc tr st pz T Wt O SA KA R Ln Ky Ch (X ++ va_pl L (va_up f b (.inr (0, [.int i0, .int kp, .int kc]))))) H := hP
      have hD : va_D A (wC ad ca sd tc sc tr st pz T Wt O SA KA R Ln Ky Ch (X ++ va_pl L (va_up f b (.inr (0, [.int i0, .int kp, .int kc]))))) := hD
      refine lv_aload hx hb dX3_keep_57 (lv_at hl 0 rfl) ?_
      refine lv_aload_n hx hb dX3_keep_59 rfl (lv_at hl 1 rfl) ?_
      obtain ⟨k3, hk3⟩ := va_pl_get (X := (wC ad ca sd tc sc tr st pz T Wt O SA KA R Ln Ky Ch X)) (L := L) (f := (va_up f b (.inr (0, [.int i0, .int kp, .int kc])))) haL
      have hk32 := hk3
      rw [((va_up_ne f (.inr (0, [.int i0, .int kp, .int kc])) hab).trans hfa)] at hk32
      have hPp : va_P D vwCl ((wC ad ca sd tc sc tr st pz T Wt O SA KA R Ln Ky Ch X) ++ va_pl L (va_up f b (.inr (0, [.int i0, .int kp, .int kc])))) _ := hP
      have hDp : va_D A ((wC ad ca sd tc sc tr st pz T Wt O SA KA R Ln Ky Ch X) ++ va_pl L (va_up f b (.inr (0, [.int i0, .int kp, .int kc])))) := hD
      refine va_get (D := D) (ci := 2) (v := .int pl) (C := RX2) (T := TX2) (N := 4) hx hb hts iX2 hown hK.1 hPp k3 hk32 rfl 2 (by decide) (hts (.fieldLink RX3 104 "NamedStreams$Stream" "place" "I") (by decide +kernel)) (fun _ h9 => h9) rfl dX3_keep_60 ?_
      obtain ⟨k4, hk4⟩ := va_pl_get (X := (wC ad ca sd tc sc tr st pz T Wt O SA KA R Ln Ky Ch X)) (L := L) (f := (va_up f b (.inr (0, [.int i0, .int kp, .int kc])))) hbL
      have hk42 := hk4
      rw [(va_up_self f b (.inr (0, [.int i0, .int kp, .int kc])))] at hk42
      have hPp : va_P D vwCl ((wC ad ca sd tc sc tr st pz T Wt O SA KA R Ln Ky Ch X) ++ va_pl L (va_up f b (.inr (0, [.int i0, .int kp, .int kc])))) _ := hP
      have hDp : va_D A ((wC ad ca sd tc sc tr st pz T Wt O SA KA R Ln Ky Ch X) ++ va_pl L (va_up f b (.inr (0, [.int i0, .int kp, .int kc])))) := hD
      refine va_put (D := D) (ci := 0) (v := .int pl) (ty := .int) (C := RX0) (T := TX0) (N := 3) hx hb hts iX0 tyX0 tyX0_ok nmX0 hown hK.1 hPp hDp hS k4 hk42 rfl 1 (by decide) (hts (.fieldLink RX3 125 "NamedStreams$Kept" "place" "I") (by decide +kernel)) (fun _ h9 => h9) rfl (by decide +kernel) rfl rfl (Nat.le_of_ble_eq_true rfl) dX3_keep_63 (fun H locs hP hD hS => ?_)
      have hP : va_P D vwCl (((wC ad ca sd tc sc tr st pz T Wt O SA KA R Ln Ky Ch X) ++ va_pl L (va_up f b (.inr (0, [.int i0, .int kp, .int kc])))).set k4 (b, .inr (0, [.int i0, .int pl, .int kc]))) H := hP
      have hD : va_D A (((wC ad ca sd tc sc tr st pz T Wt O SA KA R Ln Ky Ch X) ++ va_pl L (va_up f b (.inr (0, [.int i0, .int kp, .int kc])))).set k4 (b, .inr (0, [.int i0, .int pl, .int kc]))) := hD
      rw [va_pl_set hDp hbL hk4] at hP hD
      have hP : va_P D vwCl (wC ad ca sd tc sc tr st pz T Wt O SA KA R Ln Ky Ch (X ++ va_pl L (va_up (va_up f b (.inr (0, [.int i0, .int kp, .int kc]))) b (.inr (0, [.int i0, .int pl, .int kc]))))) H := hP
      have hD : va_D A (wC ad ca sd tc sc tr st pz T Wt O SA KA R Ln Ky Ch (X ++ va_pl L (va_up (va_up f b (.inr (0, [.int i0, .int kp, .int kc]))) b (.inr (0, [.int i0, .int pl, .int kc]))))) := hD
      refine lv_aload hx hb dX3_keep_66 (lv_at hl 0 rfl) ?_
      refine lv_aload_n hx hb dX3_keep_68 rfl (lv_at hl 1 rfl) ?_
      obtain ⟨k5, hk5⟩ := va_pl_get (X := (wC ad ca sd tc sc tr st pz T Wt O SA KA R Ln Ky Ch X)) (L := L) (f := (va_up (va_up f b (.inr (0, [.int i0, .int kp, .int kc]))) b (.inr (0, [.int i0, .int pl, .int kc])))) haL
      have hk52 := hk5
      rw [((va_up_ne (va_up f b (.inr (0, [.int i0, .int kp, .int kc]))) (.inr (0, [.int i0, .int pl, .int kc])) hab).trans ((va_up_ne f (.inr (0, [.int i0, .int kp, .int kc])) hab).trans hfa))] at hk52
      have hPp : va_P D vwCl ((wC ad ca sd tc sc tr st pz T Wt O SA KA R Ln Ky Ch X) ++ va_pl L (va_up (va_up f b (.inr (0, [.int i0, .int kp, .int kc]))) b (.inr (0, [.int i0, .int pl, .int kc])))) _ := hP
      have hDp : va_D A ((wC ad ca sd tc sc tr st pz T Wt O SA KA R Ln Ky Ch X) ++ va_pl L (va_up (va_up f b (.inr (0, [.int i0, .int kp, .int kc]))) b (.inr (0, [.int i0, .int pl, .int kc])))) := hD
      refine va_get (D := D) (ci := 2) (v := .int sp) (C := RX2) (T := TX2) (N := 4) hx hb hts iX2 hown hK.1 hPp k5 hk52 rfl 3 (by decide) (hts (.fieldLink RX3 113 "NamedStreams$Stream" "splits" "I") (by decide +kernel)) (fun _ h9 => h9) rfl dX3_keep_69 ?_
      obtain ⟨k6, hk6⟩ := va_pl_get (X := (wC ad ca sd tc sc tr st pz T Wt O SA KA R Ln Ky Ch X)) (L := L) (f := (va_up (va_up f b (.inr (0, [.int i0, .int kp, .int kc]))) b (.inr (0, [.int i0, .int pl, .int kc])))) hbL
      have hk62 := hk6
      rw [(va_up_self (va_up f b (.inr (0, [.int i0, .int kp, .int kc]))) b (.inr (0, [.int i0, .int pl, .int kc])))] at hk62
      have hPp : va_P D vwCl ((wC ad ca sd tc sc tr st pz T Wt O SA KA R Ln Ky Ch X) ++ va_pl L (va_up (va_up f b (.inr (0, [.int i0, .int kp, .int kc]))) b (.inr (0, [.int i0, .int pl, .int kc])))) _ := hP
      have hDp : va_D A ((wC ad ca sd tc sc tr st pz T Wt O SA KA R Ln Ky Ch X) ++ va_pl L (va_up (va_up f b (.inr (0, [.int i0, .int kp, .int kc]))) b (.inr (0, [.int i0, .int pl, .int kc])))) := hD
      refine va_put (D := D) (ci := 0) (v := .int sp) (ty := .int) (C := RX0) (T := TX0) (N := 3) hx hb hts iX0 tyX0 tyX0_ok nmX0 hown hK.1 hPp hDp hS k6 hk62 rfl 2 (by decide) (hts (.fieldLink RX3 126 "NamedStreams$Kept" "splits" "I") (by decide +kernel)) (fun _ h9 => h9) rfl (by decide +kernel) rfl rfl (Nat.le_of_ble_eq_true rfl) dX3_keep_72 (fun H locs hP hD hS => ?_)
      have hP : va_P D vwCl (((wC ad ca sd tc sc tr st pz T Wt O SA KA R Ln Ky Ch X) ++ va_pl L (va_up (va_up f b (.inr (0, [.int i0, .int kp, .int kc]))) b (.inr (0, [.int i0, .int pl, .int kc])))).set k6 (b, .inr (0, [.int i0, .int pl, .int sp]))) H := hP
      have hD : va_D A (((wC ad ca sd tc sc tr st pz T Wt O SA KA R Ln Ky Ch X) ++ va_pl L (va_up (va_up f b (.inr (0, [.int i0, .int kp, .int kc]))) b (.inr (0, [.int i0, .int pl, .int kc])))).set k6 (b, .inr (0, [.int i0, .int pl, .int sp]))) := hD
      rw [va_pl_set hDp hbL hk6] at hP hD
      have hP : va_P D vwCl (wC ad ca sd tc sc tr st pz T Wt O SA KA R Ln Ky Ch (X ++ va_pl L (va_up (va_up (va_up f b (.inr (0, [.int i0, .int kp, .int kc]))) b (.inr (0, [.int i0, .int pl, .int kc]))) b (.inr (0, [.int i0, .int pl, .int sp]))))) H := hP
      have hD : va_D A (wC ad ca sd tc sc tr st pz T Wt O SA KA R Ln Ky Ch (X ++ va_pl L (va_up (va_up (va_up f b (.inr (0, [.int i0, .int kp, .int kc]))) b (.inr (0, [.int i0, .int pl, .int kc]))) b (.inr (0, [.int i0, .int pl, .int sp]))))) := hD
      refine lv_aload_n hx hb dX3_keep_75 rfl (lv_at hl 1 rfl) ?_
      obtain ⟨k7, hk7⟩ := va_pl_get (X := (wC ad ca sd tc sc tr st pz T Wt O SA KA R Ln Ky Ch X)) (L := L) (f := (va_up (va_up (va_up f b (.inr (0, [.int i0, .int kp, .int kc]))) b (.inr (0, [.int i0, .int pl, .int kc]))) b (.inr (0, [.int i0, .int pl, .int sp])))) haL
      have hk72 := hk7
      rw [((va_up_ne (va_up (va_up f b (.inr (0, [.int i0, .int kp, .int kc]))) b (.inr (0, [.int i0, .int pl, .int kc]))) (.inr (0, [.int i0, .int pl, .int sp])) hab).trans ((va_up_ne (va_up f b (.inr (0, [.int i0, .int kp, .int kc]))) (.inr (0, [.int i0, .int pl, .int kc])) hab).trans ((va_up_ne f (.inr (0, [.int i0, .int kp, .int kc])) hab).trans hfa)))] at hk72
      have hPp : va_P D vwCl ((wC ad ca sd tc sc tr st pz T Wt O SA KA R Ln Ky Ch X) ++ va_pl L (va_up (va_up (va_up f b (.inr (0, [.int i0, .int kp, .int kc]))) b (.inr (0, [.int i0, .int pl, .int kc]))) b (.inr (0, [.int i0, .int pl, .int sp])))) _ := hP
      have hDp : va_D A ((wC ad ca sd tc sc tr st pz T Wt O SA KA R Ln Ky Ch X) ++ va_pl L (va_up (va_up (va_up f b (.inr (0, [.int i0, .int kp, .int kc]))) b (.inr (0, [.int i0, .int pl, .int kc]))) b (.inr (0, [.int i0, .int pl, .int sp])))) := hD
      refine va_get (D := D) (ci := 2) (v := .int pl) (C := RX2) (T := TX2) (N := 4) hx hb hts iX2 hown hK.1 hPp k7 hk72 rfl 2 (by decide) (hts (.fieldLink RX3 104 "NamedStreams$Stream" "place" "I") (by decide +kernel)) (fun _ h9 => h9) rfl dX3_keep_76 ?_
      exact nk_retI (g := _) (va_up (va_up (va_up f b (.inr (0, [.int i0, .int kp, .int kc]))) b (.inr (0, [.int i0, .int pl, .int kc]))) b (.inr (0, [.int i0, .int pl, .int sp]))) hx hb hr hlocks hP hD hS dX3_keep_79 ⟨rfl, by simp only [bx_uu]⟩

set_option maxHeartbeats 800000 in
set_option maxRecDepth 100000 in
theorem mX3_keep_W (l : Launch) (D : va_G) (ad : Nat → Nat) (ca : Nat → ClassId) (sd : Int64) (tc : Int32) (sc : Int32) (tr : Int32) (st : Int32) (pz : Int32) (T : Nat → Int64) (Wt : Nat → Int64) (O : Nat → Int32) (SA : Nat → Option Nat) (KA : Nat → Option Nat) (R : Nat → Int64) (Ln : Nat → Int32) (Ky : Nat → Int64) (Ch : Nat → Int64) (X : va_W) (L : List Nat) (f : Nat → va_E) (i0 : Int32) (a : Nat) (rn : Int64) (po pl sp : Int32) (hAt : fAt sc SA i0 = some a) (haL : a ∈ L) (hfa : f a = eSt rn po pl sp) (k0 : Int32) (hKA : KA (Int32.toNatClampNeg k0) = none) (h8 : sc ≤ 8) (hk1 : ¬ k0 < 0) (hk2 : ¬ 4 ≤ k0) : nkMI l yX3_keep wsX3_keep ({ frames := 2, cells := 1, slots := 3, locals := 32 }) D (tC ca) [.ref (ad 0), .int k0, .int i0] (wC ad ca sd tc sc tr st pz T Wt O SA KA R Ln Ky Ch (X ++ va_pl L f)) (fun u : Nat × (Nat → va_E) => wC ad ca sd tc sc tr st pz T Wt O SA (va_up KA (Int32.toNatClampNeg k0) (some u.1)) R Ln Ky Ch (X ++ va_pl (L ++ [u.1]) u.2)) (fun r u => pl = r ∧ u.1 ∉ L ∧ u.2 = va_up f u.1 (eKp i0 pl sp)) 1 3 := by
  refine nk_ofM (Qf := fun A => va_Qi (fun r u => pl = r ∧ u.1 ∉ L ∧ u.2 = va_up f u.1 (eKp i0 pl sp)) (nkB D A (fun u : Nat × (Nat → va_E) => wC ad ca sd tc sc tr st pz T Wt O SA (va_up KA (Int32.toNatClampNeg k0) (some u.1)) R Ln Ky Ch (X ++ va_pl (L ++ [u.1]) u.2))) A) (cc := cX3_keep) (maxL := 5) (ret := (some .int)) (by decide) rfl (Nat.le_of_ble_eq_true rfl) ?_
  intro p e s m below meth c A hx hb hr hml hts hown hlocks hin hK hP hD hA hS ls hl
  replace hown : s.vm.findClass RX3 = some m.cls := hown
  replace hl : lv_has ls 5 [(0, .ref (ad 0)), (1, .int k0), (2, .int i0)] := hl
  have hP : va_P D vwCl (wC ad ca sd tc sc tr st pz T Wt O SA KA R Ln Ky Ch (X ++ va_pl L f)) s.heap := hP
  have iX3 : ∀ w ∈ u_ws RX3 TX3 11, w ∈ wsX3_keep := by decide +kernel
  have iX2 : ∀ w ∈ u_ws RX2 TX2 4, w ∈ wsX3_keep := by decide +kernel
  have iX0 : ∀ w ∈ u_ws RX0 TX0 3, w ∈ wsX3_keep := by decide +kernel
  refine lv_aload_n hx hb dX3_keep_0 rfl (lv_at hl 0 rfl) ?_
  refine lv_iload_n hx hb dX3_keep_1 rfl (lv_at hl 2 rfl) ?_
  refine nk_VRQ (As := [.int i0]) (rest := []) ⟨hx, hb, hml, hown, hts⟩ (mX3_streamAt l D ad ca sd tc sc tr st pz T Wt O SA KA R Ln Ky Ch (X ++ va_pl L f) i0 h8) (cwV 1 hts gX3_keep_X3_streamAt rfl rfl rfl (by decide +kernel) ⟨Nat.le_of_ble_eq_true rfl, Nat.le_of_ble_eq_true rfl⟩) hK hP 0 3 rfl rfl rfl rfl hl.1 rfl (Nat.le_of_ble_eq_true rfl) dX3_keep_2 ⟨Nat.le_of_ble_eq_true rfl, Nat.le_of_ble_eq_true rfl⟩ (fun r1 hr1 => ?_)
  subst hr1
  refine W.eq (g2 := F0 m 5 ls [.ref a]) (by rw [hAt]; rfl) ?_
  refine lv_astore_n (lv' := [(3, .ref a), (0, .ref (ad 0)), (1, .int k0), (2, .int i0)]) hx hb dX3_keep_5 rfl hl (by decide) rfl (fun ls hl => ?_)
  refine lv_iload_n hx hb dX3_keep_6 rfl (lv_at hl 2 rfl) ?_
  refine lv_if_lt (tgt := 19) hx hb dX3_keep_7 (by decide) (fun c7 => ?_) (fun c7 => ?_)
  · skip
    exact absurd c7 hk1
  · skip
    refine lv_iload_n hx hb dX3_keep_10 rfl (lv_at hl 2 rfl) ?_
    refine lv_iconst (v := 4) hx hb dX3_keep_11 (by decide) ?_
    refine lv_icmp_ge (tgt := 19) hx hb dX3_keep_12 (by decide) (fun c12 => ?_) (fun c12 => ?_)
    · skip
      exact absurd c12 hk2
    · skip
      refine lv_aload_n hx hb dX3_keep_15 rfl (lv_at hl 0 rfl) ?_
      refine lv_ifnonnull (tgt := 21) hx hb dX3_keep_16 (by decide) ?_
      refine lv_aload_n hx hb dX3_keep_21 rfl (lv_at hl 1 rfl) ?_
      refine va_get (D := D) (ci := 3) (v := .ref (ad 6)) (C := RX3) (T := TX3) (N := 11) hx hb hts iX3 hown hK.1 hP 0 rfl rfl 8 (by decide) (hts (.fieldLink RX3 42 "NamedStreams" "kept" "[LNamedStreams$Kept;") (by decide +kernel)) (fun _ h9 => h9) rfl dX3_keep_22 ?_
      refine lv_iload_n hx hb dX3_keep_25 rfl (lv_at hl 2 rfl) ?_
      refine va_aldq hx hb hK.1 hP 6 4 rfl rfl (ns_in (ns_nn c7) (Int32.not_le.mp c12) (by decide)) dX3_keep_26 ?_
      refine W.eq (g2 := F0 m 27 ls [.null]) (by rw [hKA]; rfl) ?_
      refine lv_astoreN (lv' := [(4, .null), (3, .ref a), (0, .ref (ad 0)), (1, .int k0), (2, .int i0)]) hx hb dX3_keep_27 hl (by decide) rfl (fun ls hl => ?_)
      refine lv_aloadN hx hb dX3_keep_29 (lv_at hl 0 rfl) ?_
      refine lv_ifnonnullN hx hb dX3_keep_31 ?_
      have hPn := hP
      refine va_new (ci := 0) (fs := [.int 0, .int 0, .int 0]) (C := RX0) (T := TX0) (N := 3) hx hb hts iX0 tyX0 tyX0_ok hown (hts (.classLink RX3 40 RX0) (by decide +kernel)) (hts (.instantiable RX0 3) (by decide +kernel)) (hts (.initialized RX0) (by decide +kernel)) hK.1 hP hD hS hA rfl (fun j hj => by rcases (show j = 0 ∨ j = 1 ∨ j = 2 by omega) with rfl | rfl | rfl <;> rfl) (Nat.le_of_ble_eq_true rfl) (Nat.le_of_ble_eq_true rfl) dX3_keep_34 (fun q34 H hP hD hS => ?_)
      have hP : va_P D vwCl (((wC ad ca sd tc sc tr st pz T Wt O SA KA R Ln Ky Ch X) ++ va_pl L f) ++ [(q34, .inr (0, [.int 0, .int 0, .int 0]))]) H := hP
      have hD : va_D A (((wC ad ca sd tc sc tr st pz T Wt O SA KA R Ln Ky Ch X) ++ va_pl L f) ++ [(q34, .inr (0, [.int 0, .int 0, .int 0]))]) := hD
      have hq34 := va_pl_fresh2 hD
      rw [nk_push hq34] at hP hD
      have hP : va_P D vwCl (wC ad ca sd tc sc tr st pz T Wt O SA KA R Ln Ky Ch (X ++ va_pl (L ++ [q34]) (va_up f q34 (.inr (0, [.int 0, .int 0, .int 0]))))) H := hP
      have hD : va_D A (wC ad ca sd tc sc tr st pz T Wt O SA KA R Ln Ky Ch (X ++ va_pl (L ++ [q34]) (va_up f q34 (.inr (0, [.int 0, .int 0, .int 0]))))) := hD
      refine lv_dup hx hb dX3_keep_37 rfl ?_
      refine nk_INV (As := []) (rest := [.ref q34]) ⟨hx, hb, hml, hown, hts⟩ (mX0_init l D (tC ca) (wC ad ca sd tc sc tr st pz T Wt O SA KA R Ln Ky Ch X) (L ++ [q34]) (va_up f q34 (.inr (0, [.int 0, .int 0, .int 0]))) q34 (l_in_new L q34) (va_up_self f q34 (.inr (0, [.int 0, .int 0, .int 0]))) ) ⟨va_cnB 0 hts gX3_keep_X0_init_n121 rfl rfl rfl hK.2.2.2.1 (hts (.initialized RX0) (by decide +kernel)) (by decide +kernel) ⟨Nat.le_of_ble_eq_true rfl, Nat.le_of_ble_eq_true rfl⟩, rfl, hts (.instanceMethod yX0_init) (by decide +kernel)⟩ hK hP hD hS hA rfl hl.1 rfl (Nat.le_of_ble_eq_true rfl) dX3_keep_38 ⟨Nat.le_of_ble_eq_true rfl, Nat.le_of_ble_eq_true rfl⟩ (fun ur2 H locs hr2 hP hD hS => ?_)
      subst hr2
      have hP : va_P D vwCl ((wC ad ca sd tc sc tr st pz T Wt O SA KA R Ln Ky Ch X) ++ va_pl (L ++ [q34]) (va_up (va_up f q34 (.inr (0, [.int 0, .int 0, .int 0]))) q34 (.inr (0, [.int (0 : Int32), .int (0 : Int32), .int (0 : Int32)])))) H := hP
      have hD : va_D A ((wC ad ca sd tc sc tr st pz T Wt O SA KA R Ln Ky Ch X) ++ va_pl (L ++ [q34]) (va_up (va_up f q34 (.inr (0, [.int 0, .int 0, .int 0]))) q34 (.inr (0, [.int (0 : Int32), .int (0 : Int32), .int (0 : Int32)])))) := hD
      rw [bx_uu] at hP hD
      have hP : va_P D vwCl (wC ad ca sd tc sc tr st pz T Wt O SA KA R Ln Ky Ch (X ++ va_pl (L ++ [q34]) (va_up f q34 (.inr (0, [.int (0 : Int32), .int (0 : Int32), .int (0 : Int32)]))))) H := hP
      have hD : va_D A (wC ad ca sd tc sc tr st pz T Wt O SA KA R Ln Ky Ch (X ++ va_pl (L ++ [q34]) (va_up f q34 (.inr (0, [.int (0 : Int32), .int (0 : Int32), .int (0 : Int32)]))))) := hD
      refine lv_astore (lv' := [(4, .ref q34), (3, .ref a), (0, .ref (ad 0)), (1, .int k0), (2, .int i0)]) hx hb dX3_keep_41 hl (by decide) rfl (fun ls hl => ?_)
      refine lv_aload_n hx hb dX3_keep_43 rfl (lv_at hl 2 rfl) ?_
      refine va_get (D := D) (ci := 3) (v := .ref (ad 6)) (C := RX3) (T := TX3) (N := 11) hx hb hts iX3 hown hK.1 hP 0 rfl rfl 8 (by decide) (hts (.fieldLink RX3 42 "NamedStreams" "kept" "[LNamedStreams$Kept;") (by decide +kernel)) (fun _ h9 => h9) rfl dX3_keep_44 ?_
      refine lv_iload_n hx hb dX3_keep_47 rfl (lv_at hl 3 rfl) ?_
      refine lv_aload hx hb dX3_keep_48 (lv_at hl 0 rfl) ?_
      obtain ⟨k3, hk3⟩ := va_pl_get (X := (wC ad ca sd tc sc tr st pz T Wt O SA KA R Ln Ky Ch X)) (L := (L ++ [q34])) (f := (va_up f q34 (.inr (0, [.int (0 : Int32), .int (0 : Int32), .int (0 : Int32)])))) (l_in_new L q34)
      have hk32 := hk3
      rw [(va_up_self f q34 (.inr (0, [.int (0 : Int32), .int (0 : Int32), .int (0 : Int32)])))] at hk32
      have hPp : va_P D vwCl ((wC ad ca sd tc sc tr st pz T Wt O SA KA R Ln Ky Ch X) ++ va_pl (L ++ [q34]) (va_up f q34 (.inr (0, [.int (0 : Int32), .int (0 : Int32), .int (0 : Int32)])))) _ := hP
      have hDp : va_D A ((wC ad ca sd tc sc tr st pz T Wt O SA KA R Ln Ky Ch X) ++ va_pl (L ++ [q34]) (va_up f q34 (.inr (0, [.int (0 : Int32), .int (0 : Int32), .int (0 : Int32)])))) := hD
      refine va_astq (r := (RX0, TX0, 3)) hx hb hK.1 hPp hDp hS 6 4 k3 0 rfl rfl hk32 rfl (ns_in (ns_nn c7) (Int32.not_le.mp c12) (by decide)) dX3_keep_50 (fun H locs hP hD hS => ?_)
      have hP : va_P D vwCl (wC ad ca sd tc sc tr st pz T Wt O SA (va_up KA (Int32.toNatClampNeg k0) (some q34)) R Ln Ky Ch (X ++ va_pl (L ++ [q34]) (va_up f q34 (.inr (0, [.int (0 : Int32), .int (0 : Int32), .int (0 : Int32)]))))) H := hP
      have hD : va_D A (wC ad ca sd tc sc tr st pz T Wt O SA (va_up KA (Int32.toNatClampNeg k0) (some q34)) R Ln Ky Ch (X ++ va_pl (L ++ [q34]) (va_up f q34 (.inr (0, [.int (0 : Int32), .int (0 : Int32), .int (0 : Int32)]))))) := hD
      refine lv_aload hx hb dX3_keep_51 (lv_at hl 0 rfl) ?_
      refine lv_iload_n hx hb dX3_keep_53 rfl (lv_at hl 4 rfl) ?_
      obtain ⟨k4, hk4⟩ := va_pl_get (X := (wC ad ca sd tc sc tr st pz T Wt O SA (va_up KA (Int32.toNatClampNeg k0) (some q34)) R Ln Ky Ch X)) (L := (L ++ [q34])) (f := (va_up f q34 (.inr (0, [.int (0 : Int32), .int (0 : Int32), .int (0 : Int32)])))) (l_in_new L q34)
      have hk42 := hk4
      rw [(va_up_self f q34 (.inr (0, [.int (0 : Int32), .int (0 : Int32), .int (0 : Int32)])))] at hk42
      have hPp : va_P D vwCl ((wC ad ca sd tc sc tr st pz T Wt O SA (va_up KA (Int32.toNatClampNeg k0) (some q34)) R Ln Ky Ch X) ++ va_pl (L ++ [q34]) (va_up f q34 (.inr (0, [.int (0 : Int32), .int (0 : Int32), .int (0 : Int32)])))) _ := hP
      have hDp : va_D A ((wC ad ca sd tc sc tr st pz T Wt O SA (va_up KA (Int32.toNatClampNeg k0) (some q34)) R Ln Ky Ch X) ++ va_pl (L ++ [q34]) (va_up f q34 (.inr (0, [.int (0 : Int32), .int (0 : Int32), .int (0 : Int32)])))) := hD
      refine va_put (D := D) (ci := 0) (v := .int i0) (ty := .int) (C := RX0) (T := TX0) (N := 3) hx hb hts iX0 tyX0 tyX0_ok nmX0 hown hK.1 hPp hDp hS k4 hk42 rfl 0 (by decide) (hts (.fieldLink RX3 122 "NamedStreams$Kept" "stream" "I") (by decide +kernel)) (fun _ h9 => h9) rfl (by decide +kernel) rfl rfl (Nat.le_of_ble_eq_true rfl) dX3_keep_54 (fun H locs hP hD hS => ?_)
      have hP : va_P D vwCl (((wC ad ca sd tc sc tr st pz T Wt O SA (va_up KA (Int32.toNatClampNeg k0) (some q34)) R Ln Ky Ch X) ++ va_pl (L ++ [q34]) (va_up f q34 (.inr (0, [.int (0 : Int32), .int (0 : Int32), .int (0 : Int32)])))).set k4 (q34, .inr (0, [.int i0, .int (0 : Int32), .int (0 : Int32)]))) H := hP
      have hD : va_D A (((wC ad ca sd tc sc tr st pz T Wt O SA (va_up KA (Int32.toNatClampNeg k0) (some q34)) R Ln Ky Ch X) ++ va_pl (L ++ [q34]) (va_up f q34 (.inr (0, [.int (0 : Int32), .int (0 : Int32), .int (0 : Int32)])))).set k4 (q34, .inr (0, [.int i0, .int (0 : Int32), .int (0 : Int32)]))) := hD
      rw [va_pl_set hDp (l_in_new L q34) hk4] at hP hD
      have hP : va_P D vwCl (wC ad ca sd tc sc tr st pz T Wt O SA (va_up KA (Int32.toNatClampNeg k0) (some q34)) R Ln Ky Ch (X ++ va_pl (L ++ [q34]) (va_up (va_up f q34 (.inr (0, [.int (0 : Int32), .int (0 : Int32), .int (0 : Int32)]))) q34 (.inr (0, [.int i0, .int (0 : Int32), .int (0 : Int32)]))))) H := hP
      have hD : va_D A (wC ad ca sd tc sc tr st pz T Wt O SA (va_up KA (Int32.toNatClampNeg k0) (some q34)) R Ln Ky Ch (X ++ va_pl (L ++ [q34]) (va_up (va_up f q34 (.inr (0, [.int (0 : Int32), .int (0 : Int32), .int (0 : Int32)]))) q34 (.inr (0, [.int i0, .int (0 : Int32), .int (0 : Int32)]))))) := hD
      refine lv_aload hx hb dX3_keep_57 (lv_at hl 0 rfl) ?_
      refine lv_aload_n hx hb dX3_keep_59 rfl (lv_at hl 1 rfl) ?_
      obtain ⟨k5, hk5⟩ := va_pl_get (X := (wC ad ca sd tc sc tr st pz T Wt O SA (va_up KA (Int32.toNatClampNeg k0) (some q34)) R Ln Ky Ch X)) (L := (L ++ [q34])) (f := (va_up (va_up f q34 (.inr (0, [.int (0 : Int32), .int (0 : Int32), .int (0 : Int32)]))) q34 (.inr (0, [.int i0, .int (0 : Int32), .int (0 : Int32)])))) (List.mem_append_left [q34] haL)
      have hk52 := hk5
      rw [((va_up_ne (va_up f q34 (.inr (0, [.int (0 : Int32), .int (0 : Int32), .int (0 : Int32)]))) (.inr (0, [.int i0, .int (0 : Int32), .int (0 : Int32)])) (show a ≠ q34 from fun h => hq34 (h ▸ haL))).trans ((va_up_ne f (.inr (0, [.int (0 : Int32), .int (0 : Int32), .int (0 : Int32)])) (show a ≠ q34 from fun h => hq34 (h ▸ haL))).trans hfa))] at hk52
      have hPp : va_P D vwCl ((wC ad ca sd tc sc tr st pz T Wt O SA (va_up KA (Int32.toNatClampNeg k0) (some q34)) R Ln Ky Ch X) ++ va_pl (L ++ [q34]) (va_up (va_up f q34 (.inr (0, [.int (0 : Int32), .int (0 : Int32), .int (0 : Int32)]))) q34 (.inr (0, [.int i0, .int (0 : Int32), .int (0 : Int32)])))) _ := hP
      have hDp : va_D A ((wC ad ca sd tc sc tr st pz T Wt O SA (va_up KA (Int32.toNatClampNeg k0) (some q34)) R Ln Ky Ch X) ++ va_pl (L ++ [q34]) (va_up (va_up f q34 (.inr (0, [.int (0 : Int32), .int (0 : Int32), .int (0 : Int32)]))) q34 (.inr (0, [.int i0, .int (0 : Int32), .int (0 : Int32)])))) := hD
      refine va_get (D := D) (ci := 2) (v := .int pl) (C := RX2) (T := TX2) (N := 4) hx hb hts iX2 hown hK.1 hPp k5 hk52 rfl 2 (by decide) (hts (.fieldLink RX3 104 "NamedStreams$Stream" "place" "I") (by decide +kernel)) (fun _ h9 => h9) rfl dX3_keep_60 ?_
      obtain ⟨k6, hk6⟩ := va_pl_get (X := (wC ad ca sd tc sc tr st pz T Wt O SA (va_up KA (Int32.toNatClampNeg k0) (some q34)) R Ln Ky Ch X)) (L := (L ++ [q34])) (f := (va_up (va_up f q34 (.inr (0, [.int (0 : Int32), .int (0 : Int32), .int (0 : Int32)]))) q34 (.inr (0, [.int i0, .int (0 : Int32), .int (0 : Int32)])))) (l_in_new L q34)
      have hk62 := hk6
      rw [(va_up_self (va_up f q34 (.inr (0, [.int (0 : Int32), .int (0 : Int32), .int (0 : Int32)]))) q34 (.inr (0, [.int i0, .int (0 : Int32), .int (0 : Int32)])))] at hk62
      have hPp : va_P D vwCl ((wC ad ca sd tc sc tr st pz T Wt O SA (va_up KA (Int32.toNatClampNeg k0) (some q34)) R Ln Ky Ch X) ++ va_pl (L ++ [q34]) (va_up (va_up f q34 (.inr (0, [.int (0 : Int32), .int (0 : Int32), .int (0 : Int32)]))) q34 (.inr (0, [.int i0, .int (0 : Int32), .int (0 : Int32)])))) _ := hP
      have hDp : va_D A ((wC ad ca sd tc sc tr st pz T Wt O SA (va_up KA (Int32.toNatClampNeg k0) (some q34)) R Ln Ky Ch X) ++ va_pl (L ++ [q34]) (va_up (va_up f q34 (.inr (0, [.int (0 : Int32), .int (0 : Int32), .int (0 : Int32)]))) q34 (.inr (0, [.int i0, .int (0 : Int32), .int (0 : Int32)])))) := hD
      refine va_put (D := D) (ci := 0) (v := .int pl) (ty := .int) (C := RX0) (T := TX0) (N := 3) hx hb hts iX0 tyX0 tyX0_ok nmX0 hown hK.1 hPp hDp hS k6 hk62 rfl 1 (by decide) (hts (.fieldLink RX3 125 "NamedStreams$Kept" "place" "I") (by decide +kernel)) (fun _ h9 => h9) rfl (by decide +kernel) rfl rfl (Nat.le_of_ble_eq_true rfl) dX3_keep_63 (fun H locs hP hD hS => ?_)
      have hP : va_P D vwCl (((wC ad ca sd tc sc tr st pz T Wt O SA (va_up KA (Int32.toNatClampNeg k0) (some q34)) R Ln Ky Ch X) ++ va_pl (L ++ [q34]) (va_up (va_up f q34 (.inr (0, [.int (0 : Int32), .int (0 : Int32), .int (0 : Int32)]))) q34 (.inr (0, [.int i0, .int (0 : Int32), .int (0 : Int32)])))).set k6 (q34, .inr (0, [.int i0, .int pl, .int (0 : Int32)]))) H := hP
      have hD : va_D A (((wC ad ca sd tc sc tr st pz T Wt O SA (va_up KA (Int32.toNatClampNeg k0) (some q34)) R Ln Ky Ch X) ++ va_pl (L ++ [q34]) (va_up (va_up f q34 (.inr (0, [.int (0 : Int32), .int (0 : Int32), .int (0 : Int32)]))) q34 (.inr (0, [.int i0, .int (0 : Int32), .int (0 : Int32)])))).set k6 (q34, .inr (0, [.int i0, .int pl, .int (0 : Int32)]))) := hD
      rw [va_pl_set hDp (l_in_new L q34) hk6] at hP hD
      have hP : va_P D vwCl (wC ad ca sd tc sc tr st pz T Wt O SA (va_up KA (Int32.toNatClampNeg k0) (some q34)) R Ln Ky Ch (X ++ va_pl (L ++ [q34]) (va_up (va_up (va_up f q34 (.inr (0, [.int (0 : Int32), .int (0 : Int32), .int (0 : Int32)]))) q34 (.inr (0, [.int i0, .int (0 : Int32), .int (0 : Int32)]))) q34 (.inr (0, [.int i0, .int pl, .int (0 : Int32)]))))) H := hP
      have hD : va_D A (wC ad ca sd tc sc tr st pz T Wt O SA (va_up KA (Int32.toNatClampNeg k0) (some q34)) R Ln Ky Ch (X ++ va_pl (L ++ [q34]) (va_up (va_up (va_up f q34 (.inr (0, [.int (0 : Int32), .int (0 : Int32), .int (0 : Int32)]))) q34 (.inr (0, [.int i0, .int (0 : Int32), .int (0 : Int32)]))) q34 (.inr (0, [.int i0, .int pl, .int (0 : Int32)]))))) := hD
      refine lv_aload hx hb dX3_keep_66 (lv_at hl 0 rfl) ?_
      refine lv_aload_n hx hb dX3_keep_68 rfl (lv_at hl 1 rfl) ?_
      obtain ⟨k7, hk7⟩ := va_pl_get (X := (wC ad ca sd tc sc tr st pz T Wt O SA (va_up KA (Int32.toNatClampNeg k0) (some q34)) R Ln Ky Ch X)) (L := (L ++ [q34])) (f := (va_up (va_up (va_up f q34 (.inr (0, [.int (0 : Int32), .int (0 : Int32), .int (0 : Int32)]))) q34 (.inr (0, [.int i0, .int (0 : Int32), .int (0 : Int32)]))) q34 (.inr (0, [.int i0, .int pl, .int (0 : Int32)])))) (List.mem_append_left [q34] haL)
      have hk72 := hk7
      rw [((va_up_ne (va_up (va_up f q34 (.inr (0, [.int (0 : Int32), .int (0 : Int32), .int (0 : Int32)]))) q34 (.inr (0, [.int i0, .int (0 : Int32), .int (0 : Int32)]))) (.inr (0, [.int i0, .int pl, .int (0 : Int32)])) (show a ≠ q34 from fun h => hq34 (h ▸ haL))).trans ((va_up_ne (va_up f q34 (.inr (0, [.int (0 : Int32), .int (0 : Int32), .int (0 : Int32)]))) (.inr (0, [.int i0, .int (0 : Int32), .int (0 : Int32)])) (show a ≠ q34 from fun h => hq34 (h ▸ haL))).trans ((va_up_ne f (.inr (0, [.int (0 : Int32), .int (0 : Int32), .int (0 : Int32)])) (show a ≠ q34 from fun h => hq34 (h ▸ haL))).trans hfa)))] at hk72
      have hPp : va_P D vwCl ((wC ad ca sd tc sc tr st pz T Wt O SA (va_up KA (Int32.toNatClampNeg k0) (some q34)) R Ln Ky Ch X) ++ va_pl (L ++ [q34]) (va_up (va_up (va_up f q34 (.inr (0, [.int (0 : Int32), .int (0 : Int32), .int (0 : Int32)]))) q34 (.inr (0, [.int i0, .int (0 : Int32), .int (0 : Int32)]))) q34 (.inr (0, [.int i0, .int pl, .int (0 : Int32)])))) _ := hP
      have hDp : va_D A ((wC ad ca sd tc sc tr st pz T Wt O SA (va_up KA (Int32.toNatClampNeg k0) (some q34)) R Ln Ky Ch X) ++ va_pl (L ++ [q34]) (va_up (va_up (va_up f q34 (.inr (0, [.int (0 : Int32), .int (0 : Int32), .int (0 : Int32)]))) q34 (.inr (0, [.int i0, .int (0 : Int32), .int (0 : Int32)]))) q34 (.inr (0, [.int i0, .int pl, .int (0 : Int32)])))) := hD
      refine va_get (D := D) (ci := 2) (v := .int sp) (C := RX2) (T := TX2) (N := 4) hx hb hts iX2 hown hK.1 hPp k7 hk72 rfl 3 (by decide) (hts (.fieldLink RX3 113 "NamedStreams$Stream" "splits" "I") (by decide +kernel)) (fun _ h9 => h9) rfl dX3_keep_69 ?_
      obtain ⟨k8, hk8⟩ := va_pl_get (X := (wC ad ca sd tc sc tr st pz T Wt O SA (va_up KA (Int32.toNatClampNeg k0) (some q34)) R Ln Ky Ch X)) (L := (L ++ [q34])) (f := (va_up (va_up (va_up f q34 (.inr (0, [.int (0 : Int32), .int (0 : Int32), .int (0 : Int32)]))) q34 (.inr (0, [.int i0, .int (0 : Int32), .int (0 : Int32)]))) q34 (.inr (0, [.int i0, .int pl, .int (0 : Int32)])))) (l_in_new L q34)
      have hk82 := hk8
      rw [(va_up_self (va_up (va_up f q34 (.inr (0, [.int (0 : Int32), .int (0 : Int32), .int (0 : Int32)]))) q34 (.inr (0, [.int i0, .int (0 : Int32), .int (0 : Int32)]))) q34 (.inr (0, [.int i0, .int pl, .int (0 : Int32)])))] at hk82
      have hPp : va_P D vwCl ((wC ad ca sd tc sc tr st pz T Wt O SA (va_up KA (Int32.toNatClampNeg k0) (some q34)) R Ln Ky Ch X) ++ va_pl (L ++ [q34]) (va_up (va_up (va_up f q34 (.inr (0, [.int (0 : Int32), .int (0 : Int32), .int (0 : Int32)]))) q34 (.inr (0, [.int i0, .int (0 : Int32), .int (0 : Int32)]))) q34 (.inr (0, [.int i0, .int pl, .int (0 : Int32)])))) _ := hP
      have hDp : va_D A ((wC ad ca sd tc sc tr st pz T Wt O SA (va_up KA (Int32.toNatClampNeg k0) (some q34)) R Ln Ky Ch X) ++ va_pl (L ++ [q34]) (va_up (va_up (va_up f q34 (.inr (0, [.int (0 : Int32), .int (0 : Int32), .int (0 : Int32)]))) q34 (.inr (0, [.int i0, .int (0 : Int32), .int (0 : Int32)]))) q34 (.inr (0, [.int i0, .int pl, .int (0 : Int32)])))) := hD
      refine va_put (D := D) (ci := 0) (v := .int sp) (ty := .int) (C := RX0) (T := TX0) (N := 3) hx hb hts iX0 tyX0 tyX0_ok nmX0 hown hK.1 hPp hDp hS k8 hk82 rfl 2 (by decide) (hts (.fieldLink RX3 126 "NamedStreams$Kept" "splits" "I") (by decide +kernel)) (fun _ h9 => h9) rfl (by decide +kernel) rfl rfl (Nat.le_of_ble_eq_true rfl) dX3_keep_72 (fun H locs hP hD hS => ?_)
      have hP : va_P D vwCl (((wC ad ca sd tc sc tr st pz T Wt O SA (va_up KA (Int32.toNatClampNeg k0) (some q34)) R Ln Ky Ch X) ++ va_pl (L ++ [q34]) (va_up (va_up (va_up f q34 (.inr (0, [.int (0 : Int32), .int (0 : Int32), .int (0 : Int32)]))) q34 (.inr (0, [.int i0, .int (0 : Int32), .int (0 : Int32)]))) q34 (.inr (0, [.int i0, .int pl, .int (0 : Int32)])))).set k8 (q34, .inr (0, [.int i0, .int pl, .int sp]))) H := hP
      have hD : va_D A (((wC ad ca sd tc sc tr st pz T Wt O SA (va_up KA (Int32.toNatClampNeg k0) (some q34)) R Ln Ky Ch X) ++ va_pl (L ++ [q34]) (va_up (va_up (va_up f q34 (.inr (0, [.int (0 : Int32), .int (0 : Int32), .int (0 : Int32)]))) q34 (.inr (0, [.int i0, .int (0 : Int32), .int (0 : Int32)]))) q34 (.inr (0, [.int i0, .int pl, .int (0 : Int32)])))).set k8 (q34, .inr (0, [.int i0, .int pl, .int sp]))) := hD
      rw [va_pl_set hDp (l_in_new L q34) hk8] at hP hD
      have hP : va_P D vwCl (wC ad ca sd tc sc tr st pz T Wt O SA (va_up KA (Int32.toNatClampNeg k0) (some q34)) R Ln Ky Ch (X ++ va_pl (L ++ [q34]) (va_up (va_up (va_up (va_up f q34 (.inr (0, [.int (0 : Int32), .int (0 : Int32), .int (0 : Int32)]))) q34 (.inr (0, [.int i0, .int (0 : Int32), .int (0 : Int32)]))) q34 (.inr (0, [.int i0, .int pl, .int (0 : Int32)]))) q34 (.inr (0, [.int i0, .int pl, .int sp]))))) H := hP
      have hD : va_D A (wC ad ca sd tc sc tr st pz T Wt O SA (va_up KA (Int32.toNatClampNeg k0) (some q34)) R Ln Ky Ch (X ++ va_pl (L ++ [q34]) (va_up (va_up (va_up (va_up f q34 (.inr (0, [.int (0 : Int32), .int (0 : Int32), .int (0 : Int32)]))) q34 (.inr (0, [.int i0, .int (0 : Int32), .int (0 : Int32)]))) q34 (.inr (0, [.int i0, .int pl, .int (0 : Int32)]))) q34 (.inr (0, [.int i0, .int pl, .int sp]))))) := hD
      refine lv_aload_n hx hb dX3_keep_75 rfl (lv_at hl 1 rfl) ?_
      obtain ⟨k9, hk9⟩ := va_pl_get (X := (wC ad ca sd tc sc tr st pz T Wt O SA (va_up KA (Int32.toNatClampNeg k0) (some q34)) R Ln Ky Ch X)) (L := (L ++ [q34])) (f := (va_up (va_up (va_up (va_up f q34 (.inr (0, [.int (0 : Int32), .int (0 : Int32), .int (0 : Int32)]))) q34 (.inr (0, [.int i0, .int (0 : Int32), .int (0 : Int32)]))) q34 (.inr (0, [.int i0, .int pl, .int (0 : Int32)]))) q34 (.inr (0, [.int i0, .int pl, .int sp])))) (List.mem_append_left [q34] haL)
      have hk92 := hk9
      rw [((va_up_ne (va_up (va_up (va_up f q34 (.inr (0, [.int (0 : Int32), .int (0 : Int32), .int (0 : Int32)]))) q34 (.inr (0, [.int i0, .int (0 : Int32), .int (0 : Int32)]))) q34 (.inr (0, [.int i0, .int pl, .int (0 : Int32)]))) (.inr (0, [.int i0, .int pl, .int sp])) (show a ≠ q34 from fun h => hq34 (h ▸ haL))).trans ((va_up_ne (va_up (va_up f q34 (.inr (0, [.int (0 : Int32), .int (0 : Int32), .int (0 : Int32)]))) q34 (.inr (0, [.int i0, .int (0 : Int32), .int (0 : Int32)]))) (.inr (0, [.int i0, .int pl, .int (0 : Int32)])) (show a ≠ q34 from fun h => hq34 (h ▸ haL))).trans ((va_up_ne (va_up f q34 (.inr (0, [.int (0 : Int32), .int (0 : Int32), .int (0 : Int32)]))) (.inr (0, [.int i0, .int (0 : Int32), .int (0 : Int32)])) (show a ≠ q34 from fun h => hq34 (h ▸ haL))).trans ((va_up_ne f (.inr (0, [.int (0 : Int32), .int (0 : Int32), .int (0 : Int32)])) (show a ≠ q34 from fun h => hq34 (h ▸ haL))).trans hfa))))] at hk92
      have hPp : va_P D vwCl ((wC ad ca sd tc sc tr st pz T Wt O SA (va_up KA (Int32.toNatClampNeg k0) (some q34)) R Ln Ky Ch X) ++ va_pl (L ++ [q34]) (va_up (va_up (va_up (va_up f q34 (.inr (0, [.int (0 : Int32), .int (0 : Int32), .int (0 : Int32)]))) q34 (.inr (0, [.int i0, .int (0 : Int32), .int (0 : Int32)]))) q34 (.inr (0, [.int i0, .int pl, .int (0 : Int32)]))) q34 (.inr (0, [.int i0, .int pl, .int sp])))) _ := hP
      have hDp : va_D A ((wC ad ca sd tc sc tr st pz T Wt O SA (va_up KA (Int32.toNatClampNeg k0) (some q34)) R Ln Ky Ch X) ++ va_pl (L ++ [q34]) (va_up (va_up (va_up (va_up f q34 (.inr (0, [.int (0 : Int32), .int (0 : Int32), .int (0 : Int32)]))) q34 (.inr (0, [.int i0, .int (0 : Int32), .int (0 : Int32)]))) q34 (.inr (0, [.int i0, .int pl, .int (0 : Int32)]))) q34 (.inr (0, [.int i0, .int pl, .int sp])))) := hD
      refine va_get (D := D) (ci := 2) (v := .int pl) (C := RX2) (T := TX2) (N := 4) hx hb hts iX2 hown hK.1 hPp k9 hk92 rfl 2 (by decide) (hts (.fieldLink RX3 104 "NamedStreams$Stream" "place" "I") (by decide +kernel)) (fun _ h9 => h9) rfl dX3_keep_76 ?_
      exact nk_retI (g := _) (q34, (va_up (va_up (va_up (va_up f q34 (.inr (0, [.int (0 : Int32), .int (0 : Int32), .int (0 : Int32)]))) q34 (.inr (0, [.int i0, .int (0 : Int32), .int (0 : Int32)]))) q34 (.inr (0, [.int i0, .int pl, .int (0 : Int32)]))) q34 (.inr (0, [.int i0, .int pl, .int sp])))) hx hb hr hlocks hP hD hS dX3_keep_79 ⟨rfl, hq34, by simp only [bx_uu]⟩

set_option maxHeartbeats 800000 in
set_option maxRecDepth 100000 in
theorem mX3_back_B (l : Launch) (D : va_G) (ad : Nat → Nat) (ca : Nat → ClassId) (sd : Int64) (tc : Int32) (sc : Int32) (tr : Int32) (st : Int32) (pz : Int32) (T : Nat → Int64) (Wt : Nat → Int64) (O : Nat → Int32) (SA : Nat → Option Nat) (KA : Nat → Option Nat) (R : Nat → Int64) (Ln : Nat → Int32) (Ky : Nat → Int64) (Ch : Nat → Int64) (X : va_W) (L : List Nat) (f : Nat → va_E) (k0 : Int32) (hk : k0 < 0 ∨ 4 ≤ k0) : nkMI l yX3_back wsX3_back ({ frames := 1, cells := 0, slots := 0, locals := 21 }) D (tC ca) [.ref (ad 0), .int k0] (wC ad ca sd tc sc tr st pz T Wt O SA KA R Ln Ky Ch (X ++ va_pl L f)) (fun _ : Unit => wC ad ca sd tc sc tr st pz T Wt O SA KA R Ln Ky Ch (X ++ va_pl L f)) (fun r _ => r = -1) 0 0 := by
  refine nk_ofM (Qf := fun A => va_Qi (fun r _ => r = -1) (nkB D A (fun _ : Unit => wC ad ca sd tc sc tr st pz T Wt O SA KA R Ln Ky Ch (X ++ va_pl L f))) A) (cc := cX3_back) (maxL := 4) (ret := (some .int)) (by decide) rfl (Nat.le_of_ble_eq_true rfl) ?_
  intro p e s m below meth c A hx hb hr hml hts hown hlocks hin hK hP hD hA hS ls hl
  replace hown : s.vm.findClass RX3 = some m.cls := hown
  replace hl : lv_has ls 4 [(0, .ref (ad 0)), (1, .int k0)] := hl
  have hP : va_P D vwCl (wC ad ca sd tc sc tr st pz T Wt O SA KA R Ln Ky Ch (X ++ va_pl L f)) s.heap := hP
  have iX3 : ∀ w ∈ u_ws RX3 TX3 11, w ∈ wsX3_back := by decide +kernel
  have iX2 : ∀ w ∈ u_ws RX2 TX2 4, w ∈ wsX3_back := by decide +kernel
  have iX0 : ∀ w ∈ u_ws RX0 TX0 3, w ∈ wsX3_back := by decide +kernel
  refine lv_iload_n hx hb dX3_back_0 rfl (lv_at hl 1 rfl) ?_
  refine lv_if_lt (tgt := 9) hx hb dX3_back_1 (by decide) (fun c1 => ?_) (fun c1 => ?_)
  · skip
    refine lv_iconst (v := -1) hx hb dX3_back_9 (by decide) ?_
    exact nk_retI (g := _) () hx hb hr hlocks hP hD hS dX3_back_10 rfl
  · skip
    refine lv_iload_n hx hb dX3_back_4 rfl (lv_at hl 1 rfl) ?_
    refine lv_iconst (v := 4) hx hb dX3_back_5 (by decide) ?_
    refine lv_icmp_lt (tgt := 11) hx hb dX3_back_6 (by decide) (fun c6 => ?_) (fun c6 => ?_)
    · skip
      exact absurd c6 (Int32.not_lt.mpr (hk.elim (fun h => absurd h c1) id))
    · skip
      refine lv_iconst (v := -1) hx hb dX3_back_9 (by decide) ?_
      exact nk_retI (g := _) () hx hb hr hlocks hP hD hS dX3_back_10 rfl

set_option maxHeartbeats 800000 in
set_option maxRecDepth 100000 in
theorem mX3_back_0 (l : Launch) (D : va_G) (ad : Nat → Nat) (ca : Nat → ClassId) (sd : Int64) (tc : Int32) (sc : Int32) (tr : Int32) (st : Int32) (pz : Int32) (T : Nat → Int64) (Wt : Nat → Int64) (O : Nat → Int32) (SA : Nat → Option Nat) (KA : Nat → Option Nat) (R : Nat → Int64) (Ln : Nat → Int32) (Ky : Nat → Int64) (Ch : Nat → Int64) (X : va_W) (L : List Nat) (f : Nat → va_E) (k0 : Int32) (hKA : KA (Int32.toNatClampNeg k0) = none) (hk1 : ¬ k0 < 0) (hk2 : ¬ 4 ≤ k0) : nkMI l yX3_back wsX3_back ({ frames := 1, cells := 0, slots := 0, locals := 21 }) D (tC ca) [.ref (ad 0), .int k0] (wC ad ca sd tc sc tr st pz T Wt O SA KA R Ln Ky Ch (X ++ va_pl L f)) (fun _ : Unit => wC ad ca sd tc sc tr st pz T Wt O SA KA R Ln Ky Ch (X ++ va_pl L f)) (fun r _ => r = -3) 0 0 := by
  refine nk_ofM (Qf := fun A => va_Qi (fun r _ => r = -3) (nkB D A (fun _ : Unit => wC ad ca sd tc sc tr st pz T Wt O SA KA R Ln Ky Ch (X ++ va_pl L f))) A) (cc := cX3_back) (maxL := 4) (ret := (some .int)) (by decide) rfl (Nat.le_of_ble_eq_true rfl) ?_
  intro p e s m below meth c A hx hb hr hml hts hown hlocks hin hK hP hD hA hS ls hl
  replace hown : s.vm.findClass RX3 = some m.cls := hown
  replace hl : lv_has ls 4 [(0, .ref (ad 0)), (1, .int k0)] := hl
  have hP : va_P D vwCl (wC ad ca sd tc sc tr st pz T Wt O SA KA R Ln Ky Ch (X ++ va_pl L f)) s.heap := hP
  have iX3 : ∀ w ∈ u_ws RX3 TX3 11, w ∈ wsX3_back := by decide +kernel
  have iX2 : ∀ w ∈ u_ws RX2 TX2 4, w ∈ wsX3_back := by decide +kernel
  have iX0 : ∀ w ∈ u_ws RX0 TX0 3, w ∈ wsX3_back := by decide +kernel
  refine lv_iload_n hx hb dX3_back_0 rfl (lv_at hl 1 rfl) ?_
  refine lv_if_lt (tgt := 9) hx hb dX3_back_1 (by decide) (fun c1 => ?_) (fun c1 => ?_)
  · skip
    exact absurd c1 hk1
  · skip
    refine lv_iload_n hx hb dX3_back_4 rfl (lv_at hl 1 rfl) ?_
    refine lv_iconst (v := 4) hx hb dX3_back_5 (by decide) ?_
    refine lv_icmp_lt (tgt := 11) hx hb dX3_back_6 (by decide) (fun c6 => ?_) (fun c6 => ?_)
    · skip
      refine lv_aload_n hx hb dX3_back_11 rfl (lv_at hl 0 rfl) ?_
      refine va_get (D := D) (ci := 3) (v := .ref (ad 6)) (C := RX3) (T := TX3) (N := 11) hx hb hts iX3 hown hK.1 hP 0 rfl rfl 8 (by decide) (hts (.fieldLink RX3 42 "NamedStreams" "kept" "[LNamedStreams$Kept;") (by decide +kernel)) (fun _ h9 => h9) rfl dX3_back_12 ?_
      refine lv_iload_n hx hb dX3_back_15 rfl (lv_at hl 1 rfl) ?_
      refine va_aldq hx hb hK.1 hP 6 4 rfl rfl (ns_in (ns_nn c1) c6 (by decide)) dX3_back_16 ?_
      refine W.eq (g2 := F0 m 17 ls [.null]) (by rw [hKA]; rfl) ?_
      refine lv_astore_nN (lv' := [(2, .null), (0, .ref (ad 0)), (1, .int k0)]) hx hb dX3_back_17 rfl hl (by decide) rfl (fun ls hl => ?_)
      refine lv_aload_nN hx hb dX3_back_18 rfl (lv_at hl 0 rfl) ?_
      refine lv_ifnonnullN hx hb dX3_back_19 ?_
      refine lv_bipush (v := -3) hx hb dX3_back_22 (by decide) ?_
      exact nk_retI (g := _) () hx hb hr hlocks hP hD hS dX3_back_24 rfl
    · skip
      exact absurd (Int32.not_le.mp hk2) c6

set_option maxHeartbeats 800000 in
set_option maxRecDepth 100000 in
theorem mX3_back_S (l : Launch) (D : va_G) (ad : Nat → Nat) (ca : Nat → ClassId) (sd : Int64) (tc : Int32) (sc : Int32) (tr : Int32) (st : Int32) (pz : Int32) (T : Nat → Int64) (Wt : Nat → Int64) (O : Nat → Int32) (SA : Nat → Option Nat) (KA : Nat → Option Nat) (R : Nat → Int64) (Ln : Nat → Int32) (Ky : Nat → Int64) (Ch : Nat → Int64) (X : va_W) (L : List Nat) (f : Nat → va_E) (k0 : Int32) (b : Nat) (ks kp kc : Int32) (hKA : KA (Int32.toNatClampNeg k0) = some b) (hbL : b ∈ L) (hfb : f b = eKp ks kp kc) (a : Nat) (rn : Int64) (po pl sp : Int32) (hAt : fAt sc SA ks = some a) (haL : a ∈ L) (hfa : f a = eSt rn po pl sp) (h8 : sc ≤ 8) (hk1 : ¬ k0 < 0) (hk2 : ¬ 4 ≤ k0) : nkMI l yX3_back wsX3_back ({ frames := 1, cells := 0, slots := 0, locals := 21 }) D (tC ca) [.ref (ad 0), .int k0] (wC ad ca sd tc sc tr st pz T Wt O SA KA R Ln Ky Ch (X ++ va_pl L f)) (fun u : Nat → va_E => wC ad ca sd tc sc tr st pz T Wt O SA KA R Ln Ky Ch (X ++ va_pl L u)) (fun r u => ks = r ∧ u = va_up f a (eSt rn po kp kc)) 0 0 := by
  refine nk_ofM (Qf := fun A => va_Qi (fun r u => ks = r ∧ u = va_up f a (eSt rn po kp kc)) (nkB D A (fun u : Nat → va_E => wC ad ca sd tc sc tr st pz T Wt O SA KA R Ln Ky Ch (X ++ va_pl L u))) A) (cc := cX3_back) (maxL := 4) (ret := (some .int)) (by decide) rfl (Nat.le_of_ble_eq_true rfl) ?_
  intro p e s m below meth c A hx hb hr hml hts hown hlocks hin hK hP hD hA hS ls hl
  replace hown : s.vm.findClass RX3 = some m.cls := hown
  replace hl : lv_has ls 4 [(0, .ref (ad 0)), (1, .int k0)] := hl
  have hP : va_P D vwCl (wC ad ca sd tc sc tr st pz T Wt O SA KA R Ln Ky Ch (X ++ va_pl L f)) s.heap := hP
  have iX3 : ∀ w ∈ u_ws RX3 TX3 11, w ∈ wsX3_back := by decide +kernel
  have iX2 : ∀ w ∈ u_ws RX2 TX2 4, w ∈ wsX3_back := by decide +kernel
  have iX0 : ∀ w ∈ u_ws RX0 TX0 3, w ∈ wsX3_back := by decide +kernel
  have hba : b ≠ a := ns_ne02 hfa hfb
  refine lv_iload_n hx hb dX3_back_0 rfl (lv_at hl 1 rfl) ?_
  refine lv_if_lt (tgt := 9) hx hb dX3_back_1 (by decide) (fun c1 => ?_) (fun c1 => ?_)
  · skip
    exact absurd c1 hk1
  · skip
    refine lv_iload_n hx hb dX3_back_4 rfl (lv_at hl 1 rfl) ?_
    refine lv_iconst (v := 4) hx hb dX3_back_5 (by decide) ?_
    refine lv_icmp_lt (tgt := 11) hx hb dX3_back_6 (by decide) (fun c6 => ?_) (fun c6 => ?_)
    · skip
      refine lv_aload_n hx hb dX3_back_11 rfl (lv_at hl 0 rfl) ?_
      refine va_get (D := D) (ci := 3) (v := .ref (ad 6)) (C := RX3) (T := TX3) (N := 11) hx hb hts iX3 hown hK.1 hP 0 rfl rfl 8 (by decide) (hts (.fieldLink RX3 42 "NamedStreams" "kept" "[LNamedStreams$Kept;") (by decide +kernel)) (fun _ h9 => h9) rfl dX3_back_12 ?_
      refine lv_iload_n hx hb dX3_back_15 rfl (lv_at hl 1 rfl) ?_
      refine va_aldq hx hb hK.1 hP 6 4 rfl rfl (ns_in (ns_nn c1) c6 (by decide)) dX3_back_16 ?_
      refine W.eq (g2 := F0 m 17 ls [.ref b]) (by rw [hKA]; rfl) ?_
      refine lv_astore_n (lv' := [(2, .ref b), (0, .ref (ad 0)), (1, .int k0)]) hx hb dX3_back_17 rfl hl (by decide) rfl (fun ls hl => ?_)
      refine lv_aload_n hx hb dX3_back_18 rfl (lv_at hl 0 rfl) ?_
      refine lv_ifnonnull (tgt := 25) hx hb dX3_back_19 (by decide) ?_
      refine lv_aload_n hx hb dX3_back_25 rfl (lv_at hl 1 rfl) ?_
      refine lv_aload_n hx hb dX3_back_26 rfl (lv_at hl 0 rfl) ?_
      obtain ⟨k1, hk1⟩ := va_pl_get (X := (wC ad ca sd tc sc tr st pz T Wt O SA KA R Ln Ky Ch X)) (L := L) (f := f) hbL
      have hk12 := hk1
      rw [hfb] at hk12
      have hPp : va_P D vwCl ((wC ad ca sd tc sc tr st pz T Wt O SA KA R Ln Ky Ch X) ++ va_pl L f) _ := hP
      have hDp : va_D A ((wC ad ca sd tc sc tr st pz T Wt O SA KA R Ln Ky Ch X) ++ va_pl L f) := hD
      refine va_get (D := D) (ci := 0) (v := .int ks) (C := RX0) (T := TX0) (N := 3) hx hb hts iX0 hown hK.1 hPp k1 hk12 rfl 0 (by decide) (hts (.fieldLink RX3 122 "NamedStreams$Kept" "stream" "I") (by decide +kernel)) (fun _ h9 => h9) rfl dX3_back_27 ?_
      refine nk_VRQ (As := [.int ks]) (rest := []) ⟨hx, hb, hml, hown, hts⟩ (mX3_streamAt l D ad ca sd tc sc tr st pz T Wt O SA KA R Ln Ky Ch (X ++ va_pl L f) ks h8) (cwV 1 hts gX3_back_X3_streamAt rfl rfl rfl (by decide +kernel) ⟨Nat.le_of_ble_eq_true rfl, Nat.le_of_ble_eq_true rfl⟩) hK hP 0 3 rfl rfl rfl rfl hl.1 rfl (Nat.le_of_ble_eq_true rfl) dX3_back_30 ⟨Nat.le_of_ble_eq_true rfl, Nat.le_of_ble_eq_true rfl⟩ (fun r2 hr2 => ?_)
      subst hr2
      refine W.eq (g2 := F0 m 33 ls [.ref a]) (by rw [hAt]; rfl) ?_
      refine lv_astore_n (lv' := [(3, .ref a), (2, .ref b), (0, .ref (ad 0)), (1, .int k0)]) hx hb dX3_back_33 rfl hl (by decide) rfl (fun ls hl => ?_)
      refine lv_aload_n hx hb dX3_back_34 rfl (lv_at hl 0 rfl) ?_
      refine lv_ifnonnull (tgt := 41) hx hb dX3_back_35 (by decide) ?_
      refine lv_aload_n hx hb dX3_back_41 rfl (lv_at hl 0 rfl) ?_
      refine lv_aload_n hx hb dX3_back_42 rfl (lv_at hl 1 rfl) ?_
      obtain ⟨k3, hk3⟩ := va_pl_get (X := (wC ad ca sd tc sc tr st pz T Wt O SA KA R Ln Ky Ch X)) (L := L) (f := f) hbL
      have hk32 := hk3
      rw [hfb] at hk32
      have hPp : va_P D vwCl ((wC ad ca sd tc sc tr st pz T Wt O SA KA R Ln Ky Ch X) ++ va_pl L f) _ := hP
      have hDp : va_D A ((wC ad ca sd tc sc tr st pz T Wt O SA KA R Ln Ky Ch X) ++ va_pl L f) := hD
      refine va_get (D := D) (ci := 0) (v := .int kp) (C := RX0) (T := TX0) (N := 3) hx hb hts iX0 hown hK.1 hPp k3 hk32 rfl 1 (by decide) (hts (.fieldLink RX3 125 "NamedStreams$Kept" "place" "I") (by decide +kernel)) (fun _ h9 => h9) rfl dX3_back_43 ?_
      obtain ⟨k4, hk4⟩ := va_pl_get (X := (wC ad ca sd tc sc tr st pz T Wt O SA KA R Ln Ky Ch X)) (L := L) (f := f) haL
      have hk42 := hk4
      rw [hfa] at hk42
      have hPp : va_P D vwCl ((wC ad ca sd tc sc tr st pz T Wt O SA KA R Ln Ky Ch X) ++ va_pl L f) _ := hP
      have hDp : va_D A ((wC ad ca sd tc sc tr st pz T Wt O SA KA R Ln Ky Ch X) ++ va_pl L f) := hD
      refine va_put (D := D) (ci := 2) (v := .int kp) (ty := .int) (C := RX2) (T := TX2) (N := 4) hx hb hts iX2 tyX2 tyX2_ok nmX2 hown hK.1 hPp hDp hS k4 hk42 rfl 2 (by decide) (hts (.fieldLink RX3 104 "NamedStreams$Stream" "place" "I") (by decide +kernel)) (fun _ h9 => h9) rfl (by decide +kernel) rfl rfl (Nat.le_of_ble_eq_true rfl) dX3_back_46 (fun H locs hP hD hS => ?_)
      have hP : va_P D vwCl (((wC ad ca sd tc sc tr st pz T Wt O SA KA R Ln Ky Ch X) ++ va_pl L f).set k4 (a, .inr (2, [.long rn, .int po, .int kp, .int sp]))) H := hP
      have hD : va_D A (((wC ad ca sd tc sc tr st pz T Wt O SA KA R Ln Ky Ch X) ++ va_pl L f).set k4 (a, .inr (2, [.long rn, .int po, .int kp, .int sp]))) := hD
      rw [va_pl_set hDp haL hk4] at hP hD
      have hP : va_P D vwCl (wC ad ca sd tc sc tr st pz T Wt O SA KA R Ln Ky Ch (X ++ va_pl L (va_up f a (.inr (2, [.long rn, .int po, .int kp, .int sp]))))) H := hP
      have hD : va_D A (wC ad ca sd tc sc tr st pz T Wt O SA KA R Ln Ky Ch (X ++ va_pl L (va_up f a (.inr (2, [.long rn, .int po, .int kp, .int sp]))))) := hD
      refine lv_aload_n hx hb dX3_back_49 rfl (lv_at hl 0 rfl) ?_
      refine lv_aload_n hx hb dX3_back_50 rfl (lv_at hl 1 rfl) ?_
      obtain ⟨k5, hk5⟩ := va_pl_get (X := (wC ad ca sd tc sc tr st pz T Wt O SA KA R Ln Ky Ch X)) (L := L) (f := (va_up f a (.inr (2, [.long rn, .int po, .int kp, .int sp])))) hbL
      have hk52 := hk5
      rw [((va_up_ne f (.inr (2, [.long rn, .int po, .int kp, .int sp])) hba).trans hfb)] at hk52
      have hPp : va_P D vwCl ((wC ad ca sd tc sc tr st pz T Wt O SA KA R Ln Ky Ch X) ++ va_pl L (va_up f a (.inr (2, [.long rn, .int po, .int kp, .int sp])))) _ := hP
      have hDp : va_D A ((wC ad ca sd tc sc tr st pz T Wt O SA KA R Ln Ky Ch X) ++ va_pl L (va_up f a (.inr (2, [.long rn, .int po, .int kp, .int sp])))) := hD
      refine va_get (D := D) (ci := 0) (v := .int kc) (C := RX0) (T := TX0) (N := 3) hx hb hts iX0 hown hK.1 hPp k5 hk52 rfl 2 (by decide) (hts (.fieldLink RX3 126 "NamedStreams$Kept" "splits" "I") (by decide +kernel)) (fun _ h9 => h9) rfl dX3_back_51 ?_
      obtain ⟨k6, hk6⟩ := va_pl_get (X := (wC ad ca sd tc sc tr st pz T Wt O SA KA R Ln Ky Ch X)) (L := L) (f := (va_up f a (.inr (2, [.long rn, .int po, .int kp, .int sp])))) haL
      have hk62 := hk6
      rw [(va_up_self f a (.inr (2, [.long rn, .int po, .int kp, .int sp])))] at hk62
      have hPp : va_P D vwCl ((wC ad ca sd tc sc tr st pz T Wt O SA KA R Ln Ky Ch X) ++ va_pl L (va_up f a (.inr (2, [.long rn, .int po, .int kp, .int sp])))) _ := hP
      have hDp : va_D A ((wC ad ca sd tc sc tr st pz T Wt O SA KA R Ln Ky Ch X) ++ va_pl L (va_up f a (.inr (2, [.long rn, .int po, .int kp, .int sp])))) := hD
      refine va_put (D := D) (ci := 2) (v := .int kc) (ty := .int) (C := RX2) (T := TX2) (N := 4) hx hb hts iX2 tyX2 tyX2_ok nmX2 hown hK.1 hPp hDp hS k6 hk62 rfl 3 (by decide) (hts (.fieldLink RX3 113 "NamedStreams$Stream" "splits" "I") (by decide +kernel)) (fun _ h9 => h9) rfl (by decide +kernel) rfl rfl (Nat.le_of_ble_eq_true rfl) dX3_back_54 (fun H locs hP hD hS => ?_)
      have hP : va_P D vwCl (((wC ad ca sd tc sc tr st pz T Wt O SA KA R Ln Ky Ch X) ++ va_pl L (va_up f a (.inr (2, [.long rn, .int po, .int kp, .int sp])))).set k6 (a, .inr (2, [.long rn, .int po, .int kp, .int kc]))) H := hP
      have hD : va_D A (((wC ad ca sd tc sc tr st pz T Wt O SA KA R Ln Ky Ch X) ++ va_pl L (va_up f a (.inr (2, [.long rn, .int po, .int kp, .int sp])))).set k6 (a, .inr (2, [.long rn, .int po, .int kp, .int kc]))) := hD
      rw [va_pl_set hDp haL hk6] at hP hD
      have hP : va_P D vwCl (wC ad ca sd tc sc tr st pz T Wt O SA KA R Ln Ky Ch (X ++ va_pl L (va_up (va_up f a (.inr (2, [.long rn, .int po, .int kp, .int sp]))) a (.inr (2, [.long rn, .int po, .int kp, .int kc]))))) H := hP
      have hD : va_D A (wC ad ca sd tc sc tr st pz T Wt O SA KA R Ln Ky Ch (X ++ va_pl L (va_up (va_up f a (.inr (2, [.long rn, .int po, .int kp, .int sp]))) a (.inr (2, [.long rn, .int po, .int kp, .int kc]))))) := hD
      refine lv_aload_n hx hb dX3_back_57 rfl (lv_at hl 1 rfl) ?_
      obtain ⟨k7, hk7⟩ := va_pl_get (X := (wC ad ca sd tc sc tr st pz T Wt O SA KA R Ln Ky Ch X)) (L := L) (f := (va_up (va_up f a (.inr (2, [.long rn, .int po, .int kp, .int sp]))) a (.inr (2, [.long rn, .int po, .int kp, .int kc])))) hbL
      have hk72 := hk7
      rw [((va_up_ne (va_up f a (.inr (2, [.long rn, .int po, .int kp, .int sp]))) (.inr (2, [.long rn, .int po, .int kp, .int kc])) hba).trans ((va_up_ne f (.inr (2, [.long rn, .int po, .int kp, .int sp])) hba).trans hfb))] at hk72
      have hPp : va_P D vwCl ((wC ad ca sd tc sc tr st pz T Wt O SA KA R Ln Ky Ch X) ++ va_pl L (va_up (va_up f a (.inr (2, [.long rn, .int po, .int kp, .int sp]))) a (.inr (2, [.long rn, .int po, .int kp, .int kc])))) _ := hP
      have hDp : va_D A ((wC ad ca sd tc sc tr st pz T Wt O SA KA R Ln Ky Ch X) ++ va_pl L (va_up (va_up f a (.inr (2, [.long rn, .int po, .int kp, .int sp]))) a (.inr (2, [.long rn, .int po, .int kp, .int kc])))) := hD
      refine va_get (D := D) (ci := 0) (v := .int ks) (C := RX0) (T := TX0) (N := 3) hx hb hts iX0 hown hK.1 hPp k7 hk72 rfl 0 (by decide) (hts (.fieldLink RX3 122 "NamedStreams$Kept" "stream" "I") (by decide +kernel)) (fun _ h9 => h9) rfl dX3_back_58 ?_
      exact nk_retI (g := _) (va_up (va_up f a (.inr (2, [.long rn, .int po, .int kp, .int sp]))) a (.inr (2, [.long rn, .int po, .int kp, .int kc]))) hx hb hr hlocks hP hD hS dX3_back_61 ⟨rfl, by simp only [bx_uu]⟩
    · skip
      exact absurd (Int32.not_le.mp hk2) c6
end
section
set_option maxHeartbeats 400000 in
set_option maxRecDepth 100000 in
theorem mX1_init (l : Launch) (D : va_G) (h0 : Nat) : ∀ sz : Nat, Met l yX1_init wsX1_init ({ frames := 1, cells := 4, slots := 148, locals := 12 }) (va_Pc [.ref h0] (nkC D [] [(h0, .inr (1, [.null, .null, .null, .null, .int 0]))] sz)) ((fun A => va_Qv (S := (Nat × Nat × Nat × Nat) × (ClassId × ClassId × ClassId × ClassId)) (fun u => u = u) (fun u t => va_P D vwCl ([(h0, .inr (1, [.ref u.1.1, .ref u.1.2.1, .ref u.1.2.2.1, .ref u.1.2.2.2, .int 0])), (u.1.1, .inl (u.2.1, 96, .inr (.inl (fun _ => 0)))), (u.1.2.1, .inl (u.2.2.1, 24, .inl (fun _ => 0))), (u.1.2.2.1, .inl (u.2.2.2.1, 24, .inr (.inl (fun _ => 0)))), (u.1.2.2.2, .inl (u.2.2.2.2, 4, .inr (.inl (fun _ => 0))))]) t.heap ∧ va_D A ([(h0, .inr (1, [.ref u.1.1, .ref u.1.2.1, .ref u.1.2.2.1, .ref u.1.2.2.2, .int 0])), (u.1.1, .inl (u.2.1, 96, .inr (.inl (fun _ => 0)))), (u.1.2.1, .inl (u.2.2.1, 24, .inl (fun _ => 0))), (u.1.2.2.1, .inl (u.2.2.2.1, 24, .inr (.inl (fun _ => 0)))), (u.1.2.2.2, .inl (u.2.2.2.2, 4, .inr (.inl (fun _ => 0))))]) ∧ va_K D vwCl ([(u.2.1, .long), (u.2.2.1, .int), (u.2.2.2.1, .long), (u.2.2.2.2, .long)]) t) A) (va_A [(h0, .inr (1, [.null, .null, .null, .null, .int 0]))] sz)) 4 148 (va_A [(h0, .inr (1, [.null, .null, .null, .null, .int 0]))] sz) := by
  refine nk_ofM (Qf := fun A => va_Qv (S := (Nat × Nat × Nat × Nat) × (ClassId × ClassId × ClassId × ClassId)) (fun u => u = u) (fun u t => va_P D vwCl ([(h0, .inr (1, [.ref u.1.1, .ref u.1.2.1, .ref u.1.2.2.1, .ref u.1.2.2.2, .int 0])), (u.1.1, .inl (u.2.1, 96, .inr (.inl (fun _ => 0)))), (u.1.2.1, .inl (u.2.2.1, 24, .inl (fun _ => 0))), (u.1.2.2.1, .inl (u.2.2.2.1, 24, .inr (.inl (fun _ => 0)))), (u.1.2.2.2, .inl (u.2.2.2.2, 4, .inr (.inl (fun _ => 0))))]) t.heap ∧ va_D A ([(h0, .inr (1, [.ref u.1.1, .ref u.1.2.1, .ref u.1.2.2.1, .ref u.1.2.2.2, .int 0])), (u.1.1, .inl (u.2.1, 96, .inr (.inl (fun _ => 0)))), (u.1.2.1, .inl (u.2.2.1, 24, .inl (fun _ => 0))), (u.1.2.2.1, .inl (u.2.2.2.1, 24, .inr (.inl (fun _ => 0)))), (u.1.2.2.2, .inl (u.2.2.2.2, 4, .inr (.inl (fun _ => 0))))]) ∧ va_K D vwCl ([(u.2.1, .long), (u.2.2.1, .int), (u.2.2.2.1, .long), (u.2.2.2.2, .long)]) t) A) (cc := cX1_init) (maxL := 1) (ret := none) (by decide) rfl (Nat.le_of_ble_eq_true rfl) ?_
  intro p e s m below meth c A hx hb hr hml hts hown hlocks hin hK hP hD hA hS ls hl
  replace hown : s.vm.findClass RX1 = some m.cls := hown
  replace hin : meth.name = "<init>" := hin
  replace hl : lv_has ls 1 [(0, .ref h0)] := hl
  have hKv : va_K D vwCl [] s := hK.1
  have iX1 : ∀ w ∈ u_ws RX1 TX1 5, w ∈ wsX1_init := by decide +kernel
  refine lv_aload_n hx hb dX1_init_0 rfl (lv_at hl 0 rfl) ?_
  refine W.objInit hx hb hown (hts (.methodLink RX1 3 objectInit) (by decide +kernel)) (hts (.instanceMethod objectInit) (by decide +kernel)) (hts (.code objectInit ⟨#[0xb1]⟩ 1 none) (by decide +kernel)) rfl (by rw [hml]; exact hl.1) rfl dX1_init_1 (Nat.le_of_ble_eq_true rfl) (Nat.le_of_ble_eq_true rfl) ?_
  refine W.eq (g2 := F0 m 4 ls []) rfl ?_
  refine lv_aload_n hx hb dX1_init_4 rfl (lv_at hl 0 rfl) ?_
  refine lv_bipush (v := 96) hx hb dX1_init_5 (by decide) ?_
  refine va_newa (atype := .long) (ty := .long) (N' := 96) (a0 := (96, .inr (.inl (fun _ => 0)))) hx hb (hts (.arrayClass .long) (by decide +kernel)) rfl hKv hP hD hS hA (fun _ => rfl) (by decide +kernel) (by decide +kernel) (by decide +kernel) (Nat.le_of_ble_eq_true rfl) (Nat.le_of_ble_eq_true rfl) dX1_init_7 (fun q7 c7 H hKv hP hD hS => ?_)
  have hP : va_P D vwCl [(h0, .inr (1, [.null, .null, .null, .null, .int 0])), (q7, .inl (c7, 96, .inr (.inl (fun _ => 0))))] H := hP
  have hD : va_D A [(h0, .inr (1, [.null, .null, .null, .null, .int 0])), (q7, .inl (c7, 96, .inr (.inl (fun _ => 0))))] := hD
  have hKv : va_K D vwCl [(c7, .long)] s := hKv
  refine va_putF (D := D) (ci := 1) (v := .ref q7) (ty := .array .long) (C := RX1) (T := TX1) (N := 5) hx hb hts iX1 tyX1 tyX1_ok nmX1 hown hKv hP hD hS 0 rfl rfl 0 (by decide) (hts (.fieldLink RX1 9 "NamedStreams$Paths" "rows" "[J") (by decide +kernel)) (fun _ h9 => h9) rfl hin rfl (by decide +kernel) rfl rfl (Nat.le_of_ble_eq_true rfl) dX1_init_9 (fun H locs hP hD hS => ?_)
  have hP : va_P D vwCl [(h0, .inr (1, [.ref q7, .null, .null, .null, .int 0])), (q7, .inl (c7, 96, .inr (.inl (fun _ => 0))))] H := hP
  have hD : va_D A [(h0, .inr (1, [.ref q7, .null, .null, .null, .int 0])), (q7, .inl (c7, 96, .inr (.inl (fun _ => 0))))] := hD
  refine lv_aload_n hx hb dX1_init_12 rfl (lv_at hl 0 rfl) ?_
  refine lv_bipush (v := 24) hx hb dX1_init_13 (by decide) ?_
  refine va_newa (atype := .int) (ty := .int) (N' := 24) (a0 := (24, .inl (fun _ => 0))) hx hb (hts (.arrayClass .int) (by decide +kernel)) rfl hKv hP hD hS hA (fun _ => rfl) (by decide +kernel) (by decide +kernel) (by decide +kernel) (Nat.le_of_ble_eq_true rfl) (Nat.le_of_ble_eq_true rfl) dX1_init_15 (fun q15 c15 H hKv hP hD hS => ?_)
  have hP : va_P D vwCl [(h0, .inr (1, [.ref q7, .null, .null, .null, .int 0])), (q7, .inl (c7, 96, .inr (.inl (fun _ => 0)))), (q15, .inl (c15, 24, .inl (fun _ => 0)))] H := hP
  have hD : va_D A [(h0, .inr (1, [.ref q7, .null, .null, .null, .int 0])), (q7, .inl (c7, 96, .inr (.inl (fun _ => 0)))), (q15, .inl (c15, 24, .inl (fun _ => 0)))] := hD
  have hKv : va_K D vwCl [(c7, .long), (c15, .int)] s := hKv
  refine va_putF (D := D) (ci := 1) (v := .ref q15) (ty := .array .int) (C := RX1) (T := TX1) (N := 5) hx hb hts iX1 tyX1 tyX1_ok nmX1 hown hKv hP hD hS 0 rfl rfl 1 (by decide) (hts (.fieldLink RX1 15 "NamedStreams$Paths" "lengths" "[I") (by decide +kernel)) (fun _ h9 => h9) rfl hin rfl (by decide +kernel) rfl rfl (Nat.le_of_ble_eq_true rfl) dX1_init_17 (fun H locs hP hD hS => ?_)
  have hP : va_P D vwCl [(h0, .inr (1, [.ref q7, .ref q15, .null, .null, .int 0])), (q7, .inl (c7, 96, .inr (.inl (fun _ => 0)))), (q15, .inl (c15, 24, .inl (fun _ => 0)))] H := hP
  have hD : va_D A [(h0, .inr (1, [.ref q7, .ref q15, .null, .null, .int 0])), (q7, .inl (c7, 96, .inr (.inl (fun _ => 0)))), (q15, .inl (c15, 24, .inl (fun _ => 0)))] := hD
  refine lv_aload_n hx hb dX1_init_20 rfl (lv_at hl 0 rfl) ?_
  refine lv_bipush (v := 24) hx hb dX1_init_21 (by decide) ?_
  refine va_newa (atype := .long) (ty := .long) (N' := 24) (a0 := (24, .inr (.inl (fun _ => 0)))) hx hb (hts (.arrayClass .long) (by decide +kernel)) rfl hKv hP hD hS hA (fun _ => rfl) (by decide +kernel) (by decide +kernel) (by decide +kernel) (Nat.le_of_ble_eq_true rfl) (Nat.le_of_ble_eq_true rfl) dX1_init_23 (fun q23 c23 H hKv hP hD hS => ?_)
  have hP : va_P D vwCl [(h0, .inr (1, [.ref q7, .ref q15, .null, .null, .int 0])), (q7, .inl (c7, 96, .inr (.inl (fun _ => 0)))), (q15, .inl (c15, 24, .inl (fun _ => 0))), (q23, .inl (c23, 24, .inr (.inl (fun _ => 0))))] H := hP
  have hD : va_D A [(h0, .inr (1, [.ref q7, .ref q15, .null, .null, .int 0])), (q7, .inl (c7, 96, .inr (.inl (fun _ => 0)))), (q15, .inl (c15, 24, .inl (fun _ => 0))), (q23, .inl (c23, 24, .inr (.inl (fun _ => 0))))] := hD
  have hKv : va_K D vwCl [(c7, .long), (c15, .int), (c23, .long)] s := hKv
  refine va_putF (D := D) (ci := 1) (v := .ref q23) (ty := .array .long) (C := RX1) (T := TX1) (N := 5) hx hb hts iX1 tyX1 tyX1_ok nmX1 hown hKv hP hD hS 0 rfl rfl 2 (by decide) (hts (.fieldLink RX1 19 "NamedStreams$Paths" "keys" "[J") (by decide +kernel)) (fun _ h9 => h9) rfl hin rfl (by decide +kernel) rfl rfl (Nat.le_of_ble_eq_true rfl) dX1_init_25 (fun H locs hP hD hS => ?_)
  have hP : va_P D vwCl [(h0, .inr (1, [.ref q7, .ref q15, .ref q23, .null, .int 0])), (q7, .inl (c7, 96, .inr (.inl (fun _ => 0)))), (q15, .inl (c15, 24, .inl (fun _ => 0))), (q23, .inl (c23, 24, .inr (.inl (fun _ => 0))))] H := hP
  have hD : va_D A [(h0, .inr (1, [.ref q7, .ref q15, .ref q23, .null, .int 0])), (q7, .inl (c7, 96, .inr (.inl (fun _ => 0)))), (q15, .inl (c15, 24, .inl (fun _ => 0))), (q23, .inl (c23, 24, .inr (.inl (fun _ => 0))))] := hD
  refine lv_aload_n hx hb dX1_init_28 rfl (lv_at hl 0 rfl) ?_
  refine lv_iconst (v := 4) hx hb dX1_init_29 (by decide) ?_
  refine va_newa (atype := .long) (ty := .long) (N' := 4) (a0 := (4, .inr (.inl (fun _ => 0)))) hx hb (hts (.arrayClass .long) (by decide +kernel)) rfl hKv hP hD hS hA (fun _ => rfl) (by decide +kernel) (by decide +kernel) (by decide +kernel) (Nat.le_of_ble_eq_true rfl) (Nat.le_of_ble_eq_true rfl) dX1_init_30 (fun q30 c30 H hKv hP hD hS => ?_)
  have hP : va_P D vwCl [(h0, .inr (1, [.ref q7, .ref q15, .ref q23, .null, .int 0])), (q7, .inl (c7, 96, .inr (.inl (fun _ => 0)))), (q15, .inl (c15, 24, .inl (fun _ => 0))), (q23, .inl (c23, 24, .inr (.inl (fun _ => 0)))), (q30, .inl (c30, 4, .inr (.inl (fun _ => 0))))] H := hP
  have hD : va_D A [(h0, .inr (1, [.ref q7, .ref q15, .ref q23, .null, .int 0])), (q7, .inl (c7, 96, .inr (.inl (fun _ => 0)))), (q15, .inl (c15, 24, .inl (fun _ => 0))), (q23, .inl (c23, 24, .inr (.inl (fun _ => 0)))), (q30, .inl (c30, 4, .inr (.inl (fun _ => 0))))] := hD
  have hKv : va_K D vwCl [(c7, .long), (c15, .int), (c23, .long), (c30, .long)] s := hKv
  refine va_putF (D := D) (ci := 1) (v := .ref q30) (ty := .array .long) (C := RX1) (T := TX1) (N := 5) hx hb hts iX1 tyX1 tyX1_ok nmX1 hown hKv hP hD hS 0 rfl rfl 3 (by decide) (hts (.fieldLink RX1 22 "NamedStreams$Paths" "child" "[J") (by decide +kernel)) (fun _ h9 => h9) rfl hin rfl (by decide +kernel) rfl rfl (Nat.le_of_ble_eq_true rfl) dX1_init_32 (fun H locs hP hD hS => ?_)
  have hP : va_P D vwCl [(h0, .inr (1, [.ref q7, .ref q15, .ref q23, .ref q30, .int 0])), (q7, .inl (c7, 96, .inr (.inl (fun _ => 0)))), (q15, .inl (c15, 24, .inl (fun _ => 0))), (q23, .inl (c23, 24, .inr (.inl (fun _ => 0)))), (q30, .inl (c30, 4, .inr (.inl (fun _ => 0))))] H := hP
  have hD : va_D A [(h0, .inr (1, [.ref q7, .ref q15, .ref q23, .ref q30, .int 0])), (q7, .inl (c7, 96, .inr (.inl (fun _ => 0)))), (q15, .inl (c15, 24, .inl (fun _ => 0))), (q23, .inl (c23, 24, .inr (.inl (fun _ => 0)))), (q30, .inl (c30, 4, .inr (.inl (fun _ => 0))))] := hD
  refine lv_aload_n hx hb dX1_init_35 rfl (lv_at hl 0 rfl) ?_
  refine lv_iconst (v := 0) hx hb dX1_init_36 (by decide) ?_
  refine va_put (D := D) (ci := 1) (v := .int 0) (ty := .int) (C := RX1) (T := TX1) (N := 5) hx hb hts iX1 tyX1 tyX1_ok nmX1 hown hKv hP hD hS 0 rfl rfl 4 (by decide) (hts (.fieldLink RX1 25 "NamedStreams$Paths" "size" "I") (by decide +kernel)) (fun _ h9 => h9) rfl (by decide +kernel) rfl rfl (Nat.le_of_ble_eq_true rfl) dX1_init_37 (fun H locs hP hD hS => ?_)
  have hP : va_P D vwCl [(h0, .inr (1, [.ref q7, .ref q15, .ref q23, .ref q30, .int 0])), (q7, .inl (c7, 96, .inr (.inl (fun _ => 0)))), (q15, .inl (c15, 24, .inl (fun _ => 0))), (q23, .inl (c23, 24, .inr (.inl (fun _ => 0)))), (q30, .inl (c30, 4, .inr (.inl (fun _ => 0))))] H := hP
  have hD : va_D A [(h0, .inr (1, [.ref q7, .ref q15, .ref q23, .ref q30, .int 0])), (q7, .inl (c7, 96, .inr (.inl (fun _ => 0)))), (q15, .inl (c15, 24, .inl (fun _ => 0))), (q23, .inl (c23, 24, .inr (.inl (fun _ => 0)))), (q30, .inl (c30, 4, .inr (.inl (fun _ => 0))))] := hD
  have hP9 := hP.sub (ws' := [(h0, .inr (1, [.ref q7, .ref q15, .ref q23, .ref q30, .int 0])), (q7, .inl (c7, 96, .inr (.inl (fun _ => 0)))), (q15, .inl (c15, 24, .inl (fun _ => 0))), (q23, .inl (c23, 24, .inr (.inl (fun _ => 0)))), (q30, .inl (c30, 4, .inr (.inl (fun _ => 0))))]) [0, 1, 2, 3, 4] rfl
  have hD9 := hD.sub (ws' := [(h0, .inr (1, [.ref q7, .ref q15, .ref q23, .ref q30, .int 0])), (q7, .inl (c7, 96, .inr (.inl (fun _ => 0)))), (q15, .inl (c15, 24, .inl (fun _ => 0))), (q23, .inl (c23, 24, .inr (.inl (fun _ => 0)))), (q30, .inl (c30, 4, .inr (.inl (fun _ => 0))))]) [0, 1, 2, 3, 4] (by decide) rfl
  have hK9 := hKv.sub (tys' := [(c7, .long), (c15, .int), (c23, .long), (c30, .long)]) [0, 1, 2, 3] rfl
  exact W.vret hx hb hr (fun t ht hW => ⟨⟨((q7, q15, q23, q30), (c7, c15, c23, c30)), rfl, rfl, by rw [ht]; exact hP9, hD9, va_K.moved hW.alike hK9⟩, hS.F ht⟩) hS.2.2 dX1_init_40 hlocks

set_option maxHeartbeats 400000 in
set_option maxRecDepth 100000 in
theorem mX3_init (l : Launch) (D : va_G) (h0 : Nat) (sd0 : Int64) : ∀ sz : Nat, Met l yX3_init wsX3_init ({ frames := 2, cells := 10, slots := 219, locals := 32 }) (va_Pc [.ref h0, .long sd0] (nkC D [] [(h0, .inr (3, [.long 0, .null, .int 0, .null, .null, .null, .null, .int 0, .null, .int 0, .int 0]))] sz)) ((fun A => va_Qv (S := (Nat → Nat) × (Nat → ClassId)) (fun u => u.1 0 = h0) (fun u t => va_P D vwCl (wC u.1 u.2 sd0 0 0 0 0 0 (fun _ => 0) (fun _ => 0) (fun _ => 0) (fun _ => none) (fun _ => none) (fun _ => 0) (fun _ => 0) (fun _ => 0) (fun _ => 0) []) t.heap ∧ va_D A (wC u.1 u.2 sd0 0 0 0 0 0 (fun _ => 0) (fun _ => 0) (fun _ => 0) (fun _ => none) (fun _ => none) (fun _ => 0) (fun _ => 0) (fun _ => 0) (fun _ => 0) []) ∧ va_K D vwCl (tC u.2) t) A) (va_A [(h0, .inr (3, [.long 0, .null, .int 0, .null, .null, .null, .null, .int 0, .null, .int 0, .int 0]))] sz)) 10 219 (va_A [(h0, .inr (3, [.long 0, .null, .int 0, .null, .null, .null, .null, .int 0, .null, .int 0, .int 0]))] sz) := by
  refine nk_ofM (Qf := fun A => va_Qv (S := (Nat → Nat) × (Nat → ClassId)) (fun u => u.1 0 = h0) (fun u t => va_P D vwCl (wC u.1 u.2 sd0 0 0 0 0 0 (fun _ => 0) (fun _ => 0) (fun _ => 0) (fun _ => none) (fun _ => none) (fun _ => 0) (fun _ => 0) (fun _ => 0) (fun _ => 0) []) t.heap ∧ va_D A (wC u.1 u.2 sd0 0 0 0 0 0 (fun _ => 0) (fun _ => 0) (fun _ => 0) (fun _ => none) (fun _ => none) (fun _ => 0) (fun _ => 0) (fun _ => 0) (fun _ => 0) []) ∧ va_K D vwCl (tC u.2) t) A) (cc := cX3_init) (maxL := 3) (ret := none) (by decide) rfl (Nat.le_of_ble_eq_true rfl) ?_
  intro p e s m below meth c A hx hb hr hml hts hown hlocks hin hK hP hD hA hS ls hl
  replace hown : s.vm.findClass RX3 = some m.cls := hown
  replace hin : meth.name = "<init>" := hin
  replace hl : lv_has ls 3 [(0, .ref h0), (1, .long sd0)] := hl
  have hKv : va_K D vwCl [] s := hK.1
  have iX1 : ∀ w ∈ u_ws RX1 TX1 5, w ∈ wsX3_init := by decide +kernel
  have iX3 : ∀ w ∈ u_ws RX3 TX3 11, w ∈ wsX3_init := by decide +kernel
  refine lv_aload_n hx hb dX3_init_0 rfl (lv_at hl 0 rfl) ?_
  refine W.objInit hx hb hown (hts (.methodLink RX3 1 objectInit) (by decide +kernel)) (hts (.instanceMethod objectInit) (by decide +kernel)) (hts (.code objectInit ⟨#[0xb1]⟩ 1 none) (by decide +kernel)) rfl (by rw [hml]; exact hl.1) rfl dX3_init_1 (Nat.le_of_ble_eq_true rfl) (Nat.le_of_ble_eq_true rfl) ?_
  refine W.eq (g2 := F0 m 4 ls []) rfl ?_
  refine lv_aload_n hx hb dX3_init_4 rfl (lv_at hl 0 rfl) ?_
  refine lv_iconst (v := 4) hx hb dX3_init_5 (by decide) ?_
  refine va_newa (atype := .long) (ty := .long) (N' := 4) (a0 := (4, .inr (.inl (fun _ => 0)))) hx hb (hts (.arrayClass .long) (by decide +kernel)) rfl hKv hP hD hS hA (fun _ => rfl) (by decide +kernel) (by decide +kernel) (by decide +kernel) (Nat.le_of_ble_eq_true rfl) (Nat.le_of_ble_eq_true rfl) dX3_init_6 (fun q6 c6 H hKv hP hD hS => ?_)
  have hP : va_P D vwCl [(h0, .inr (3, [.long 0, .null, .int 0, .null, .null, .null, .null, .int 0, .null, .int 0, .int 0])), (q6, .inl (c6, 4, .inr (.inl (fun _ => 0))))] H := hP
  have hD : va_D A [(h0, .inr (3, [.long 0, .null, .int 0, .null, .null, .null, .null, .int 0, .null, .int 0, .int 0])), (q6, .inl (c6, 4, .inr (.inl (fun _ => 0))))] := hD
  have hKv : va_K D vwCl [(c6, .long)] s := hKv
  refine va_putF (D := D) (ci := 3) (v := .ref q6) (ty := .array .long) (C := RX3) (T := TX3) (N := 11) hx hb hts iX3 tyX3 tyX3_ok nmX3 hown hKv hP hD hS 0 rfl rfl 1 (by decide) (hts (.fieldLink RX3 9 "NamedStreams" "toldParts" "[J") (by decide +kernel)) (fun _ h9 => h9) rfl hin rfl (by decide +kernel) rfl rfl (Nat.le_of_ble_eq_true rfl) dX3_init_8 (fun H locs hP hD hS => ?_)
  have hP : va_P D vwCl [(h0, .inr (3, [.long 0, .ref q6, .int 0, .null, .null, .null, .null, .int 0, .null, .int 0, .int 0])), (q6, .inl (c6, 4, .inr (.inl (fun _ => 0))))] H := hP
  have hD : va_D A [(h0, .inr (3, [.long 0, .ref q6, .int 0, .null, .null, .null, .null, .int 0, .null, .int 0, .int 0])), (q6, .inl (c6, 4, .inr (.inl (fun _ => 0))))] := hD
  refine lv_aload_n hx hb dX3_init_11 rfl (lv_at hl 0 rfl) ?_
  refine lv_iconst (v := 0) hx hb dX3_init_12 (by decide) ?_
  refine va_put (D := D) (ci := 3) (v := .int 0) (ty := .int) (C := RX3) (T := TX3) (N := 11) hx hb hts iX3 tyX3 tyX3_ok nmX3 hown hKv hP hD hS 0 rfl rfl 2 (by decide) (hts (.fieldLink RX3 13 "NamedStreams" "toldCount" "I") (by decide +kernel)) (fun _ h9 => h9) rfl (by decide +kernel) rfl rfl (Nat.le_of_ble_eq_true rfl) dX3_init_13 (fun H locs hP hD hS => ?_)
  have hP : va_P D vwCl [(h0, .inr (3, [.long 0, .ref q6, .int 0, .null, .null, .null, .null, .int 0, .null, .int 0, .int 0])), (q6, .inl (c6, 4, .inr (.inl (fun _ => 0))))] H := hP
  have hD : va_D A [(h0, .inr (3, [.long 0, .ref q6, .int 0, .null, .null, .null, .null, .int 0, .null, .int 0, .int 0])), (q6, .inl (c6, 4, .inr (.inl (fun _ => 0))))] := hD
  refine lv_aload_n hx hb dX3_init_16 rfl (lv_at hl 0 rfl) ?_
  refine va_new (ci := 1) (fs := [.null, .null, .null, .null, .int 0]) (C := RX1) (T := TX1) (N := 5) hx hb hts iX1 tyX1 tyX1_ok hown (hts (.classLink RX3 17 RX1) (by decide +kernel)) (hts (.instantiable RX1 5) (by decide +kernel)) (hts (.initialized RX1) (by decide +kernel)) hKv hP hD hS hA rfl (fun j hj => by rcases (show j = 0 ∨ j = 1 ∨ j = 2 ∨ j = 3 ∨ j = 4 by omega) with rfl | rfl | rfl | rfl | rfl <;> rfl) (Nat.le_of_ble_eq_true rfl) (Nat.le_of_ble_eq_true rfl) dX3_init_17 (fun q17 H hP hD hS => ?_)
  have hP : va_P D vwCl [(h0, .inr (3, [.long 0, .ref q6, .int 0, .null, .null, .null, .null, .int 0, .null, .int 0, .int 0])), (q6, .inl (c6, 4, .inr (.inl (fun _ => 0)))), (q17, .inr (1, [.null, .null, .null, .null, .int 0]))] H := hP
  have hD : va_D A [(h0, .inr (3, [.long 0, .ref q6, .int 0, .null, .null, .null, .null, .int 0, .null, .int 0, .int 0])), (q6, .inl (c6, 4, .inr (.inl (fun _ => 0)))), (q17, .inr (1, [.null, .null, .null, .null, .int 0]))] := hD
  refine lv_dup hx hb dX3_init_20 rfl ?_
  have hPc := hP.sub (ws' := [(q17, .inr (1, [.null, .null, .null, .null, .int 0]))]) [2] rfl
  have hDc := hD.sub (ws' := [(q17, .inr (1, [.null, .null, .null, .null, .int 0]))]) [2] (by decide) rfl
  have hKc : nkK D [] s := ⟨hKv.sub (tys' := []) [] rfl, hK.2⟩
  have hFc := va_free (wc := [(q17, .inr (1, [.null, .null, .null, .null, .int 0]))]) hD hS hA [2] rfl
  refine va_callv (va_runIN (As := []) (rest := [.ref q17, .ref h0]) ⟨hx, hb, hml, hown, hts⟩ (mX1_init l D q17 H.size) ⟨va_cnB 0 hts gX3_init_X1_init_n19 rfl rfl rfl hK.2.1 (hts (.initialized RX1) (by decide +kernel)) (by decide +kernel) ⟨Nat.le_of_ble_eq_true rfl, Nat.le_of_ble_eq_true rfl⟩, rfl, hts (.instanceMethod yX1_init) (by decide +kernel)⟩ (nk_preM hKc hPc hDc [.ref q17]) rfl rfl hl.1 rfl (lv_room (Nat.le_of_ble_eq_true rfl)) dX3_init_21 ⟨Nat.le_of_ble_eq_true rfl, Nat.le_of_ble_eq_true rfl⟩) hS (fun q _ h => hFc q h) hFc (fun u t H1 locs ht hvm hw hB hz1 hk1 hS => ?_)
  obtain ⟨⟨p1, p2, p3, p4⟩, ⟨d1, d2, d3, d4⟩⟩ := u
  obtain ⟨hP1, hD1, hK1⟩ := hB
  rw [ht] at hP1
  have hK1 := va_K.moved hvm.symm hK1
  obtain ⟨hP, hD⟩ := va_join (wr := [(h0, .inr (3, [.long 0, .ref q6, .int 0, .null, .null, .null, .null, .int 0, .null, .int 0, .int 0])), (q6, .inl (c6, 4, .inr (.inl (fun _ => 0))))]) (w1 := [(q17, .inr (1, [.ref p1, .ref p2, .ref p3, .ref p4, .int 0])), (p1, .inl (d1, 96, .inr (.inl (fun _ => 0)))), (p2, .inl (d2, 24, .inl (fun _ => 0))), (p3, .inl (d3, 24, .inr (.inl (fun _ => 0)))), (p4, .inl (d4, 4, .inr (.inl (fun _ => 0))))]) hP hD [2] [0, 1] rfl rfl (by decide) (by decide) hk1 hFc hP1 hD1
  have hKv := (hKv.sub (tys' := [(c6, .long)]) [0] rfl).app hK1
  generalize H1 = H at hP hS ⊢
  have hP : va_P D vwCl [(h0, .inr (3, [.long 0, .ref q6, .int 0, .null, .null, .null, .null, .int 0, .null, .int 0, .int 0])), (q6, .inl (c6, 4, .inr (.inl (fun _ => 0)))), (q17, .inr (1, [.ref p1, .ref p2, .ref p3, .ref p4, .int 0])), (p1, .inl (d1, 96, .inr (.inl (fun _ => 0)))), (p2, .inl (d2, 24, .inl (fun _ => 0))), (p3, .inl (d3, 24, .inr (.inl (fun _ => 0)))), (p4, .inl (d4, 4, .inr (.inl (fun _ => 0))))] H := hP
  have hD : va_D A [(h0, .inr (3, [.long 0, .ref q6, .int 0, .null, .null, .null, .null, .int 0, .null, .int 0, .int 0])), (q6, .inl (c6, 4, .inr (.inl (fun _ => 0)))), (q17, .inr (1, [.ref p1, .ref p2, .ref p3, .ref p4, .int 0])), (p1, .inl (d1, 96, .inr (.inl (fun _ => 0)))), (p2, .inl (d2, 24, .inl (fun _ => 0))), (p3, .inl (d3, 24, .inr (.inl (fun _ => 0)))), (p4, .inl (d4, 4, .inr (.inl (fun _ => 0))))] := hD
  have hKv : va_K D vwCl [(c6, .long), (d1, .long), (d2, .int), (d3, .long), (d4, .long)] s := hKv
  refine va_putF (D := D) (ci := 3) (v := .ref q17) (ty := .object "NamedStreams$Paths") (C := RX3) (T := TX3) (N := 11) hx hb hts iX3 tyX3 tyX3_ok nmX3 hown hKv hP hD hS 0 rfl rfl 3 (by decide) (hts (.fieldLink RX3 20 "NamedStreams" "paths" "LNamedStreams$Paths;") (by decide +kernel)) (fun _ h9 => h9) rfl hin rfl (by decide +kernel) rfl rfl (Nat.le_of_ble_eq_true rfl) dX3_init_24 (fun H locs hP hD hS => ?_)
  have hP : va_P D vwCl [(h0, .inr (3, [.long 0, .ref q6, .int 0, .ref q17, .null, .null, .null, .int 0, .null, .int 0, .int 0])), (q6, .inl (c6, 4, .inr (.inl (fun _ => 0)))), (q17, .inr (1, [.ref p1, .ref p2, .ref p3, .ref p4, .int 0])), (p1, .inl (d1, 96, .inr (.inl (fun _ => 0)))), (p2, .inl (d2, 24, .inl (fun _ => 0))), (p3, .inl (d3, 24, .inr (.inl (fun _ => 0)))), (p4, .inl (d4, 4, .inr (.inl (fun _ => 0))))] H := hP
  have hD : va_D A [(h0, .inr (3, [.long 0, .ref q6, .int 0, .ref q17, .null, .null, .null, .int 0, .null, .int 0, .int 0])), (q6, .inl (c6, 4, .inr (.inl (fun _ => 0)))), (q17, .inr (1, [.ref p1, .ref p2, .ref p3, .ref p4, .int 0])), (p1, .inl (d1, 96, .inr (.inl (fun _ => 0)))), (p2, .inl (d2, 24, .inl (fun _ => 0))), (p3, .inl (d3, 24, .inr (.inl (fun _ => 0)))), (p4, .inl (d4, 4, .inr (.inl (fun _ => 0))))] := hD
  refine lv_aload_n hx hb dX3_init_27 rfl (lv_at hl 0 rfl) ?_
  refine lv_bipush (v := 10) hx hb dX3_init_28 (by decide) ?_
  refine va_newa (atype := .long) (ty := .long) (N' := 10) (a0 := (10, .inr (.inl (fun _ => 0)))) hx hb (hts (.arrayClass .long) (by decide +kernel)) rfl hKv hP hD hS hA (fun _ => rfl) (by decide +kernel) (by decide +kernel) (by decide +kernel) (Nat.le_of_ble_eq_true rfl) (Nat.le_of_ble_eq_true rfl) dX3_init_30 (fun q30 c30 H hKv hP hD hS => ?_)
  have hP : va_P D vwCl [(h0, .inr (3, [.long 0, .ref q6, .int 0, .ref q17, .null, .null, .null, .int 0, .null, .int 0, .int 0])), (q6, .inl (c6, 4, .inr (.inl (fun _ => 0)))), (q17, .inr (1, [.ref p1, .ref p2, .ref p3, .ref p4, .int 0])), (p1, .inl (d1, 96, .inr (.inl (fun _ => 0)))), (p2, .inl (d2, 24, .inl (fun _ => 0))), (p3, .inl (d3, 24, .inr (.inl (fun _ => 0)))), (p4, .inl (d4, 4, .inr (.inl (fun _ => 0)))), (q30, .inl (c30, 10, .inr (.inl (fun _ => 0))))] H := hP
  have hD : va_D A [(h0, .inr (3, [.long 0, .ref q6, .int 0, .ref q17, .null, .null, .null, .int 0, .null, .int 0, .int 0])), (q6, .inl (c6, 4, .inr (.inl (fun _ => 0)))), (q17, .inr (1, [.ref p1, .ref p2, .ref p3, .ref p4, .int 0])), (p1, .inl (d1, 96, .inr (.inl (fun _ => 0)))), (p2, .inl (d2, 24, .inl (fun _ => 0))), (p3, .inl (d3, 24, .inr (.inl (fun _ => 0)))), (p4, .inl (d4, 4, .inr (.inl (fun _ => 0)))), (q30, .inl (c30, 10, .inr (.inl (fun _ => 0))))] := hD
  have hKv : va_K D vwCl [(c6, .long), (d1, .long), (d2, .int), (d3, .long), (d4, .long), (c30, .long)] s := hKv
  refine va_putF (D := D) (ci := 3) (v := .ref q30) (ty := .array .long) (C := RX3) (T := TX3) (N := 11) hx hb hts iX3 tyX3 tyX3_ok nmX3 hown hKv hP hD hS 0 rfl rfl 4 (by decide) (hts (.fieldLink RX3 24 "NamedStreams" "weights" "[J") (by decide +kernel)) (fun _ h9 => h9) rfl hin rfl (by decide +kernel) rfl rfl (Nat.le_of_ble_eq_true rfl) dX3_init_32 (fun H locs hP hD hS => ?_)
  have hP : va_P D vwCl [(h0, .inr (3, [.long 0, .ref q6, .int 0, .ref q17, .ref q30, .null, .null, .int 0, .null, .int 0, .int 0])), (q6, .inl (c6, 4, .inr (.inl (fun _ => 0)))), (q17, .inr (1, [.ref p1, .ref p2, .ref p3, .ref p4, .int 0])), (p1, .inl (d1, 96, .inr (.inl (fun _ => 0)))), (p2, .inl (d2, 24, .inl (fun _ => 0))), (p3, .inl (d3, 24, .inr (.inl (fun _ => 0)))), (p4, .inl (d4, 4, .inr (.inl (fun _ => 0)))), (q30, .inl (c30, 10, .inr (.inl (fun _ => 0))))] H := hP
  have hD : va_D A [(h0, .inr (3, [.long 0, .ref q6, .int 0, .ref q17, .ref q30, .null, .null, .int 0, .null, .int 0, .int 0])), (q6, .inl (c6, 4, .inr (.inl (fun _ => 0)))), (q17, .inr (1, [.ref p1, .ref p2, .ref p3, .ref p4, .int 0])), (p1, .inl (d1, 96, .inr (.inl (fun _ => 0)))), (p2, .inl (d2, 24, .inl (fun _ => 0))), (p3, .inl (d3, 24, .inr (.inl (fun _ => 0)))), (p4, .inl (d4, 4, .inr (.inl (fun _ => 0)))), (q30, .inl (c30, 10, .inr (.inl (fun _ => 0))))] := hD
  refine lv_aload_n hx hb dX3_init_35 rfl (lv_at hl 0 rfl) ?_
  refine lv_bipush (v := 40) hx hb dX3_init_36 (by decide) ?_
  refine va_newa (atype := .int) (ty := .int) (N' := 40) (a0 := (40, .inl (fun _ => 0))) hx hb (hts (.arrayClass .int) (by decide +kernel)) rfl hKv hP hD hS hA (fun _ => rfl) (by decide +kernel) (by decide +kernel) (by decide +kernel) (Nat.le_of_ble_eq_true rfl) (Nat.le_of_ble_eq_true rfl) dX3_init_38 (fun q38 c38 H hKv hP hD hS => ?_)
  have hP : va_P D vwCl [(h0, .inr (3, [.long 0, .ref q6, .int 0, .ref q17, .ref q30, .null, .null, .int 0, .null, .int 0, .int 0])), (q6, .inl (c6, 4, .inr (.inl (fun _ => 0)))), (q17, .inr (1, [.ref p1, .ref p2, .ref p3, .ref p4, .int 0])), (p1, .inl (d1, 96, .inr (.inl (fun _ => 0)))), (p2, .inl (d2, 24, .inl (fun _ => 0))), (p3, .inl (d3, 24, .inr (.inl (fun _ => 0)))), (p4, .inl (d4, 4, .inr (.inl (fun _ => 0)))), (q30, .inl (c30, 10, .inr (.inl (fun _ => 0)))), (q38, .inl (c38, 40, .inl (fun _ => 0)))] H := hP
  have hD : va_D A [(h0, .inr (3, [.long 0, .ref q6, .int 0, .ref q17, .ref q30, .null, .null, .int 0, .null, .int 0, .int 0])), (q6, .inl (c6, 4, .inr (.inl (fun _ => 0)))), (q17, .inr (1, [.ref p1, .ref p2, .ref p3, .ref p4, .int 0])), (p1, .inl (d1, 96, .inr (.inl (fun _ => 0)))), (p2, .inl (d2, 24, .inl (fun _ => 0))), (p3, .inl (d3, 24, .inr (.inl (fun _ => 0)))), (p4, .inl (d4, 4, .inr (.inl (fun _ => 0)))), (q30, .inl (c30, 10, .inr (.inl (fun _ => 0)))), (q38, .inl (c38, 40, .inl (fun _ => 0)))] := hD
  have hKv : va_K D vwCl [(c6, .long), (d1, .long), (d2, .int), (d3, .long), (d4, .long), (c30, .long), (c38, .int)] s := hKv
  refine va_putF (D := D) (ci := 3) (v := .ref q38) (ty := .array .int) (C := RX3) (T := TX3) (N := 11) hx hb hts iX3 tyX3 tyX3_ok nmX3 hown hKv hP hD hS 0 rfl rfl 5 (by decide) (hts (.fieldLink RX3 27 "NamedStreams" "order" "[I") (by decide +kernel)) (fun _ h9 => h9) rfl hin rfl (by decide +kernel) rfl rfl (Nat.le_of_ble_eq_true rfl) dX3_init_40 (fun H locs hP hD hS => ?_)
  have hP : va_P D vwCl [(h0, .inr (3, [.long 0, .ref q6, .int 0, .ref q17, .ref q30, .ref q38, .null, .int 0, .null, .int 0, .int 0])), (q6, .inl (c6, 4, .inr (.inl (fun _ => 0)))), (q17, .inr (1, [.ref p1, .ref p2, .ref p3, .ref p4, .int 0])), (p1, .inl (d1, 96, .inr (.inl (fun _ => 0)))), (p2, .inl (d2, 24, .inl (fun _ => 0))), (p3, .inl (d3, 24, .inr (.inl (fun _ => 0)))), (p4, .inl (d4, 4, .inr (.inl (fun _ => 0)))), (q30, .inl (c30, 10, .inr (.inl (fun _ => 0)))), (q38, .inl (c38, 40, .inl (fun _ => 0)))] H := hP
  have hD : va_D A [(h0, .inr (3, [.long 0, .ref q6, .int 0, .ref q17, .ref q30, .ref q38, .null, .int 0, .null, .int 0, .int 0])), (q6, .inl (c6, 4, .inr (.inl (fun _ => 0)))), (q17, .inr (1, [.ref p1, .ref p2, .ref p3, .ref p4, .int 0])), (p1, .inl (d1, 96, .inr (.inl (fun _ => 0)))), (p2, .inl (d2, 24, .inl (fun _ => 0))), (p3, .inl (d3, 24, .inr (.inl (fun _ => 0)))), (p4, .inl (d4, 4, .inr (.inl (fun _ => 0)))), (q30, .inl (c30, 10, .inr (.inl (fun _ => 0)))), (q38, .inl (c38, 40, .inl (fun _ => 0)))] := hD
  refine lv_aload_n hx hb dX3_init_43 rfl (lv_at hl 0 rfl) ?_
  refine lv_bipush (v := 8) hx hb dX3_init_44 (by decide) ?_
  refine va_newq (C := "NamedStreams$Stream") (N' := 8) hx hb hown (hts (.classLink RX3 31 RX2) (by decide +kernel)) hK.2.2.2.2.1 hKv hP hD hS hA (by decide +kernel) (by decide +kernel) (by decide +kernel) (Nat.le_of_ble_eq_true rfl) (Nat.le_of_ble_eq_true rfl) dX3_init_46 (fun q46 c46 H hKv hP hD hS => ?_)
  have hP : va_P D vwCl [(h0, .inr (3, [.long 0, .ref q6, .int 0, .ref q17, .ref q30, .ref q38, .null, .int 0, .null, .int 0, .int 0])), (q6, .inl (c6, 4, .inr (.inl (fun _ => 0)))), (q17, .inr (1, [.ref p1, .ref p2, .ref p3, .ref p4, .int 0])), (p1, .inl (d1, 96, .inr (.inl (fun _ => 0)))), (p2, .inl (d2, 24, .inl (fun _ => 0))), (p3, .inl (d3, 24, .inr (.inl (fun _ => 0)))), (p4, .inl (d4, 4, .inr (.inl (fun _ => 0)))), (q30, .inl (c30, 10, .inr (.inl (fun _ => 0)))), (q38, .inl (c38, 40, .inl (fun _ => 0))), (q46, .inl (c46, 8, .inr (.inr (.inr (.inr (fun _ => none))))))] H := hP
  have hD : va_D A [(h0, .inr (3, [.long 0, .ref q6, .int 0, .ref q17, .ref q30, .ref q38, .null, .int 0, .null, .int 0, .int 0])), (q6, .inl (c6, 4, .inr (.inl (fun _ => 0)))), (q17, .inr (1, [.ref p1, .ref p2, .ref p3, .ref p4, .int 0])), (p1, .inl (d1, 96, .inr (.inl (fun _ => 0)))), (p2, .inl (d2, 24, .inl (fun _ => 0))), (p3, .inl (d3, 24, .inr (.inl (fun _ => 0)))), (p4, .inl (d4, 4, .inr (.inl (fun _ => 0)))), (q30, .inl (c30, 10, .inr (.inl (fun _ => 0)))), (q38, .inl (c38, 40, .inl (fun _ => 0))), (q46, .inl (c46, 8, .inr (.inr (.inr (.inr (fun _ => none))))))] := hD
  have hKv : va_K D vwCl [(c6, .long), (d1, .long), (d2, .int), (d3, .long), (d4, .long), (c30, .long), (c38, .int), (c46, .object "NamedStreams$Stream")] s := hKv
  refine va_putF (D := D) (ci := 3) (v := .ref q46) (ty := .array (.object "NamedStreams$Stream")) (C := RX3) (T := TX3) (N := 11) hx hb hts iX3 tyX3 tyX3_ok nmX3 hown hKv hP hD hS 0 rfl rfl 6 (by decide) (hts (.fieldLink RX3 33 "NamedStreams" "streams" "[LNamedStreams$Stream;") (by decide +kernel)) (fun _ h9 => h9) rfl hin rfl (by decide +kernel) rfl rfl (Nat.le_of_ble_eq_true rfl) dX3_init_49 (fun H locs hP hD hS => ?_)
  have hP : va_P D vwCl [(h0, .inr (3, [.long 0, .ref q6, .int 0, .ref q17, .ref q30, .ref q38, .ref q46, .int 0, .null, .int 0, .int 0])), (q6, .inl (c6, 4, .inr (.inl (fun _ => 0)))), (q17, .inr (1, [.ref p1, .ref p2, .ref p3, .ref p4, .int 0])), (p1, .inl (d1, 96, .inr (.inl (fun _ => 0)))), (p2, .inl (d2, 24, .inl (fun _ => 0))), (p3, .inl (d3, 24, .inr (.inl (fun _ => 0)))), (p4, .inl (d4, 4, .inr (.inl (fun _ => 0)))), (q30, .inl (c30, 10, .inr (.inl (fun _ => 0)))), (q38, .inl (c38, 40, .inl (fun _ => 0))), (q46, .inl (c46, 8, .inr (.inr (.inr (.inr (fun _ => none))))))] H := hP
  have hD : va_D A [(h0, .inr (3, [.long 0, .ref q6, .int 0, .ref q17, .ref q30, .ref q38, .ref q46, .int 0, .null, .int 0, .int 0])), (q6, .inl (c6, 4, .inr (.inl (fun _ => 0)))), (q17, .inr (1, [.ref p1, .ref p2, .ref p3, .ref p4, .int 0])), (p1, .inl (d1, 96, .inr (.inl (fun _ => 0)))), (p2, .inl (d2, 24, .inl (fun _ => 0))), (p3, .inl (d3, 24, .inr (.inl (fun _ => 0)))), (p4, .inl (d4, 4, .inr (.inl (fun _ => 0)))), (q30, .inl (c30, 10, .inr (.inl (fun _ => 0)))), (q38, .inl (c38, 40, .inl (fun _ => 0))), (q46, .inl (c46, 8, .inr (.inr (.inr (.inr (fun _ => none))))))] := hD
  refine lv_aload_n hx hb dX3_init_52 rfl (lv_at hl 0 rfl) ?_
  refine lv_iconst (v := 0) hx hb dX3_init_53 (by decide) ?_
  refine va_put (D := D) (ci := 3) (v := .int 0) (ty := .int) (C := RX3) (T := TX3) (N := 11) hx hb hts iX3 tyX3 tyX3_ok nmX3 hown hKv hP hD hS 0 rfl rfl 7 (by decide) (hts (.fieldLink RX3 37 "NamedStreams" "streamCount" "I") (by decide +kernel)) (fun _ h9 => h9) rfl (by decide +kernel) rfl rfl (Nat.le_of_ble_eq_true rfl) dX3_init_54 (fun H locs hP hD hS => ?_)
  have hP : va_P D vwCl [(h0, .inr (3, [.long 0, .ref q6, .int 0, .ref q17, .ref q30, .ref q38, .ref q46, .int 0, .null, .int 0, .int 0])), (q6, .inl (c6, 4, .inr (.inl (fun _ => 0)))), (q17, .inr (1, [.ref p1, .ref p2, .ref p3, .ref p4, .int 0])), (p1, .inl (d1, 96, .inr (.inl (fun _ => 0)))), (p2, .inl (d2, 24, .inl (fun _ => 0))), (p3, .inl (d3, 24, .inr (.inl (fun _ => 0)))), (p4, .inl (d4, 4, .inr (.inl (fun _ => 0)))), (q30, .inl (c30, 10, .inr (.inl (fun _ => 0)))), (q38, .inl (c38, 40, .inl (fun _ => 0))), (q46, .inl (c46, 8, .inr (.inr (.inr (.inr (fun _ => none))))))] H := hP
  have hD : va_D A [(h0, .inr (3, [.long 0, .ref q6, .int 0, .ref q17, .ref q30, .ref q38, .ref q46, .int 0, .null, .int 0, .int 0])), (q6, .inl (c6, 4, .inr (.inl (fun _ => 0)))), (q17, .inr (1, [.ref p1, .ref p2, .ref p3, .ref p4, .int 0])), (p1, .inl (d1, 96, .inr (.inl (fun _ => 0)))), (p2, .inl (d2, 24, .inl (fun _ => 0))), (p3, .inl (d3, 24, .inr (.inl (fun _ => 0)))), (p4, .inl (d4, 4, .inr (.inl (fun _ => 0)))), (q30, .inl (c30, 10, .inr (.inl (fun _ => 0)))), (q38, .inl (c38, 40, .inl (fun _ => 0))), (q46, .inl (c46, 8, .inr (.inr (.inr (.inr (fun _ => none))))))] := hD
  refine lv_aload_n hx hb dX3_init_57 rfl (lv_at hl 0 rfl) ?_
  refine lv_iconst (v := 4) hx hb dX3_init_58 (by decide) ?_
  refine va_newq (C := "NamedStreams$Kept") (N' := 4) hx hb hown (hts (.classLink RX3 40 RX0) (by decide +kernel)) hK.2.2.2.2.2 hKv hP hD hS hA (by decide +kernel) (by decide +kernel) (by decide +kernel) (Nat.le_of_ble_eq_true rfl) (Nat.le_of_ble_eq_true rfl) dX3_init_59 (fun q59 c59 H hKv hP hD hS => ?_)
  have hP : va_P D vwCl [(h0, .inr (3, [.long 0, .ref q6, .int 0, .ref q17, .ref q30, .ref q38, .ref q46, .int 0, .null, .int 0, .int 0])), (q6, .inl (c6, 4, .inr (.inl (fun _ => 0)))), (q17, .inr (1, [.ref p1, .ref p2, .ref p3, .ref p4, .int 0])), (p1, .inl (d1, 96, .inr (.inl (fun _ => 0)))), (p2, .inl (d2, 24, .inl (fun _ => 0))), (p3, .inl (d3, 24, .inr (.inl (fun _ => 0)))), (p4, .inl (d4, 4, .inr (.inl (fun _ => 0)))), (q30, .inl (c30, 10, .inr (.inl (fun _ => 0)))), (q38, .inl (c38, 40, .inl (fun _ => 0))), (q46, .inl (c46, 8, .inr (.inr (.inr (.inr (fun _ => none)))))), (q59, .inl (c59, 4, .inr (.inr (.inr (.inr (fun _ => none))))))] H := hP
  have hD : va_D A [(h0, .inr (3, [.long 0, .ref q6, .int 0, .ref q17, .ref q30, .ref q38, .ref q46, .int 0, .null, .int 0, .int 0])), (q6, .inl (c6, 4, .inr (.inl (fun _ => 0)))), (q17, .inr (1, [.ref p1, .ref p2, .ref p3, .ref p4, .int 0])), (p1, .inl (d1, 96, .inr (.inl (fun _ => 0)))), (p2, .inl (d2, 24, .inl (fun _ => 0))), (p3, .inl (d3, 24, .inr (.inl (fun _ => 0)))), (p4, .inl (d4, 4, .inr (.inl (fun _ => 0)))), (q30, .inl (c30, 10, .inr (.inl (fun _ => 0)))), (q38, .inl (c38, 40, .inl (fun _ => 0))), (q46, .inl (c46, 8, .inr (.inr (.inr (.inr (fun _ => none)))))), (q59, .inl (c59, 4, .inr (.inr (.inr (.inr (fun _ => none))))))] := hD
  have hKv : va_K D vwCl [(c6, .long), (d1, .long), (d2, .int), (d3, .long), (d4, .long), (c30, .long), (c38, .int), (c46, .object "NamedStreams$Stream"), (c59, .object "NamedStreams$Kept")] s := hKv
  refine va_putF (D := D) (ci := 3) (v := .ref q59) (ty := .array (.object "NamedStreams$Kept")) (C := RX3) (T := TX3) (N := 11) hx hb hts iX3 tyX3 tyX3_ok nmX3 hown hKv hP hD hS 0 rfl rfl 8 (by decide) (hts (.fieldLink RX3 42 "NamedStreams" "kept" "[LNamedStreams$Kept;") (by decide +kernel)) (fun _ h9 => h9) rfl hin rfl (by decide +kernel) rfl rfl (Nat.le_of_ble_eq_true rfl) dX3_init_62 (fun H locs hP hD hS => ?_)
  have hP : va_P D vwCl [(h0, .inr (3, [.long 0, .ref q6, .int 0, .ref q17, .ref q30, .ref q38, .ref q46, .int 0, .ref q59, .int 0, .int 0])), (q6, .inl (c6, 4, .inr (.inl (fun _ => 0)))), (q17, .inr (1, [.ref p1, .ref p2, .ref p3, .ref p4, .int 0])), (p1, .inl (d1, 96, .inr (.inl (fun _ => 0)))), (p2, .inl (d2, 24, .inl (fun _ => 0))), (p3, .inl (d3, 24, .inr (.inl (fun _ => 0)))), (p4, .inl (d4, 4, .inr (.inl (fun _ => 0)))), (q30, .inl (c30, 10, .inr (.inl (fun _ => 0)))), (q38, .inl (c38, 40, .inl (fun _ => 0))), (q46, .inl (c46, 8, .inr (.inr (.inr (.inr (fun _ => none)))))), (q59, .inl (c59, 4, .inr (.inr (.inr (.inr (fun _ => none))))))] H := hP
  have hD : va_D A [(h0, .inr (3, [.long 0, .ref q6, .int 0, .ref q17, .ref q30, .ref q38, .ref q46, .int 0, .ref q59, .int 0, .int 0])), (q6, .inl (c6, 4, .inr (.inl (fun _ => 0)))), (q17, .inr (1, [.ref p1, .ref p2, .ref p3, .ref p4, .int 0])), (p1, .inl (d1, 96, .inr (.inl (fun _ => 0)))), (p2, .inl (d2, 24, .inl (fun _ => 0))), (p3, .inl (d3, 24, .inr (.inl (fun _ => 0)))), (p4, .inl (d4, 4, .inr (.inl (fun _ => 0)))), (q30, .inl (c30, 10, .inr (.inl (fun _ => 0)))), (q38, .inl (c38, 40, .inl (fun _ => 0))), (q46, .inl (c46, 8, .inr (.inr (.inr (.inr (fun _ => none)))))), (q59, .inl (c59, 4, .inr (.inr (.inr (.inr (fun _ => none))))))] := hD
  refine lv_aload_n hx hb dX3_init_65 rfl (lv_at hl 0 rfl) ?_
  refine lv_iconst (v := 0) hx hb dX3_init_66 (by decide) ?_
  refine va_put (D := D) (ci := 3) (v := .int 0) (ty := .int) (C := RX3) (T := TX3) (N := 11) hx hb hts iX3 tyX3 tyX3_ok nmX3 hown hKv hP hD hS 0 rfl rfl 9 (by decide) (hts (.fieldLink RX3 46 "NamedStreams" "latestTries" "I") (by decide +kernel)) (fun _ h9 => h9) rfl (by decide +kernel) rfl rfl (Nat.le_of_ble_eq_true rfl) dX3_init_67 (fun H locs hP hD hS => ?_)
  have hP : va_P D vwCl [(h0, .inr (3, [.long 0, .ref q6, .int 0, .ref q17, .ref q30, .ref q38, .ref q46, .int 0, .ref q59, .int 0, .int 0])), (q6, .inl (c6, 4, .inr (.inl (fun _ => 0)))), (q17, .inr (1, [.ref p1, .ref p2, .ref p3, .ref p4, .int 0])), (p1, .inl (d1, 96, .inr (.inl (fun _ => 0)))), (p2, .inl (d2, 24, .inl (fun _ => 0))), (p3, .inl (d3, 24, .inr (.inl (fun _ => 0)))), (p4, .inl (d4, 4, .inr (.inl (fun _ => 0)))), (q30, .inl (c30, 10, .inr (.inl (fun _ => 0)))), (q38, .inl (c38, 40, .inl (fun _ => 0))), (q46, .inl (c46, 8, .inr (.inr (.inr (.inr (fun _ => none)))))), (q59, .inl (c59, 4, .inr (.inr (.inr (.inr (fun _ => none))))))] H := hP
  have hD : va_D A [(h0, .inr (3, [.long 0, .ref q6, .int 0, .ref q17, .ref q30, .ref q38, .ref q46, .int 0, .ref q59, .int 0, .int 0])), (q6, .inl (c6, 4, .inr (.inl (fun _ => 0)))), (q17, .inr (1, [.ref p1, .ref p2, .ref p3, .ref p4, .int 0])), (p1, .inl (d1, 96, .inr (.inl (fun _ => 0)))), (p2, .inl (d2, 24, .inl (fun _ => 0))), (p3, .inl (d3, 24, .inr (.inl (fun _ => 0)))), (p4, .inl (d4, 4, .inr (.inl (fun _ => 0)))), (q30, .inl (c30, 10, .inr (.inl (fun _ => 0)))), (q38, .inl (c38, 40, .inl (fun _ => 0))), (q46, .inl (c46, 8, .inr (.inr (.inr (.inr (fun _ => none)))))), (q59, .inl (c59, 4, .inr (.inr (.inr (.inr (fun _ => none))))))] := hD
  refine lv_aload_n hx hb dX3_init_70 rfl (lv_at hl 0 rfl) ?_
  refine lv_iconst (v := 0) hx hb dX3_init_71 (by decide) ?_
  refine va_put (D := D) (ci := 3) (v := .int 0) (ty := .int) (C := RX3) (T := TX3) (N := 11) hx hb hts iX3 tyX3 tyX3_ok nmX3 hown hKv hP hD hS 0 rfl rfl 10 (by decide) (hts (.fieldLink RX3 49 "NamedStreams" "latestStatus" "I") (by decide +kernel)) (fun _ h9 => h9) rfl (by decide +kernel) rfl rfl (Nat.le_of_ble_eq_true rfl) dX3_init_72 (fun H locs hP hD hS => ?_)
  have hP : va_P D vwCl [(h0, .inr (3, [.long 0, .ref q6, .int 0, .ref q17, .ref q30, .ref q38, .ref q46, .int 0, .ref q59, .int 0, .int 0])), (q6, .inl (c6, 4, .inr (.inl (fun _ => 0)))), (q17, .inr (1, [.ref p1, .ref p2, .ref p3, .ref p4, .int 0])), (p1, .inl (d1, 96, .inr (.inl (fun _ => 0)))), (p2, .inl (d2, 24, .inl (fun _ => 0))), (p3, .inl (d3, 24, .inr (.inl (fun _ => 0)))), (p4, .inl (d4, 4, .inr (.inl (fun _ => 0)))), (q30, .inl (c30, 10, .inr (.inl (fun _ => 0)))), (q38, .inl (c38, 40, .inl (fun _ => 0))), (q46, .inl (c46, 8, .inr (.inr (.inr (.inr (fun _ => none)))))), (q59, .inl (c59, 4, .inr (.inr (.inr (.inr (fun _ => none))))))] H := hP
  have hD : va_D A [(h0, .inr (3, [.long 0, .ref q6, .int 0, .ref q17, .ref q30, .ref q38, .ref q46, .int 0, .ref q59, .int 0, .int 0])), (q6, .inl (c6, 4, .inr (.inl (fun _ => 0)))), (q17, .inr (1, [.ref p1, .ref p2, .ref p3, .ref p4, .int 0])), (p1, .inl (d1, 96, .inr (.inl (fun _ => 0)))), (p2, .inl (d2, 24, .inl (fun _ => 0))), (p3, .inl (d3, 24, .inr (.inl (fun _ => 0)))), (p4, .inl (d4, 4, .inr (.inl (fun _ => 0)))), (q30, .inl (c30, 10, .inr (.inl (fun _ => 0)))), (q38, .inl (c38, 40, .inl (fun _ => 0))), (q46, .inl (c46, 8, .inr (.inr (.inr (.inr (fun _ => none)))))), (q59, .inl (c59, 4, .inr (.inr (.inr (.inr (fun _ => none))))))] := hD
  refine lv_aload_n hx hb dX3_init_75 rfl (lv_at hl 0 rfl) ?_
  refine lv_lload_n hx hb dX3_init_76 rfl (lv_at hl 1 rfl) ?_
  refine va_putF (D := D) (ci := 3) (v := .long sd0) (ty := .long) (C := RX3) (T := TX3) (N := 11) hx hb hts iX3 tyX3 tyX3_ok nmX3 hown hKv hP hD hS 0 rfl rfl 0 (by decide) (hts (.fieldLink RX3 52 "NamedStreams" "seed" "J") (by decide +kernel)) (fun _ h9 => h9) rfl hin rfl (by decide +kernel) rfl rfl (Nat.le_of_ble_eq_true rfl) dX3_init_77 (fun H locs hP hD hS => ?_)
  have hP : va_P D vwCl [(h0, .inr (3, [.long sd0, .ref q6, .int 0, .ref q17, .ref q30, .ref q38, .ref q46, .int 0, .ref q59, .int 0, .int 0])), (q6, .inl (c6, 4, .inr (.inl (fun _ => 0)))), (q17, .inr (1, [.ref p1, .ref p2, .ref p3, .ref p4, .int 0])), (p1, .inl (d1, 96, .inr (.inl (fun _ => 0)))), (p2, .inl (d2, 24, .inl (fun _ => 0))), (p3, .inl (d3, 24, .inr (.inl (fun _ => 0)))), (p4, .inl (d4, 4, .inr (.inl (fun _ => 0)))), (q30, .inl (c30, 10, .inr (.inl (fun _ => 0)))), (q38, .inl (c38, 40, .inl (fun _ => 0))), (q46, .inl (c46, 8, .inr (.inr (.inr (.inr (fun _ => none)))))), (q59, .inl (c59, 4, .inr (.inr (.inr (.inr (fun _ => none))))))] H := hP
  have hD : va_D A [(h0, .inr (3, [.long sd0, .ref q6, .int 0, .ref q17, .ref q30, .ref q38, .ref q46, .int 0, .ref q59, .int 0, .int 0])), (q6, .inl (c6, 4, .inr (.inl (fun _ => 0)))), (q17, .inr (1, [.ref p1, .ref p2, .ref p3, .ref p4, .int 0])), (p1, .inl (d1, 96, .inr (.inl (fun _ => 0)))), (p2, .inl (d2, 24, .inl (fun _ => 0))), (p3, .inl (d3, 24, .inr (.inl (fun _ => 0)))), (p4, .inl (d4, 4, .inr (.inl (fun _ => 0)))), (q30, .inl (c30, 10, .inr (.inl (fun _ => 0)))), (q38, .inl (c38, 40, .inl (fun _ => 0))), (q46, .inl (c46, 8, .inr (.inr (.inr (.inr (fun _ => none)))))), (q59, .inl (c59, 4, .inr (.inr (.inr (.inr (fun _ => none))))))] := hD
  have hP9 := hP.sub (ws' := [(h0, .inr (3, [.long sd0, .ref q6, .int 0, .ref q17, .ref q30, .ref q38, .ref q46, .int 0, .ref q59, .int 0, .int 0])), (q6, .inl (c6, 4, .inr (.inl (fun _ => 0)))), (q17, .inr (1, [.ref p1, .ref p2, .ref p3, .ref p4, .int 0])), (q30, .inl (c30, 10, .inr (.inl (fun _ => 0)))), (q38, .inl (c38, 40, .inl (fun _ => 0))), (q46, .inl (c46, 8, .inr (.inr (.inr (.inr (fun _ => none)))))), (q59, .inl (c59, 4, .inr (.inr (.inr (.inr (fun _ => none)))))), (p1, .inl (d1, 96, .inr (.inl (fun _ => 0)))), (p2, .inl (d2, 24, .inl (fun _ => 0))), (p3, .inl (d3, 24, .inr (.inl (fun _ => 0)))), (p4, .inl (d4, 4, .inr (.inl (fun _ => 0))))]) [0, 1, 2, 7, 8, 9, 10, 3, 4, 5, 6] rfl
  have hD9 := hD.sub (ws' := [(h0, .inr (3, [.long sd0, .ref q6, .int 0, .ref q17, .ref q30, .ref q38, .ref q46, .int 0, .ref q59, .int 0, .int 0])), (q6, .inl (c6, 4, .inr (.inl (fun _ => 0)))), (q17, .inr (1, [.ref p1, .ref p2, .ref p3, .ref p4, .int 0])), (q30, .inl (c30, 10, .inr (.inl (fun _ => 0)))), (q38, .inl (c38, 40, .inl (fun _ => 0))), (q46, .inl (c46, 8, .inr (.inr (.inr (.inr (fun _ => none)))))), (q59, .inl (c59, 4, .inr (.inr (.inr (.inr (fun _ => none)))))), (p1, .inl (d1, 96, .inr (.inl (fun _ => 0)))), (p2, .inl (d2, 24, .inl (fun _ => 0))), (p3, .inl (d3, 24, .inr (.inl (fun _ => 0)))), (p4, .inl (d4, 4, .inr (.inl (fun _ => 0))))]) [0, 1, 2, 7, 8, 9, 10, 3, 4, 5, 6] (by decide) rfl
  have hK9 := hKv.sub (tys' := [(c6, .long), (c30, .long), (c38, .int), (c46, .object "NamedStreams$Stream"), (c59, .object "NamedStreams$Kept"), (d1, .long), (d2, .int), (d3, .long), (d4, .long)]) [0, 5, 6, 7, 8, 1, 2, 3, 4] rfl
  exact W.vret hx hb hr (fun t ht hW => ⟨⟨(fun k => [h0, q6, q17, q30, q38, q46, q59, p1, p2, p3, p4].getD k h0, fun k => [c6, c6, c6, c30, c38, c46, c59, d1, d2, d3, d4].getD k c6), rfl, rfl, by rw [ht]; exact hP9, hD9, va_K.moved hW.alike hK9⟩, hS.F ht⟩) hS.2.2 dX3_init_80 hlocks

set_option maxHeartbeats 400000 in
set_option maxRecDepth 100000 in
theorem mX4_init (l : Launch) (D : va_G) (h0 : Nat) (sd0 : Int64) : ∀ sz : Nat, Met l yX4_init wsX4_init ({ frames := 1, cells := 14, slots := 226, locals := 12 }) (va_Pc [.ref h0, .long sd0] (nkC D [] [(h0, .inr (4, [.long 0, .int 0, .null, .null, .null, .int 0, .int 0, .int 0, .null, .int 0, .null, .null, .null, .null, .null, .null, .null, .null, .int 0, .null, .null]))] sz)) ((fun A => va_Qv (S := (Nat → Nat) × (Nat → ClassId)) (fun u => u.1 0 = h0) (fun u t => va_P D vwCl (wM u.1 u.2 sd0 0 0 0 0 0 0 (fun _ => 0) (fun _ => 0) (fun _ => 0) (fun _ => 0) (fun _ => 0) (fun _ => 0) (fun _ => 0) (fun _ => 0) (fun _ => 0) (fun _ => 0) (fun _ => 0) (fun _ => 0) (fun _ => 0) (fun _ => 0) []) t.heap ∧ va_D A (wM u.1 u.2 sd0 0 0 0 0 0 0 (fun _ => 0) (fun _ => 0) (fun _ => 0) (fun _ => 0) (fun _ => 0) (fun _ => 0) (fun _ => 0) (fun _ => 0) (fun _ => 0) (fun _ => 0) (fun _ => 0) (fun _ => 0) (fun _ => 0) (fun _ => 0) []) ∧ va_K D vwCl (tM u.2) t) A) (va_A [(h0, .inr (4, [.long 0, .int 0, .null, .null, .null, .int 0, .int 0, .int 0, .null, .int 0, .null, .null, .null, .null, .null, .null, .null, .null, .int 0, .null, .null]))] sz)) 14 226 (va_A [(h0, .inr (4, [.long 0, .int 0, .null, .null, .null, .int 0, .int 0, .int 0, .null, .int 0, .null, .null, .null, .null, .null, .null, .null, .null, .int 0, .null, .null]))] sz) := by
  refine nk_ofM (Qf := fun A => va_Qv (S := (Nat → Nat) × (Nat → ClassId)) (fun u => u.1 0 = h0) (fun u t => va_P D vwCl (wM u.1 u.2 sd0 0 0 0 0 0 0 (fun _ => 0) (fun _ => 0) (fun _ => 0) (fun _ => 0) (fun _ => 0) (fun _ => 0) (fun _ => 0) (fun _ => 0) (fun _ => 0) (fun _ => 0) (fun _ => 0) (fun _ => 0) (fun _ => 0) (fun _ => 0) []) t.heap ∧ va_D A (wM u.1 u.2 sd0 0 0 0 0 0 0 (fun _ => 0) (fun _ => 0) (fun _ => 0) (fun _ => 0) (fun _ => 0) (fun _ => 0) (fun _ => 0) (fun _ => 0) (fun _ => 0) (fun _ => 0) (fun _ => 0) (fun _ => 0) (fun _ => 0) (fun _ => 0) []) ∧ va_K D vwCl (tM u.2) t) A) (cc := cX4_init) (maxL := 3) (ret := none) (by decide) rfl (Nat.le_of_ble_eq_true rfl) ?_
  intro p e s m below meth c A hx hb hr hml hts hown hlocks hin hK hP hD hA hS ls hl
  replace hown : s.vm.findClass RX4 = some m.cls := hown
  replace hin : meth.name = "<init>" := hin
  replace hl : lv_has ls 3 [(0, .ref h0), (1, .long sd0)] := hl
  have hKv : va_K D vwCl [] s := hK.1
  have iX4 : ∀ w ∈ u_ws RX4 TX4 21, w ∈ wsX4_init := by decide +kernel
  refine lv_aload_n hx hb dX4_init_0 rfl (lv_at hl 0 rfl) ?_
  refine W.objInit hx hb hown (hts (.methodLink RX4 1 objectInit) (by decide +kernel)) (hts (.instanceMethod objectInit) (by decide +kernel)) (hts (.code objectInit ⟨#[0xb1]⟩ 1 none) (by decide +kernel)) rfl (by rw [hml]; exact hl.1) rfl dX4_init_1 (Nat.le_of_ble_eq_true rfl) (Nat.le_of_ble_eq_true rfl) ?_
  refine W.eq (g2 := F0 m 4 ls []) rfl ?_
  refine lv_aload_n hx hb dX4_init_4 rfl (lv_at hl 0 rfl) ?_
  refine lv_bipush (v := 96) hx hb dX4_init_5 (by decide) ?_
  refine va_newa (atype := .long) (ty := .long) (N' := 96) (a0 := (96, .inr (.inl (fun _ => 0)))) hx hb (hts (.arrayClass .long) (by decide +kernel)) rfl hKv hP hD hS hA (fun _ => rfl) (by decide +kernel) (by decide +kernel) (by decide +kernel) (Nat.le_of_ble_eq_true rfl) (Nat.le_of_ble_eq_true rfl) dX4_init_7 (fun q7 c7 H hKv hP hD hS => ?_)
  have hP : va_P D vwCl [(h0, .inr (4, [.long 0, .int 0, .null, .null, .null, .int 0, .int 0, .int 0, .null, .int 0, .null, .null, .null, .null, .null, .null, .null, .null, .int 0, .null, .null])), (q7, .inl (c7, 96, .inr (.inl (fun _ => 0))))] H := hP
  have hD : va_D A [(h0, .inr (4, [.long 0, .int 0, .null, .null, .null, .int 0, .int 0, .int 0, .null, .int 0, .null, .null, .null, .null, .null, .null, .null, .null, .int 0, .null, .null])), (q7, .inl (c7, 96, .inr (.inl (fun _ => 0))))] := hD
  have hKv : va_K D vwCl [(c7, .long)] s := hKv
  refine va_putF (D := D) (ci := 4) (v := .ref q7) (ty := .array .long) (C := RX4) (T := TX4) (N := 21) hx hb hts iX4 tyX4 tyX4_ok nmX4 hown hKv hP hD hS 0 rfl rfl 2 (by decide) (hts (.fieldLink RX4 7 "NamedStreamsModel" "part" "[J") (by decide +kernel)) (fun _ h9 => h9) rfl hin rfl (by decide +kernel) rfl rfl (Nat.le_of_ble_eq_true rfl) dX4_init_9 (fun H locs hP hD hS => ?_)
  have hP : va_P D vwCl [(h0, .inr (4, [.long 0, .int 0, .ref q7, .null, .null, .int 0, .int 0, .int 0, .null, .int 0, .null, .null, .null, .null, .null, .null, .null, .null, .int 0, .null, .null])), (q7, .inl (c7, 96, .inr (.inl (fun _ => 0))))] H := hP
  have hD : va_D A [(h0, .inr (4, [.long 0, .int 0, .ref q7, .null, .null, .int 0, .int 0, .int 0, .null, .int 0, .null, .null, .null, .null, .null, .null, .null, .null, .int 0, .null, .null])), (q7, .inl (c7, 96, .inr (.inl (fun _ => 0))))] := hD
  refine lv_aload_n hx hb dX4_init_12 rfl (lv_at hl 0 rfl) ?_
  refine lv_bipush (v := 24) hx hb dX4_init_13 (by decide) ?_
  refine va_newa (atype := .int) (ty := .int) (N' := 24) (a0 := (24, .inl (fun _ => 0))) hx hb (hts (.arrayClass .int) (by decide +kernel)) rfl hKv hP hD hS hA (fun _ => rfl) (by decide +kernel) (by decide +kernel) (by decide +kernel) (Nat.le_of_ble_eq_true rfl) (Nat.le_of_ble_eq_true rfl) dX4_init_15 (fun q15 c15 H hKv hP hD hS => ?_)
  have hP : va_P D vwCl [(h0, .inr (4, [.long 0, .int 0, .ref q7, .null, .null, .int 0, .int 0, .int 0, .null, .int 0, .null, .null, .null, .null, .null, .null, .null, .null, .int 0, .null, .null])), (q7, .inl (c7, 96, .inr (.inl (fun _ => 0)))), (q15, .inl (c15, 24, .inl (fun _ => 0)))] H := hP
  have hD : va_D A [(h0, .inr (4, [.long 0, .int 0, .ref q7, .null, .null, .int 0, .int 0, .int 0, .null, .int 0, .null, .null, .null, .null, .null, .null, .null, .null, .int 0, .null, .null])), (q7, .inl (c7, 96, .inr (.inl (fun _ => 0)))), (q15, .inl (c15, 24, .inl (fun _ => 0)))] := hD
  have hKv : va_K D vwCl [(c7, .long), (c15, .int)] s := hKv
  refine va_putF (D := D) (ci := 4) (v := .ref q15) (ty := .array .int) (C := RX4) (T := TX4) (N := 21) hx hb hts iX4 tyX4 tyX4_ok nmX4 hown hKv hP hD hS 0 rfl rfl 3 (by decide) (hts (.fieldLink RX4 13 "NamedStreamsModel" "many" "[I") (by decide +kernel)) (fun _ h9 => h9) rfl hin rfl (by decide +kernel) rfl rfl (Nat.le_of_ble_eq_true rfl) dX4_init_17 (fun H locs hP hD hS => ?_)
  have hP : va_P D vwCl [(h0, .inr (4, [.long 0, .int 0, .ref q7, .ref q15, .null, .int 0, .int 0, .int 0, .null, .int 0, .null, .null, .null, .null, .null, .null, .null, .null, .int 0, .null, .null])), (q7, .inl (c7, 96, .inr (.inl (fun _ => 0)))), (q15, .inl (c15, 24, .inl (fun _ => 0)))] H := hP
  have hD : va_D A [(h0, .inr (4, [.long 0, .int 0, .ref q7, .ref q15, .null, .int 0, .int 0, .int 0, .null, .int 0, .null, .null, .null, .null, .null, .null, .null, .null, .int 0, .null, .null])), (q7, .inl (c7, 96, .inr (.inl (fun _ => 0)))), (q15, .inl (c15, 24, .inl (fun _ => 0)))] := hD
  refine lv_aload_n hx hb dX4_init_20 rfl (lv_at hl 0 rfl) ?_
  refine lv_iconst (v := 4) hx hb dX4_init_21 (by decide) ?_
  refine va_newa (atype := .long) (ty := .long) (N' := 4) (a0 := (4, .inr (.inl (fun _ => 0)))) hx hb (hts (.arrayClass .long) (by decide +kernel)) rfl hKv hP hD hS hA (fun _ => rfl) (by decide +kernel) (by decide +kernel) (by decide +kernel) (Nat.le_of_ble_eq_true rfl) (Nat.le_of_ble_eq_true rfl) dX4_init_22 (fun q22 c22 H hKv hP hD hS => ?_)
  have hP : va_P D vwCl [(h0, .inr (4, [.long 0, .int 0, .ref q7, .ref q15, .null, .int 0, .int 0, .int 0, .null, .int 0, .null, .null, .null, .null, .null, .null, .null, .null, .int 0, .null, .null])), (q7, .inl (c7, 96, .inr (.inl (fun _ => 0)))), (q15, .inl (c15, 24, .inl (fun _ => 0))), (q22, .inl (c22, 4, .inr (.inl (fun _ => 0))))] H := hP
  have hD : va_D A [(h0, .inr (4, [.long 0, .int 0, .ref q7, .ref q15, .null, .int 0, .int 0, .int 0, .null, .int 0, .null, .null, .null, .null, .null, .null, .null, .null, .int 0, .null, .null])), (q7, .inl (c7, 96, .inr (.inl (fun _ => 0)))), (q15, .inl (c15, 24, .inl (fun _ => 0))), (q22, .inl (c22, 4, .inr (.inl (fun _ => 0))))] := hD
  have hKv : va_K D vwCl [(c7, .long), (c15, .int), (c22, .long)] s := hKv
  refine va_putF (D := D) (ci := 4) (v := .ref q22) (ty := .array .long) (C := RX4) (T := TX4) (N := 21) hx hb hts iX4 tyX4 tyX4_ok nmX4 hown hKv hP hD hS 0 rfl rfl 4 (by decide) (hts (.fieldLink RX4 17 "NamedStreamsModel" "told" "[J") (by decide +kernel)) (fun _ h9 => h9) rfl hin rfl (by decide +kernel) rfl rfl (Nat.le_of_ble_eq_true rfl) dX4_init_24 (fun H locs hP hD hS => ?_)
  have hP : va_P D vwCl [(h0, .inr (4, [.long 0, .int 0, .ref q7, .ref q15, .ref q22, .int 0, .int 0, .int 0, .null, .int 0, .null, .null, .null, .null, .null, .null, .null, .null, .int 0, .null, .null])), (q7, .inl (c7, 96, .inr (.inl (fun _ => 0)))), (q15, .inl (c15, 24, .inl (fun _ => 0))), (q22, .inl (c22, 4, .inr (.inl (fun _ => 0))))] H := hP
  have hD : va_D A [(h0, .inr (4, [.long 0, .int 0, .ref q7, .ref q15, .ref q22, .int 0, .int 0, .int 0, .null, .int 0, .null, .null, .null, .null, .null, .null, .null, .null, .int 0, .null, .null])), (q7, .inl (c7, 96, .inr (.inl (fun _ => 0)))), (q15, .inl (c15, 24, .inl (fun _ => 0))), (q22, .inl (c22, 4, .inr (.inl (fun _ => 0))))] := hD
  refine lv_aload_n hx hb dX4_init_27 rfl (lv_at hl 0 rfl) ?_
  refine lv_bipush (v := 10) hx hb dX4_init_28 (by decide) ?_
  refine va_newa (atype := .long) (ty := .long) (N' := 10) (a0 := (10, .inr (.inl (fun _ => 0)))) hx hb (hts (.arrayClass .long) (by decide +kernel)) rfl hKv hP hD hS hA (fun _ => rfl) (by decide +kernel) (by decide +kernel) (by decide +kernel) (Nat.le_of_ble_eq_true rfl) (Nat.le_of_ble_eq_true rfl) dX4_init_30 (fun q30 c30 H hKv hP hD hS => ?_)
  have hP : va_P D vwCl [(h0, .inr (4, [.long 0, .int 0, .ref q7, .ref q15, .ref q22, .int 0, .int 0, .int 0, .null, .int 0, .null, .null, .null, .null, .null, .null, .null, .null, .int 0, .null, .null])), (q7, .inl (c7, 96, .inr (.inl (fun _ => 0)))), (q15, .inl (c15, 24, .inl (fun _ => 0))), (q22, .inl (c22, 4, .inr (.inl (fun _ => 0)))), (q30, .inl (c30, 10, .inr (.inl (fun _ => 0))))] H := hP
  have hD : va_D A [(h0, .inr (4, [.long 0, .int 0, .ref q7, .ref q15, .ref q22, .int 0, .int 0, .int 0, .null, .int 0, .null, .null, .null, .null, .null, .null, .null, .null, .int 0, .null, .null])), (q7, .inl (c7, 96, .inr (.inl (fun _ => 0)))), (q15, .inl (c15, 24, .inl (fun _ => 0))), (q22, .inl (c22, 4, .inr (.inl (fun _ => 0)))), (q30, .inl (c30, 10, .inr (.inl (fun _ => 0))))] := hD
  have hKv : va_K D vwCl [(c7, .long), (c15, .int), (c22, .long), (c30, .long)] s := hKv
  refine va_putF (D := D) (ci := 4) (v := .ref q30) (ty := .array .long) (C := RX4) (T := TX4) (N := 21) hx hb hts iX4 tyX4 tyX4_ok nmX4 hown hKv hP hD hS 0 rfl rfl 8 (by decide) (hts (.fieldLink RX4 20 "NamedStreamsModel" "weights" "[J") (by decide +kernel)) (fun _ h9 => h9) rfl hin rfl (by decide +kernel) rfl rfl (Nat.le_of_ble_eq_true rfl) dX4_init_32 (fun H locs hP hD hS => ?_)
  have hP : va_P D vwCl [(h0, .inr (4, [.long 0, .int 0, .ref q7, .ref q15, .ref q22, .int 0, .int 0, .int 0, .ref q30, .int 0, .null, .null, .null, .null, .null, .null, .null, .null, .int 0, .null, .null])), (q7, .inl (c7, 96, .inr (.inl (fun _ => 0)))), (q15, .inl (c15, 24, .inl (fun _ => 0))), (q22, .inl (c22, 4, .inr (.inl (fun _ => 0)))), (q30, .inl (c30, 10, .inr (.inl (fun _ => 0))))] H := hP
  have hD : va_D A [(h0, .inr (4, [.long 0, .int 0, .ref q7, .ref q15, .ref q22, .int 0, .int 0, .int 0, .ref q30, .int 0, .null, .null, .null, .null, .null, .null, .null, .null, .int 0, .null, .null])), (q7, .inl (c7, 96, .inr (.inl (fun _ => 0)))), (q15, .inl (c15, 24, .inl (fun _ => 0))), (q22, .inl (c22, 4, .inr (.inl (fun _ => 0)))), (q30, .inl (c30, 10, .inr (.inl (fun _ => 0))))] := hD
  refine lv_aload_n hx hb dX4_init_35 rfl (lv_at hl 0 rfl) ?_
  refine lv_bipush (v := 8) hx hb dX4_init_36 (by decide) ?_
  refine va_newa (atype := .long) (ty := .long) (N' := 8) (a0 := (8, .inr (.inl (fun _ => 0)))) hx hb (hts (.arrayClass .long) (by decide +kernel)) rfl hKv hP hD hS hA (fun _ => rfl) (by decide +kernel) (by decide +kernel) (by decide +kernel) (Nat.le_of_ble_eq_true rfl) (Nat.le_of_ble_eq_true rfl) dX4_init_38 (fun q38 c38 H hKv hP hD hS => ?_)
  have hP : va_P D vwCl [(h0, .inr (4, [.long 0, .int 0, .ref q7, .ref q15, .ref q22, .int 0, .int 0, .int 0, .ref q30, .int 0, .null, .null, .null, .null, .null, .null, .null, .null, .int 0, .null, .null])), (q7, .inl (c7, 96, .inr (.inl (fun _ => 0)))), (q15, .inl (c15, 24, .inl (fun _ => 0))), (q22, .inl (c22, 4, .inr (.inl (fun _ => 0)))), (q30, .inl (c30, 10, .inr (.inl (fun _ => 0)))), (q38, .inl (c38, 8, .inr (.inl (fun _ => 0))))] H := hP
  have hD : va_D A [(h0, .inr (4, [.long 0, .int 0, .ref q7, .ref q15, .ref q22, .int 0, .int 0, .int 0, .ref q30, .int 0, .null, .null, .null, .null, .null, .null, .null, .null, .int 0, .null, .null])), (q7, .inl (c7, 96, .inr (.inl (fun _ => 0)))), (q15, .inl (c15, 24, .inl (fun _ => 0))), (q22, .inl (c22, 4, .inr (.inl (fun _ => 0)))), (q30, .inl (c30, 10, .inr (.inl (fun _ => 0)))), (q38, .inl (c38, 8, .inr (.inl (fun _ => 0))))] := hD
  have hKv : va_K D vwCl [(c7, .long), (c15, .int), (c22, .long), (c30, .long), (c38, .long)] s := hKv
  refine va_putF (D := D) (ci := 4) (v := .ref q38) (ty := .array .long) (C := RX4) (T := TX4) (N := 21) hx hb hts iX4 tyX4 tyX4_ok nmX4 hown hKv hP hD hS 0 rfl rfl 10 (by decide) (hts (.fieldLink RX4 23 "NamedStreamsModel" "run" "[J") (by decide +kernel)) (fun _ h9 => h9) rfl hin rfl (by decide +kernel) rfl rfl (Nat.le_of_ble_eq_true rfl) dX4_init_40 (fun H locs hP hD hS => ?_)
  have hP : va_P D vwCl [(h0, .inr (4, [.long 0, .int 0, .ref q7, .ref q15, .ref q22, .int 0, .int 0, .int 0, .ref q30, .int 0, .ref q38, .null, .null, .null, .null, .null, .null, .null, .int 0, .null, .null])), (q7, .inl (c7, 96, .inr (.inl (fun _ => 0)))), (q15, .inl (c15, 24, .inl (fun _ => 0))), (q22, .inl (c22, 4, .inr (.inl (fun _ => 0)))), (q30, .inl (c30, 10, .inr (.inl (fun _ => 0)))), (q38, .inl (c38, 8, .inr (.inl (fun _ => 0))))] H := hP
  have hD : va_D A [(h0, .inr (4, [.long 0, .int 0, .ref q7, .ref q15, .ref q22, .int 0, .int 0, .int 0, .ref q30, .int 0, .ref q38, .null, .null, .null, .null, .null, .null, .null, .int 0, .null, .null])), (q7, .inl (c7, 96, .inr (.inl (fun _ => 0)))), (q15, .inl (c15, 24, .inl (fun _ => 0))), (q22, .inl (c22, 4, .inr (.inl (fun _ => 0)))), (q30, .inl (c30, 10, .inr (.inl (fun _ => 0)))), (q38, .inl (c38, 8, .inr (.inl (fun _ => 0))))] := hD
  refine lv_aload_n hx hb dX4_init_43 rfl (lv_at hl 0 rfl) ?_
  refine lv_bipush (v := 8) hx hb dX4_init_44 (by decide) ?_
  refine va_newa (atype := .int) (ty := .int) (N' := 8) (a0 := (8, .inl (fun _ => 0))) hx hb (hts (.arrayClass .int) (by decide +kernel)) rfl hKv hP hD hS hA (fun _ => rfl) (by decide +kernel) (by decide +kernel) (by decide +kernel) (Nat.le_of_ble_eq_true rfl) (Nat.le_of_ble_eq_true rfl) dX4_init_46 (fun q46 c46 H hKv hP hD hS => ?_)
  have hP : va_P D vwCl [(h0, .inr (4, [.long 0, .int 0, .ref q7, .ref q15, .ref q22, .int 0, .int 0, .int 0, .ref q30, .int 0, .ref q38, .null, .null, .null, .null, .null, .null, .null, .int 0, .null, .null])), (q7, .inl (c7, 96, .inr (.inl (fun _ => 0)))), (q15, .inl (c15, 24, .inl (fun _ => 0))), (q22, .inl (c22, 4, .inr (.inl (fun _ => 0)))), (q30, .inl (c30, 10, .inr (.inl (fun _ => 0)))), (q38, .inl (c38, 8, .inr (.inl (fun _ => 0)))), (q46, .inl (c46, 8, .inl (fun _ => 0)))] H := hP
  have hD : va_D A [(h0, .inr (4, [.long 0, .int 0, .ref q7, .ref q15, .ref q22, .int 0, .int 0, .int 0, .ref q30, .int 0, .ref q38, .null, .null, .null, .null, .null, .null, .null, .int 0, .null, .null])), (q7, .inl (c7, 96, .inr (.inl (fun _ => 0)))), (q15, .inl (c15, 24, .inl (fun _ => 0))), (q22, .inl (c22, 4, .inr (.inl (fun _ => 0)))), (q30, .inl (c30, 10, .inr (.inl (fun _ => 0)))), (q38, .inl (c38, 8, .inr (.inl (fun _ => 0)))), (q46, .inl (c46, 8, .inl (fun _ => 0)))] := hD
  have hKv : va_K D vwCl [(c7, .long), (c15, .int), (c22, .long), (c30, .long), (c38, .long), (c46, .int)] s := hKv
  refine va_putF (D := D) (ci := 4) (v := .ref q46) (ty := .array .int) (C := RX4) (T := TX4) (N := 21) hx hb hts iX4 tyX4 tyX4_ok nmX4 hown hKv hP hD hS 0 rfl rfl 11 (by decide) (hts (.fieldLink RX4 26 "NamedStreamsModel" "pathOf" "[I") (by decide +kernel)) (fun _ h9 => h9) rfl hin rfl (by decide +kernel) rfl rfl (Nat.le_of_ble_eq_true rfl) dX4_init_48 (fun H locs hP hD hS => ?_)
  have hP : va_P D vwCl [(h0, .inr (4, [.long 0, .int 0, .ref q7, .ref q15, .ref q22, .int 0, .int 0, .int 0, .ref q30, .int 0, .ref q38, .ref q46, .null, .null, .null, .null, .null, .null, .int 0, .null, .null])), (q7, .inl (c7, 96, .inr (.inl (fun _ => 0)))), (q15, .inl (c15, 24, .inl (fun _ => 0))), (q22, .inl (c22, 4, .inr (.inl (fun _ => 0)))), (q30, .inl (c30, 10, .inr (.inl (fun _ => 0)))), (q38, .inl (c38, 8, .inr (.inl (fun _ => 0)))), (q46, .inl (c46, 8, .inl (fun _ => 0)))] H := hP
  have hD : va_D A [(h0, .inr (4, [.long 0, .int 0, .ref q7, .ref q15, .ref q22, .int 0, .int 0, .int 0, .ref q30, .int 0, .ref q38, .ref q46, .null, .null, .null, .null, .null, .null, .int 0, .null, .null])), (q7, .inl (c7, 96, .inr (.inl (fun _ => 0)))), (q15, .inl (c15, 24, .inl (fun _ => 0))), (q22, .inl (c22, 4, .inr (.inl (fun _ => 0)))), (q30, .inl (c30, 10, .inr (.inl (fun _ => 0)))), (q38, .inl (c38, 8, .inr (.inl (fun _ => 0)))), (q46, .inl (c46, 8, .inl (fun _ => 0)))] := hD
  refine lv_aload_n hx hb dX4_init_51 rfl (lv_at hl 0 rfl) ?_
  refine lv_bipush (v := 8) hx hb dX4_init_52 (by decide) ?_
  refine va_newa (atype := .int) (ty := .int) (N' := 8) (a0 := (8, .inl (fun _ => 0))) hx hb (hts (.arrayClass .int) (by decide +kernel)) rfl hKv hP hD hS hA (fun _ => rfl) (by decide +kernel) (by decide +kernel) (by decide +kernel) (Nat.le_of_ble_eq_true rfl) (Nat.le_of_ble_eq_true rfl) dX4_init_54 (fun q54 c54 H hKv hP hD hS => ?_)
  have hP : va_P D vwCl [(h0, .inr (4, [.long 0, .int 0, .ref q7, .ref q15, .ref q22, .int 0, .int 0, .int 0, .ref q30, .int 0, .ref q38, .ref q46, .null, .null, .null, .null, .null, .null, .int 0, .null, .null])), (q7, .inl (c7, 96, .inr (.inl (fun _ => 0)))), (q15, .inl (c15, 24, .inl (fun _ => 0))), (q22, .inl (c22, 4, .inr (.inl (fun _ => 0)))), (q30, .inl (c30, 10, .inr (.inl (fun _ => 0)))), (q38, .inl (c38, 8, .inr (.inl (fun _ => 0)))), (q46, .inl (c46, 8, .inl (fun _ => 0))), (q54, .inl (c54, 8, .inl (fun _ => 0)))] H := hP
  have hD : va_D A [(h0, .inr (4, [.long 0, .int 0, .ref q7, .ref q15, .ref q22, .int 0, .int 0, .int 0, .ref q30, .int 0, .ref q38, .ref q46, .null, .null, .null, .null, .null, .null, .int 0, .null, .null])), (q7, .inl (c7, 96, .inr (.inl (fun _ => 0)))), (q15, .inl (c15, 24, .inl (fun _ => 0))), (q22, .inl (c22, 4, .inr (.inl (fun _ => 0)))), (q30, .inl (c30, 10, .inr (.inl (fun _ => 0)))), (q38, .inl (c38, 8, .inr (.inl (fun _ => 0)))), (q46, .inl (c46, 8, .inl (fun _ => 0))), (q54, .inl (c54, 8, .inl (fun _ => 0)))] := hD
  have hKv : va_K D vwCl [(c7, .long), (c15, .int), (c22, .long), (c30, .long), (c38, .long), (c46, .int), (c54, .int)] s := hKv
  refine va_putF (D := D) (ci := 4) (v := .ref q54) (ty := .array .int) (C := RX4) (T := TX4) (N := 21) hx hb hts iX4 tyX4 tyX4_ok nmX4 hown hKv hP hD hS 0 rfl rfl 12 (by decide) (hts (.fieldLink RX4 29 "NamedStreamsModel" "place" "[I") (by decide +kernel)) (fun _ h9 => h9) rfl hin rfl (by decide +kernel) rfl rfl (Nat.le_of_ble_eq_true rfl) dX4_init_56 (fun H locs hP hD hS => ?_)
  have hP : va_P D vwCl [(h0, .inr (4, [.long 0, .int 0, .ref q7, .ref q15, .ref q22, .int 0, .int 0, .int 0, .ref q30, .int 0, .ref q38, .ref q46, .ref q54, .null, .null, .null, .null, .null, .int 0, .null, .null])), (q7, .inl (c7, 96, .inr (.inl (fun _ => 0)))), (q15, .inl (c15, 24, .inl (fun _ => 0))), (q22, .inl (c22, 4, .inr (.inl (fun _ => 0)))), (q30, .inl (c30, 10, .inr (.inl (fun _ => 0)))), (q38, .inl (c38, 8, .inr (.inl (fun _ => 0)))), (q46, .inl (c46, 8, .inl (fun _ => 0))), (q54, .inl (c54, 8, .inl (fun _ => 0)))] H := hP
  have hD : va_D A [(h0, .inr (4, [.long 0, .int 0, .ref q7, .ref q15, .ref q22, .int 0, .int 0, .int 0, .ref q30, .int 0, .ref q38, .ref q46, .ref q54, .null, .null, .null, .null, .null, .int 0, .null, .null])), (q7, .inl (c7, 96, .inr (.inl (fun _ => 0)))), (q15, .inl (c15, 24, .inl (fun _ => 0))), (q22, .inl (c22, 4, .inr (.inl (fun _ => 0)))), (q30, .inl (c30, 10, .inr (.inl (fun _ => 0)))), (q38, .inl (c38, 8, .inr (.inl (fun _ => 0)))), (q46, .inl (c46, 8, .inl (fun _ => 0))), (q54, .inl (c54, 8, .inl (fun _ => 0)))] := hD
  refine lv_aload_n hx hb dX4_init_59 rfl (lv_at hl 0 rfl) ?_
  refine lv_bipush (v := 8) hx hb dX4_init_60 (by decide) ?_
  refine va_newa (atype := .int) (ty := .int) (N' := 8) (a0 := (8, .inl (fun _ => 0))) hx hb (hts (.arrayClass .int) (by decide +kernel)) rfl hKv hP hD hS hA (fun _ => rfl) (by decide +kernel) (by decide +kernel) (by decide +kernel) (Nat.le_of_ble_eq_true rfl) (Nat.le_of_ble_eq_true rfl) dX4_init_62 (fun q62 c62 H hKv hP hD hS => ?_)
  have hP : va_P D vwCl [(h0, .inr (4, [.long 0, .int 0, .ref q7, .ref q15, .ref q22, .int 0, .int 0, .int 0, .ref q30, .int 0, .ref q38, .ref q46, .ref q54, .null, .null, .null, .null, .null, .int 0, .null, .null])), (q7, .inl (c7, 96, .inr (.inl (fun _ => 0)))), (q15, .inl (c15, 24, .inl (fun _ => 0))), (q22, .inl (c22, 4, .inr (.inl (fun _ => 0)))), (q30, .inl (c30, 10, .inr (.inl (fun _ => 0)))), (q38, .inl (c38, 8, .inr (.inl (fun _ => 0)))), (q46, .inl (c46, 8, .inl (fun _ => 0))), (q54, .inl (c54, 8, .inl (fun _ => 0))), (q62, .inl (c62, 8, .inl (fun _ => 0)))] H := hP
  have hD : va_D A [(h0, .inr (4, [.long 0, .int 0, .ref q7, .ref q15, .ref q22, .int 0, .int 0, .int 0, .ref q30, .int 0, .ref q38, .ref q46, .ref q54, .null, .null, .null, .null, .null, .int 0, .null, .null])), (q7, .inl (c7, 96, .inr (.inl (fun _ => 0)))), (q15, .inl (c15, 24, .inl (fun _ => 0))), (q22, .inl (c22, 4, .inr (.inl (fun _ => 0)))), (q30, .inl (c30, 10, .inr (.inl (fun _ => 0)))), (q38, .inl (c38, 8, .inr (.inl (fun _ => 0)))), (q46, .inl (c46, 8, .inl (fun _ => 0))), (q54, .inl (c54, 8, .inl (fun _ => 0))), (q62, .inl (c62, 8, .inl (fun _ => 0)))] := hD
  have hKv : va_K D vwCl [(c7, .long), (c15, .int), (c22, .long), (c30, .long), (c38, .long), (c46, .int), (c54, .int), (c62, .int)] s := hKv
  refine va_putF (D := D) (ci := 4) (v := .ref q62) (ty := .array .int) (C := RX4) (T := TX4) (N := 21) hx hb hts iX4 tyX4 tyX4_ok nmX4 hown hKv hP hD hS 0 rfl rfl 13 (by decide) (hts (.fieldLink RX4 32 "NamedStreamsModel" "splits" "[I") (by decide +kernel)) (fun _ h9 => h9) rfl hin rfl (by decide +kernel) rfl rfl (Nat.le_of_ble_eq_true rfl) dX4_init_64 (fun H locs hP hD hS => ?_)
  have hP : va_P D vwCl [(h0, .inr (4, [.long 0, .int 0, .ref q7, .ref q15, .ref q22, .int 0, .int 0, .int 0, .ref q30, .int 0, .ref q38, .ref q46, .ref q54, .ref q62, .null, .null, .null, .null, .int 0, .null, .null])), (q7, .inl (c7, 96, .inr (.inl (fun _ => 0)))), (q15, .inl (c15, 24, .inl (fun _ => 0))), (q22, .inl (c22, 4, .inr (.inl (fun _ => 0)))), (q30, .inl (c30, 10, .inr (.inl (fun _ => 0)))), (q38, .inl (c38, 8, .inr (.inl (fun _ => 0)))), (q46, .inl (c46, 8, .inl (fun _ => 0))), (q54, .inl (c54, 8, .inl (fun _ => 0))), (q62, .inl (c62, 8, .inl (fun _ => 0)))] H := hP
  have hD : va_D A [(h0, .inr (4, [.long 0, .int 0, .ref q7, .ref q15, .ref q22, .int 0, .int 0, .int 0, .ref q30, .int 0, .ref q38, .ref q46, .ref q54, .ref q62, .null, .null, .null, .null, .int 0, .null, .null])), (q7, .inl (c7, 96, .inr (.inl (fun _ => 0)))), (q15, .inl (c15, 24, .inl (fun _ => 0))), (q22, .inl (c22, 4, .inr (.inl (fun _ => 0)))), (q30, .inl (c30, 10, .inr (.inl (fun _ => 0)))), (q38, .inl (c38, 8, .inr (.inl (fun _ => 0)))), (q46, .inl (c46, 8, .inl (fun _ => 0))), (q54, .inl (c54, 8, .inl (fun _ => 0))), (q62, .inl (c62, 8, .inl (fun _ => 0)))] := hD
  refine lv_aload_n hx hb dX4_init_67 rfl (lv_at hl 0 rfl) ?_
  refine lv_iconst (v := 4) hx hb dX4_init_68 (by decide) ?_
  refine va_newa (atype := .int) (ty := .int) (N' := 4) (a0 := (4, .inl (fun _ => 0))) hx hb (hts (.arrayClass .int) (by decide +kernel)) rfl hKv hP hD hS hA (fun _ => rfl) (by decide +kernel) (by decide +kernel) (by decide +kernel) (Nat.le_of_ble_eq_true rfl) (Nat.le_of_ble_eq_true rfl) dX4_init_69 (fun q69 c69 H hKv hP hD hS => ?_)
  have hP : va_P D vwCl [(h0, .inr (4, [.long 0, .int 0, .ref q7, .ref q15, .ref q22, .int 0, .int 0, .int 0, .ref q30, .int 0, .ref q38, .ref q46, .ref q54, .ref q62, .null, .null, .null, .null, .int 0, .null, .null])), (q7, .inl (c7, 96, .inr (.inl (fun _ => 0)))), (q15, .inl (c15, 24, .inl (fun _ => 0))), (q22, .inl (c22, 4, .inr (.inl (fun _ => 0)))), (q30, .inl (c30, 10, .inr (.inl (fun _ => 0)))), (q38, .inl (c38, 8, .inr (.inl (fun _ => 0)))), (q46, .inl (c46, 8, .inl (fun _ => 0))), (q54, .inl (c54, 8, .inl (fun _ => 0))), (q62, .inl (c62, 8, .inl (fun _ => 0))), (q69, .inl (c69, 4, .inl (fun _ => 0)))] H := hP
  have hD : va_D A [(h0, .inr (4, [.long 0, .int 0, .ref q7, .ref q15, .ref q22, .int 0, .int 0, .int 0, .ref q30, .int 0, .ref q38, .ref q46, .ref q54, .ref q62, .null, .null, .null, .null, .int 0, .null, .null])), (q7, .inl (c7, 96, .inr (.inl (fun _ => 0)))), (q15, .inl (c15, 24, .inl (fun _ => 0))), (q22, .inl (c22, 4, .inr (.inl (fun _ => 0)))), (q30, .inl (c30, 10, .inr (.inl (fun _ => 0)))), (q38, .inl (c38, 8, .inr (.inl (fun _ => 0)))), (q46, .inl (c46, 8, .inl (fun _ => 0))), (q54, .inl (c54, 8, .inl (fun _ => 0))), (q62, .inl (c62, 8, .inl (fun _ => 0))), (q69, .inl (c69, 4, .inl (fun _ => 0)))] := hD
  have hKv : va_K D vwCl [(c7, .long), (c15, .int), (c22, .long), (c30, .long), (c38, .long), (c46, .int), (c54, .int), (c62, .int), (c69, .int)] s := hKv
  refine va_putF (D := D) (ci := 4) (v := .ref q69) (ty := .array .int) (C := RX4) (T := TX4) (N := 21) hx hb hts iX4 tyX4 tyX4_ok nmX4 hown hKv hP hD hS 0 rfl rfl 14 (by decide) (hts (.fieldLink RX4 35 "NamedStreamsModel" "keptStream" "[I") (by decide +kernel)) (fun _ h9 => h9) rfl hin rfl (by decide +kernel) rfl rfl (Nat.le_of_ble_eq_true rfl) dX4_init_71 (fun H locs hP hD hS => ?_)
  have hP : va_P D vwCl [(h0, .inr (4, [.long 0, .int 0, .ref q7, .ref q15, .ref q22, .int 0, .int 0, .int 0, .ref q30, .int 0, .ref q38, .ref q46, .ref q54, .ref q62, .ref q69, .null, .null, .null, .int 0, .null, .null])), (q7, .inl (c7, 96, .inr (.inl (fun _ => 0)))), (q15, .inl (c15, 24, .inl (fun _ => 0))), (q22, .inl (c22, 4, .inr (.inl (fun _ => 0)))), (q30, .inl (c30, 10, .inr (.inl (fun _ => 0)))), (q38, .inl (c38, 8, .inr (.inl (fun _ => 0)))), (q46, .inl (c46, 8, .inl (fun _ => 0))), (q54, .inl (c54, 8, .inl (fun _ => 0))), (q62, .inl (c62, 8, .inl (fun _ => 0))), (q69, .inl (c69, 4, .inl (fun _ => 0)))] H := hP
  have hD : va_D A [(h0, .inr (4, [.long 0, .int 0, .ref q7, .ref q15, .ref q22, .int 0, .int 0, .int 0, .ref q30, .int 0, .ref q38, .ref q46, .ref q54, .ref q62, .ref q69, .null, .null, .null, .int 0, .null, .null])), (q7, .inl (c7, 96, .inr (.inl (fun _ => 0)))), (q15, .inl (c15, 24, .inl (fun _ => 0))), (q22, .inl (c22, 4, .inr (.inl (fun _ => 0)))), (q30, .inl (c30, 10, .inr (.inl (fun _ => 0)))), (q38, .inl (c38, 8, .inr (.inl (fun _ => 0)))), (q46, .inl (c46, 8, .inl (fun _ => 0))), (q54, .inl (c54, 8, .inl (fun _ => 0))), (q62, .inl (c62, 8, .inl (fun _ => 0))), (q69, .inl (c69, 4, .inl (fun _ => 0)))] := hD
  refine lv_aload_n hx hb dX4_init_74 rfl (lv_at hl 0 rfl) ?_
  refine lv_iconst (v := 4) hx hb dX4_init_75 (by decide) ?_
  refine va_newa (atype := .int) (ty := .int) (N' := 4) (a0 := (4, .inl (fun _ => 0))) hx hb (hts (.arrayClass .int) (by decide +kernel)) rfl hKv hP hD hS hA (fun _ => rfl) (by decide +kernel) (by decide +kernel) (by decide +kernel) (Nat.le_of_ble_eq_true rfl) (Nat.le_of_ble_eq_true rfl) dX4_init_76 (fun q76 c76 H hKv hP hD hS => ?_)
  have hP : va_P D vwCl [(h0, .inr (4, [.long 0, .int 0, .ref q7, .ref q15, .ref q22, .int 0, .int 0, .int 0, .ref q30, .int 0, .ref q38, .ref q46, .ref q54, .ref q62, .ref q69, .null, .null, .null, .int 0, .null, .null])), (q7, .inl (c7, 96, .inr (.inl (fun _ => 0)))), (q15, .inl (c15, 24, .inl (fun _ => 0))), (q22, .inl (c22, 4, .inr (.inl (fun _ => 0)))), (q30, .inl (c30, 10, .inr (.inl (fun _ => 0)))), (q38, .inl (c38, 8, .inr (.inl (fun _ => 0)))), (q46, .inl (c46, 8, .inl (fun _ => 0))), (q54, .inl (c54, 8, .inl (fun _ => 0))), (q62, .inl (c62, 8, .inl (fun _ => 0))), (q69, .inl (c69, 4, .inl (fun _ => 0))), (q76, .inl (c76, 4, .inl (fun _ => 0)))] H := hP
  have hD : va_D A [(h0, .inr (4, [.long 0, .int 0, .ref q7, .ref q15, .ref q22, .int 0, .int 0, .int 0, .ref q30, .int 0, .ref q38, .ref q46, .ref q54, .ref q62, .ref q69, .null, .null, .null, .int 0, .null, .null])), (q7, .inl (c7, 96, .inr (.inl (fun _ => 0)))), (q15, .inl (c15, 24, .inl (fun _ => 0))), (q22, .inl (c22, 4, .inr (.inl (fun _ => 0)))), (q30, .inl (c30, 10, .inr (.inl (fun _ => 0)))), (q38, .inl (c38, 8, .inr (.inl (fun _ => 0)))), (q46, .inl (c46, 8, .inl (fun _ => 0))), (q54, .inl (c54, 8, .inl (fun _ => 0))), (q62, .inl (c62, 8, .inl (fun _ => 0))), (q69, .inl (c69, 4, .inl (fun _ => 0))), (q76, .inl (c76, 4, .inl (fun _ => 0)))] := hD
  have hKv : va_K D vwCl [(c7, .long), (c15, .int), (c22, .long), (c30, .long), (c38, .long), (c46, .int), (c54, .int), (c62, .int), (c69, .int), (c76, .int)] s := hKv
  refine va_putF (D := D) (ci := 4) (v := .ref q76) (ty := .array .int) (C := RX4) (T := TX4) (N := 21) hx hb hts iX4 tyX4 tyX4_ok nmX4 hown hKv hP hD hS 0 rfl rfl 15 (by decide) (hts (.fieldLink RX4 38 "NamedStreamsModel" "keptPlace" "[I") (by decide +kernel)) (fun _ h9 => h9) rfl hin rfl (by decide +kernel) rfl rfl (Nat.le_of_ble_eq_true rfl) dX4_init_78 (fun H locs hP hD hS => ?_)
  have hP : va_P D vwCl [(h0, .inr (4, [.long 0, .int 0, .ref q7, .ref q15, .ref q22, .int 0, .int 0, .int 0, .ref q30, .int 0, .ref q38, .ref q46, .ref q54, .ref q62, .ref q69, .ref q76, .null, .null, .int 0, .null, .null])), (q7, .inl (c7, 96, .inr (.inl (fun _ => 0)))), (q15, .inl (c15, 24, .inl (fun _ => 0))), (q22, .inl (c22, 4, .inr (.inl (fun _ => 0)))), (q30, .inl (c30, 10, .inr (.inl (fun _ => 0)))), (q38, .inl (c38, 8, .inr (.inl (fun _ => 0)))), (q46, .inl (c46, 8, .inl (fun _ => 0))), (q54, .inl (c54, 8, .inl (fun _ => 0))), (q62, .inl (c62, 8, .inl (fun _ => 0))), (q69, .inl (c69, 4, .inl (fun _ => 0))), (q76, .inl (c76, 4, .inl (fun _ => 0)))] H := hP
  have hD : va_D A [(h0, .inr (4, [.long 0, .int 0, .ref q7, .ref q15, .ref q22, .int 0, .int 0, .int 0, .ref q30, .int 0, .ref q38, .ref q46, .ref q54, .ref q62, .ref q69, .ref q76, .null, .null, .int 0, .null, .null])), (q7, .inl (c7, 96, .inr (.inl (fun _ => 0)))), (q15, .inl (c15, 24, .inl (fun _ => 0))), (q22, .inl (c22, 4, .inr (.inl (fun _ => 0)))), (q30, .inl (c30, 10, .inr (.inl (fun _ => 0)))), (q38, .inl (c38, 8, .inr (.inl (fun _ => 0)))), (q46, .inl (c46, 8, .inl (fun _ => 0))), (q54, .inl (c54, 8, .inl (fun _ => 0))), (q62, .inl (c62, 8, .inl (fun _ => 0))), (q69, .inl (c69, 4, .inl (fun _ => 0))), (q76, .inl (c76, 4, .inl (fun _ => 0)))] := hD
  refine lv_aload_n hx hb dX4_init_81 rfl (lv_at hl 0 rfl) ?_
  refine lv_iconst (v := 4) hx hb dX4_init_82 (by decide) ?_
  refine va_newa (atype := .int) (ty := .int) (N' := 4) (a0 := (4, .inl (fun _ => 0))) hx hb (hts (.arrayClass .int) (by decide +kernel)) rfl hKv hP hD hS hA (fun _ => rfl) (by decide +kernel) (by decide +kernel) (by decide +kernel) (Nat.le_of_ble_eq_true rfl) (Nat.le_of_ble_eq_true rfl) dX4_init_83 (fun q83 c83 H hKv hP hD hS => ?_)
  have hP : va_P D vwCl [(h0, .inr (4, [.long 0, .int 0, .ref q7, .ref q15, .ref q22, .int 0, .int 0, .int 0, .ref q30, .int 0, .ref q38, .ref q46, .ref q54, .ref q62, .ref q69, .ref q76, .null, .null, .int 0, .null, .null])), (q7, .inl (c7, 96, .inr (.inl (fun _ => 0)))), (q15, .inl (c15, 24, .inl (fun _ => 0))), (q22, .inl (c22, 4, .inr (.inl (fun _ => 0)))), (q30, .inl (c30, 10, .inr (.inl (fun _ => 0)))), (q38, .inl (c38, 8, .inr (.inl (fun _ => 0)))), (q46, .inl (c46, 8, .inl (fun _ => 0))), (q54, .inl (c54, 8, .inl (fun _ => 0))), (q62, .inl (c62, 8, .inl (fun _ => 0))), (q69, .inl (c69, 4, .inl (fun _ => 0))), (q76, .inl (c76, 4, .inl (fun _ => 0))), (q83, .inl (c83, 4, .inl (fun _ => 0)))] H := hP
  have hD : va_D A [(h0, .inr (4, [.long 0, .int 0, .ref q7, .ref q15, .ref q22, .int 0, .int 0, .int 0, .ref q30, .int 0, .ref q38, .ref q46, .ref q54, .ref q62, .ref q69, .ref q76, .null, .null, .int 0, .null, .null])), (q7, .inl (c7, 96, .inr (.inl (fun _ => 0)))), (q15, .inl (c15, 24, .inl (fun _ => 0))), (q22, .inl (c22, 4, .inr (.inl (fun _ => 0)))), (q30, .inl (c30, 10, .inr (.inl (fun _ => 0)))), (q38, .inl (c38, 8, .inr (.inl (fun _ => 0)))), (q46, .inl (c46, 8, .inl (fun _ => 0))), (q54, .inl (c54, 8, .inl (fun _ => 0))), (q62, .inl (c62, 8, .inl (fun _ => 0))), (q69, .inl (c69, 4, .inl (fun _ => 0))), (q76, .inl (c76, 4, .inl (fun _ => 0))), (q83, .inl (c83, 4, .inl (fun _ => 0)))] := hD
  have hKv : va_K D vwCl [(c7, .long), (c15, .int), (c22, .long), (c30, .long), (c38, .long), (c46, .int), (c54, .int), (c62, .int), (c69, .int), (c76, .int), (c83, .int)] s := hKv
  refine va_putF (D := D) (ci := 4) (v := .ref q83) (ty := .array .int) (C := RX4) (T := TX4) (N := 21) hx hb hts iX4 tyX4 tyX4_ok nmX4 hown hKv hP hD hS 0 rfl rfl 16 (by decide) (hts (.fieldLink RX4 41 "NamedStreamsModel" "keptSplits" "[I") (by decide +kernel)) (fun _ h9 => h9) rfl hin rfl (by decide +kernel) rfl rfl (Nat.le_of_ble_eq_true rfl) dX4_init_85 (fun H locs hP hD hS => ?_)
  have hP : va_P D vwCl [(h0, .inr (4, [.long 0, .int 0, .ref q7, .ref q15, .ref q22, .int 0, .int 0, .int 0, .ref q30, .int 0, .ref q38, .ref q46, .ref q54, .ref q62, .ref q69, .ref q76, .ref q83, .null, .int 0, .null, .null])), (q7, .inl (c7, 96, .inr (.inl (fun _ => 0)))), (q15, .inl (c15, 24, .inl (fun _ => 0))), (q22, .inl (c22, 4, .inr (.inl (fun _ => 0)))), (q30, .inl (c30, 10, .inr (.inl (fun _ => 0)))), (q38, .inl (c38, 8, .inr (.inl (fun _ => 0)))), (q46, .inl (c46, 8, .inl (fun _ => 0))), (q54, .inl (c54, 8, .inl (fun _ => 0))), (q62, .inl (c62, 8, .inl (fun _ => 0))), (q69, .inl (c69, 4, .inl (fun _ => 0))), (q76, .inl (c76, 4, .inl (fun _ => 0))), (q83, .inl (c83, 4, .inl (fun _ => 0)))] H := hP
  have hD : va_D A [(h0, .inr (4, [.long 0, .int 0, .ref q7, .ref q15, .ref q22, .int 0, .int 0, .int 0, .ref q30, .int 0, .ref q38, .ref q46, .ref q54, .ref q62, .ref q69, .ref q76, .ref q83, .null, .int 0, .null, .null])), (q7, .inl (c7, 96, .inr (.inl (fun _ => 0)))), (q15, .inl (c15, 24, .inl (fun _ => 0))), (q22, .inl (c22, 4, .inr (.inl (fun _ => 0)))), (q30, .inl (c30, 10, .inr (.inl (fun _ => 0)))), (q38, .inl (c38, 8, .inr (.inl (fun _ => 0)))), (q46, .inl (c46, 8, .inl (fun _ => 0))), (q54, .inl (c54, 8, .inl (fun _ => 0))), (q62, .inl (c62, 8, .inl (fun _ => 0))), (q69, .inl (c69, 4, .inl (fun _ => 0))), (q76, .inl (c76, 4, .inl (fun _ => 0))), (q83, .inl (c83, 4, .inl (fun _ => 0)))] := hD
  refine lv_aload_n hx hb dX4_init_88 rfl (lv_at hl 0 rfl) ?_
  refine lv_iconst (v := 4) hx hb dX4_init_89 (by decide) ?_
  refine va_newa (atype := .boolean) (ty := .boolean) (N' := 4) (a0 := (4, .inl (fun _ => 0))) hx hb (hts (.arrayClass .boolean) (by decide +kernel)) rfl hKv hP hD hS hA (fun _ => rfl) (by decide +kernel) (by decide +kernel) (by decide +kernel) (Nat.le_of_ble_eq_true rfl) (Nat.le_of_ble_eq_true rfl) dX4_init_90 (fun q90 c90 H hKv hP hD hS => ?_)
  have hP : va_P D vwCl [(h0, .inr (4, [.long 0, .int 0, .ref q7, .ref q15, .ref q22, .int 0, .int 0, .int 0, .ref q30, .int 0, .ref q38, .ref q46, .ref q54, .ref q62, .ref q69, .ref q76, .ref q83, .null, .int 0, .null, .null])), (q7, .inl (c7, 96, .inr (.inl (fun _ => 0)))), (q15, .inl (c15, 24, .inl (fun _ => 0))), (q22, .inl (c22, 4, .inr (.inl (fun _ => 0)))), (q30, .inl (c30, 10, .inr (.inl (fun _ => 0)))), (q38, .inl (c38, 8, .inr (.inl (fun _ => 0)))), (q46, .inl (c46, 8, .inl (fun _ => 0))), (q54, .inl (c54, 8, .inl (fun _ => 0))), (q62, .inl (c62, 8, .inl (fun _ => 0))), (q69, .inl (c69, 4, .inl (fun _ => 0))), (q76, .inl (c76, 4, .inl (fun _ => 0))), (q83, .inl (c83, 4, .inl (fun _ => 0))), (q90, .inl (c90, 4, .inl (fun _ => 0)))] H := hP
  have hD : va_D A [(h0, .inr (4, [.long 0, .int 0, .ref q7, .ref q15, .ref q22, .int 0, .int 0, .int 0, .ref q30, .int 0, .ref q38, .ref q46, .ref q54, .ref q62, .ref q69, .ref q76, .ref q83, .null, .int 0, .null, .null])), (q7, .inl (c7, 96, .inr (.inl (fun _ => 0)))), (q15, .inl (c15, 24, .inl (fun _ => 0))), (q22, .inl (c22, 4, .inr (.inl (fun _ => 0)))), (q30, .inl (c30, 10, .inr (.inl (fun _ => 0)))), (q38, .inl (c38, 8, .inr (.inl (fun _ => 0)))), (q46, .inl (c46, 8, .inl (fun _ => 0))), (q54, .inl (c54, 8, .inl (fun _ => 0))), (q62, .inl (c62, 8, .inl (fun _ => 0))), (q69, .inl (c69, 4, .inl (fun _ => 0))), (q76, .inl (c76, 4, .inl (fun _ => 0))), (q83, .inl (c83, 4, .inl (fun _ => 0))), (q90, .inl (c90, 4, .inl (fun _ => 0)))] := hD
  have hKv : va_K D vwCl [(c7, .long), (c15, .int), (c22, .long), (c30, .long), (c38, .long), (c46, .int), (c54, .int), (c62, .int), (c69, .int), (c76, .int), (c83, .int), (c90, .boolean)] s := hKv
  refine va_putF (D := D) (ci := 4) (v := .ref q90) (ty := .array .boolean) (C := RX4) (T := TX4) (N := 21) hx hb hts iX4 tyX4 tyX4_ok nmX4 hown hKv hP hD hS 0 rfl rfl 17 (by decide) (hts (.fieldLink RX4 44 "NamedStreamsModel" "isKept" "[Z") (by decide +kernel)) (fun _ h9 => h9) rfl hin rfl (by decide +kernel) rfl rfl (Nat.le_of_ble_eq_true rfl) dX4_init_92 (fun H locs hP hD hS => ?_)
  have hP : va_P D vwCl [(h0, .inr (4, [.long 0, .int 0, .ref q7, .ref q15, .ref q22, .int 0, .int 0, .int 0, .ref q30, .int 0, .ref q38, .ref q46, .ref q54, .ref q62, .ref q69, .ref q76, .ref q83, .ref q90, .int 0, .null, .null])), (q7, .inl (c7, 96, .inr (.inl (fun _ => 0)))), (q15, .inl (c15, 24, .inl (fun _ => 0))), (q22, .inl (c22, 4, .inr (.inl (fun _ => 0)))), (q30, .inl (c30, 10, .inr (.inl (fun _ => 0)))), (q38, .inl (c38, 8, .inr (.inl (fun _ => 0)))), (q46, .inl (c46, 8, .inl (fun _ => 0))), (q54, .inl (c54, 8, .inl (fun _ => 0))), (q62, .inl (c62, 8, .inl (fun _ => 0))), (q69, .inl (c69, 4, .inl (fun _ => 0))), (q76, .inl (c76, 4, .inl (fun _ => 0))), (q83, .inl (c83, 4, .inl (fun _ => 0))), (q90, .inl (c90, 4, .inl (fun _ => 0)))] H := hP
  have hD : va_D A [(h0, .inr (4, [.long 0, .int 0, .ref q7, .ref q15, .ref q22, .int 0, .int 0, .int 0, .ref q30, .int 0, .ref q38, .ref q46, .ref q54, .ref q62, .ref q69, .ref q76, .ref q83, .ref q90, .int 0, .null, .null])), (q7, .inl (c7, 96, .inr (.inl (fun _ => 0)))), (q15, .inl (c15, 24, .inl (fun _ => 0))), (q22, .inl (c22, 4, .inr (.inl (fun _ => 0)))), (q30, .inl (c30, 10, .inr (.inl (fun _ => 0)))), (q38, .inl (c38, 8, .inr (.inl (fun _ => 0)))), (q46, .inl (c46, 8, .inl (fun _ => 0))), (q54, .inl (c54, 8, .inl (fun _ => 0))), (q62, .inl (c62, 8, .inl (fun _ => 0))), (q69, .inl (c69, 4, .inl (fun _ => 0))), (q76, .inl (c76, 4, .inl (fun _ => 0))), (q83, .inl (c83, 4, .inl (fun _ => 0))), (q90, .inl (c90, 4, .inl (fun _ => 0)))] := hD
  refine lv_aload_n hx hb dX4_init_95 rfl (lv_at hl 0 rfl) ?_
  refine lv_bipush (v := 40) hx hb dX4_init_96 (by decide) ?_
  refine va_newa (atype := .int) (ty := .int) (N' := 40) (a0 := (40, .inl (fun _ => 0))) hx hb (hts (.arrayClass .int) (by decide +kernel)) rfl hKv hP hD hS hA (fun _ => rfl) (by decide +kernel) (by decide +kernel) (by decide +kernel) (Nat.le_of_ble_eq_true rfl) (Nat.le_of_ble_eq_true rfl) dX4_init_98 (fun q98 c98 H hKv hP hD hS => ?_)
  have hP : va_P D vwCl [(h0, .inr (4, [.long 0, .int 0, .ref q7, .ref q15, .ref q22, .int 0, .int 0, .int 0, .ref q30, .int 0, .ref q38, .ref q46, .ref q54, .ref q62, .ref q69, .ref q76, .ref q83, .ref q90, .int 0, .null, .null])), (q7, .inl (c7, 96, .inr (.inl (fun _ => 0)))), (q15, .inl (c15, 24, .inl (fun _ => 0))), (q22, .inl (c22, 4, .inr (.inl (fun _ => 0)))), (q30, .inl (c30, 10, .inr (.inl (fun _ => 0)))), (q38, .inl (c38, 8, .inr (.inl (fun _ => 0)))), (q46, .inl (c46, 8, .inl (fun _ => 0))), (q54, .inl (c54, 8, .inl (fun _ => 0))), (q62, .inl (c62, 8, .inl (fun _ => 0))), (q69, .inl (c69, 4, .inl (fun _ => 0))), (q76, .inl (c76, 4, .inl (fun _ => 0))), (q83, .inl (c83, 4, .inl (fun _ => 0))), (q90, .inl (c90, 4, .inl (fun _ => 0))), (q98, .inl (c98, 40, .inl (fun _ => 0)))] H := hP
  have hD : va_D A [(h0, .inr (4, [.long 0, .int 0, .ref q7, .ref q15, .ref q22, .int 0, .int 0, .int 0, .ref q30, .int 0, .ref q38, .ref q46, .ref q54, .ref q62, .ref q69, .ref q76, .ref q83, .ref q90, .int 0, .null, .null])), (q7, .inl (c7, 96, .inr (.inl (fun _ => 0)))), (q15, .inl (c15, 24, .inl (fun _ => 0))), (q22, .inl (c22, 4, .inr (.inl (fun _ => 0)))), (q30, .inl (c30, 10, .inr (.inl (fun _ => 0)))), (q38, .inl (c38, 8, .inr (.inl (fun _ => 0)))), (q46, .inl (c46, 8, .inl (fun _ => 0))), (q54, .inl (c54, 8, .inl (fun _ => 0))), (q62, .inl (c62, 8, .inl (fun _ => 0))), (q69, .inl (c69, 4, .inl (fun _ => 0))), (q76, .inl (c76, 4, .inl (fun _ => 0))), (q83, .inl (c83, 4, .inl (fun _ => 0))), (q90, .inl (c90, 4, .inl (fun _ => 0))), (q98, .inl (c98, 40, .inl (fun _ => 0)))] := hD
  have hKv : va_K D vwCl [(c7, .long), (c15, .int), (c22, .long), (c30, .long), (c38, .long), (c46, .int), (c54, .int), (c62, .int), (c69, .int), (c76, .int), (c83, .int), (c90, .boolean), (c98, .int)] s := hKv
  refine va_putF (D := D) (ci := 4) (v := .ref q98) (ty := .array .int) (C := RX4) (T := TX4) (N := 21) hx hb hts iX4 tyX4 tyX4_ok nmX4 hown hKv hP hD hS 0 rfl rfl 19 (by decide) (hts (.fieldLink RX4 48 "NamedStreamsModel" "order" "[I") (by decide +kernel)) (fun _ h9 => h9) rfl hin rfl (by decide +kernel) rfl rfl (Nat.le_of_ble_eq_true rfl) dX4_init_100 (fun H locs hP hD hS => ?_)
  have hP : va_P D vwCl [(h0, .inr (4, [.long 0, .int 0, .ref q7, .ref q15, .ref q22, .int 0, .int 0, .int 0, .ref q30, .int 0, .ref q38, .ref q46, .ref q54, .ref q62, .ref q69, .ref q76, .ref q83, .ref q90, .int 0, .ref q98, .null])), (q7, .inl (c7, 96, .inr (.inl (fun _ => 0)))), (q15, .inl (c15, 24, .inl (fun _ => 0))), (q22, .inl (c22, 4, .inr (.inl (fun _ => 0)))), (q30, .inl (c30, 10, .inr (.inl (fun _ => 0)))), (q38, .inl (c38, 8, .inr (.inl (fun _ => 0)))), (q46, .inl (c46, 8, .inl (fun _ => 0))), (q54, .inl (c54, 8, .inl (fun _ => 0))), (q62, .inl (c62, 8, .inl (fun _ => 0))), (q69, .inl (c69, 4, .inl (fun _ => 0))), (q76, .inl (c76, 4, .inl (fun _ => 0))), (q83, .inl (c83, 4, .inl (fun _ => 0))), (q90, .inl (c90, 4, .inl (fun _ => 0))), (q98, .inl (c98, 40, .inl (fun _ => 0)))] H := hP
  have hD : va_D A [(h0, .inr (4, [.long 0, .int 0, .ref q7, .ref q15, .ref q22, .int 0, .int 0, .int 0, .ref q30, .int 0, .ref q38, .ref q46, .ref q54, .ref q62, .ref q69, .ref q76, .ref q83, .ref q90, .int 0, .ref q98, .null])), (q7, .inl (c7, 96, .inr (.inl (fun _ => 0)))), (q15, .inl (c15, 24, .inl (fun _ => 0))), (q22, .inl (c22, 4, .inr (.inl (fun _ => 0)))), (q30, .inl (c30, 10, .inr (.inl (fun _ => 0)))), (q38, .inl (c38, 8, .inr (.inl (fun _ => 0)))), (q46, .inl (c46, 8, .inl (fun _ => 0))), (q54, .inl (c54, 8, .inl (fun _ => 0))), (q62, .inl (c62, 8, .inl (fun _ => 0))), (q69, .inl (c69, 4, .inl (fun _ => 0))), (q76, .inl (c76, 4, .inl (fun _ => 0))), (q83, .inl (c83, 4, .inl (fun _ => 0))), (q90, .inl (c90, 4, .inl (fun _ => 0))), (q98, .inl (c98, 40, .inl (fun _ => 0)))] := hD
  refine lv_aload_n hx hb dX4_init_103 rfl (lv_at hl 0 rfl) ?_
  refine lv_iconst (v := 4) hx hb dX4_init_104 (by decide) ?_
  refine va_newa (atype := .long) (ty := .long) (N' := 4) (a0 := (4, .inr (.inl (fun _ => 0)))) hx hb (hts (.arrayClass .long) (by decide +kernel)) rfl hKv hP hD hS hA (fun _ => rfl) (by decide +kernel) (by decide +kernel) (by decide +kernel) (Nat.le_of_ble_eq_true rfl) (Nat.le_of_ble_eq_true rfl) dX4_init_105 (fun q105 c105 H hKv hP hD hS => ?_)
  have hP : va_P D vwCl [(h0, .inr (4, [.long 0, .int 0, .ref q7, .ref q15, .ref q22, .int 0, .int 0, .int 0, .ref q30, .int 0, .ref q38, .ref q46, .ref q54, .ref q62, .ref q69, .ref q76, .ref q83, .ref q90, .int 0, .ref q98, .null])), (q7, .inl (c7, 96, .inr (.inl (fun _ => 0)))), (q15, .inl (c15, 24, .inl (fun _ => 0))), (q22, .inl (c22, 4, .inr (.inl (fun _ => 0)))), (q30, .inl (c30, 10, .inr (.inl (fun _ => 0)))), (q38, .inl (c38, 8, .inr (.inl (fun _ => 0)))), (q46, .inl (c46, 8, .inl (fun _ => 0))), (q54, .inl (c54, 8, .inl (fun _ => 0))), (q62, .inl (c62, 8, .inl (fun _ => 0))), (q69, .inl (c69, 4, .inl (fun _ => 0))), (q76, .inl (c76, 4, .inl (fun _ => 0))), (q83, .inl (c83, 4, .inl (fun _ => 0))), (q90, .inl (c90, 4, .inl (fun _ => 0))), (q98, .inl (c98, 40, .inl (fun _ => 0))), (q105, .inl (c105, 4, .inr (.inl (fun _ => 0))))] H := hP
  have hD : va_D A [(h0, .inr (4, [.long 0, .int 0, .ref q7, .ref q15, .ref q22, .int 0, .int 0, .int 0, .ref q30, .int 0, .ref q38, .ref q46, .ref q54, .ref q62, .ref q69, .ref q76, .ref q83, .ref q90, .int 0, .ref q98, .null])), (q7, .inl (c7, 96, .inr (.inl (fun _ => 0)))), (q15, .inl (c15, 24, .inl (fun _ => 0))), (q22, .inl (c22, 4, .inr (.inl (fun _ => 0)))), (q30, .inl (c30, 10, .inr (.inl (fun _ => 0)))), (q38, .inl (c38, 8, .inr (.inl (fun _ => 0)))), (q46, .inl (c46, 8, .inl (fun _ => 0))), (q54, .inl (c54, 8, .inl (fun _ => 0))), (q62, .inl (c62, 8, .inl (fun _ => 0))), (q69, .inl (c69, 4, .inl (fun _ => 0))), (q76, .inl (c76, 4, .inl (fun _ => 0))), (q83, .inl (c83, 4, .inl (fun _ => 0))), (q90, .inl (c90, 4, .inl (fun _ => 0))), (q98, .inl (c98, 40, .inl (fun _ => 0))), (q105, .inl (c105, 4, .inr (.inl (fun _ => 0))))] := hD
  have hKv : va_K D vwCl [(c7, .long), (c15, .int), (c22, .long), (c30, .long), (c38, .long), (c46, .int), (c54, .int), (c62, .int), (c69, .int), (c76, .int), (c83, .int), (c90, .boolean), (c98, .int), (c105, .long)] s := hKv
  refine va_putF (D := D) (ci := 4) (v := .ref q105) (ty := .array .long) (C := RX4) (T := TX4) (N := 21) hx hb hts iX4 tyX4 tyX4_ok nmX4 hown hKv hP hD hS 0 rfl rfl 20 (by decide) (hts (.fieldLink RX4 51 "NamedStreamsModel" "aside" "[J") (by decide +kernel)) (fun _ h9 => h9) rfl hin rfl (by decide +kernel) rfl rfl (Nat.le_of_ble_eq_true rfl) dX4_init_107 (fun H locs hP hD hS => ?_)
  have hP : va_P D vwCl [(h0, .inr (4, [.long 0, .int 0, .ref q7, .ref q15, .ref q22, .int 0, .int 0, .int 0, .ref q30, .int 0, .ref q38, .ref q46, .ref q54, .ref q62, .ref q69, .ref q76, .ref q83, .ref q90, .int 0, .ref q98, .ref q105])), (q7, .inl (c7, 96, .inr (.inl (fun _ => 0)))), (q15, .inl (c15, 24, .inl (fun _ => 0))), (q22, .inl (c22, 4, .inr (.inl (fun _ => 0)))), (q30, .inl (c30, 10, .inr (.inl (fun _ => 0)))), (q38, .inl (c38, 8, .inr (.inl (fun _ => 0)))), (q46, .inl (c46, 8, .inl (fun _ => 0))), (q54, .inl (c54, 8, .inl (fun _ => 0))), (q62, .inl (c62, 8, .inl (fun _ => 0))), (q69, .inl (c69, 4, .inl (fun _ => 0))), (q76, .inl (c76, 4, .inl (fun _ => 0))), (q83, .inl (c83, 4, .inl (fun _ => 0))), (q90, .inl (c90, 4, .inl (fun _ => 0))), (q98, .inl (c98, 40, .inl (fun _ => 0))), (q105, .inl (c105, 4, .inr (.inl (fun _ => 0))))] H := hP
  have hD : va_D A [(h0, .inr (4, [.long 0, .int 0, .ref q7, .ref q15, .ref q22, .int 0, .int 0, .int 0, .ref q30, .int 0, .ref q38, .ref q46, .ref q54, .ref q62, .ref q69, .ref q76, .ref q83, .ref q90, .int 0, .ref q98, .ref q105])), (q7, .inl (c7, 96, .inr (.inl (fun _ => 0)))), (q15, .inl (c15, 24, .inl (fun _ => 0))), (q22, .inl (c22, 4, .inr (.inl (fun _ => 0)))), (q30, .inl (c30, 10, .inr (.inl (fun _ => 0)))), (q38, .inl (c38, 8, .inr (.inl (fun _ => 0)))), (q46, .inl (c46, 8, .inl (fun _ => 0))), (q54, .inl (c54, 8, .inl (fun _ => 0))), (q62, .inl (c62, 8, .inl (fun _ => 0))), (q69, .inl (c69, 4, .inl (fun _ => 0))), (q76, .inl (c76, 4, .inl (fun _ => 0))), (q83, .inl (c83, 4, .inl (fun _ => 0))), (q90, .inl (c90, 4, .inl (fun _ => 0))), (q98, .inl (c98, 40, .inl (fun _ => 0))), (q105, .inl (c105, 4, .inr (.inl (fun _ => 0))))] := hD
  refine lv_aload_n hx hb dX4_init_110 rfl (lv_at hl 0 rfl) ?_
  refine lv_lload_n hx hb dX4_init_111 rfl (lv_at hl 1 rfl) ?_
  refine va_putF (D := D) (ci := 4) (v := .long sd0) (ty := .long) (C := RX4) (T := TX4) (N := 21) hx hb hts iX4 tyX4 tyX4_ok nmX4 hown hKv hP hD hS 0 rfl rfl 0 (by decide) (hts (.fieldLink RX4 54 "NamedStreamsModel" "seed" "J") (by decide +kernel)) (fun _ h9 => h9) rfl hin rfl (by decide +kernel) rfl rfl (Nat.le_of_ble_eq_true rfl) dX4_init_112 (fun H locs hP hD hS => ?_)
  have hP : va_P D vwCl [(h0, .inr (4, [.long sd0, .int 0, .ref q7, .ref q15, .ref q22, .int 0, .int 0, .int 0, .ref q30, .int 0, .ref q38, .ref q46, .ref q54, .ref q62, .ref q69, .ref q76, .ref q83, .ref q90, .int 0, .ref q98, .ref q105])), (q7, .inl (c7, 96, .inr (.inl (fun _ => 0)))), (q15, .inl (c15, 24, .inl (fun _ => 0))), (q22, .inl (c22, 4, .inr (.inl (fun _ => 0)))), (q30, .inl (c30, 10, .inr (.inl (fun _ => 0)))), (q38, .inl (c38, 8, .inr (.inl (fun _ => 0)))), (q46, .inl (c46, 8, .inl (fun _ => 0))), (q54, .inl (c54, 8, .inl (fun _ => 0))), (q62, .inl (c62, 8, .inl (fun _ => 0))), (q69, .inl (c69, 4, .inl (fun _ => 0))), (q76, .inl (c76, 4, .inl (fun _ => 0))), (q83, .inl (c83, 4, .inl (fun _ => 0))), (q90, .inl (c90, 4, .inl (fun _ => 0))), (q98, .inl (c98, 40, .inl (fun _ => 0))), (q105, .inl (c105, 4, .inr (.inl (fun _ => 0))))] H := hP
  have hD : va_D A [(h0, .inr (4, [.long sd0, .int 0, .ref q7, .ref q15, .ref q22, .int 0, .int 0, .int 0, .ref q30, .int 0, .ref q38, .ref q46, .ref q54, .ref q62, .ref q69, .ref q76, .ref q83, .ref q90, .int 0, .ref q98, .ref q105])), (q7, .inl (c7, 96, .inr (.inl (fun _ => 0)))), (q15, .inl (c15, 24, .inl (fun _ => 0))), (q22, .inl (c22, 4, .inr (.inl (fun _ => 0)))), (q30, .inl (c30, 10, .inr (.inl (fun _ => 0)))), (q38, .inl (c38, 8, .inr (.inl (fun _ => 0)))), (q46, .inl (c46, 8, .inl (fun _ => 0))), (q54, .inl (c54, 8, .inl (fun _ => 0))), (q62, .inl (c62, 8, .inl (fun _ => 0))), (q69, .inl (c69, 4, .inl (fun _ => 0))), (q76, .inl (c76, 4, .inl (fun _ => 0))), (q83, .inl (c83, 4, .inl (fun _ => 0))), (q90, .inl (c90, 4, .inl (fun _ => 0))), (q98, .inl (c98, 40, .inl (fun _ => 0))), (q105, .inl (c105, 4, .inr (.inl (fun _ => 0))))] := hD
  have hP9 := hP.sub (ws' := [(h0, .inr (4, [.long sd0, .int 0, .ref q7, .ref q15, .ref q22, .int 0, .int 0, .int 0, .ref q30, .int 0, .ref q38, .ref q46, .ref q54, .ref q62, .ref q69, .ref q76, .ref q83, .ref q90, .int 0, .ref q98, .ref q105])), (q7, .inl (c7, 96, .inr (.inl (fun _ => 0)))), (q15, .inl (c15, 24, .inl (fun _ => 0))), (q22, .inl (c22, 4, .inr (.inl (fun _ => 0)))), (q30, .inl (c30, 10, .inr (.inl (fun _ => 0)))), (q38, .inl (c38, 8, .inr (.inl (fun _ => 0)))), (q46, .inl (c46, 8, .inl (fun _ => 0))), (q54, .inl (c54, 8, .inl (fun _ => 0))), (q62, .inl (c62, 8, .inl (fun _ => 0))), (q69, .inl (c69, 4, .inl (fun _ => 0))), (q76, .inl (c76, 4, .inl (fun _ => 0))), (q83, .inl (c83, 4, .inl (fun _ => 0))), (q90, .inl (c90, 4, .inl (fun _ => 0))), (q98, .inl (c98, 40, .inl (fun _ => 0))), (q105, .inl (c105, 4, .inr (.inl (fun _ => 0))))]) [0, 1, 2, 3, 4, 5, 6, 7, 8, 9, 10, 11, 12, 13, 14] rfl
  have hD9 := hD.sub (ws' := [(h0, .inr (4, [.long sd0, .int 0, .ref q7, .ref q15, .ref q22, .int 0, .int 0, .int 0, .ref q30, .int 0, .ref q38, .ref q46, .ref q54, .ref q62, .ref q69, .ref q76, .ref q83, .ref q90, .int 0, .ref q98, .ref q105])), (q7, .inl (c7, 96, .inr (.inl (fun _ => 0)))), (q15, .inl (c15, 24, .inl (fun _ => 0))), (q22, .inl (c22, 4, .inr (.inl (fun _ => 0)))), (q30, .inl (c30, 10, .inr (.inl (fun _ => 0)))), (q38, .inl (c38, 8, .inr (.inl (fun _ => 0)))), (q46, .inl (c46, 8, .inl (fun _ => 0))), (q54, .inl (c54, 8, .inl (fun _ => 0))), (q62, .inl (c62, 8, .inl (fun _ => 0))), (q69, .inl (c69, 4, .inl (fun _ => 0))), (q76, .inl (c76, 4, .inl (fun _ => 0))), (q83, .inl (c83, 4, .inl (fun _ => 0))), (q90, .inl (c90, 4, .inl (fun _ => 0))), (q98, .inl (c98, 40, .inl (fun _ => 0))), (q105, .inl (c105, 4, .inr (.inl (fun _ => 0))))]) [0, 1, 2, 3, 4, 5, 6, 7, 8, 9, 10, 11, 12, 13, 14] (by decide) rfl
  have hK9 := hKv.sub (tys' := [(c7, .long), (c15, .int), (c22, .long), (c30, .long), (c38, .long), (c46, .int), (c54, .int), (c62, .int), (c69, .int), (c76, .int), (c83, .int), (c90, .boolean), (c98, .int), (c105, .long)]) [0, 1, 2, 3, 4, 5, 6, 7, 8, 9, 10, 11, 12, 13] rfl
  exact W.vret hx hb hr (fun t ht hW => ⟨⟨(fun k => [h0, q7, q15, q22, q30, q38, q46, q54, q62, q69, q76, q83, q90, q98, q105].getD k h0, fun k => [c7, c7, c15, c22, c30, c38, c46, c54, c62, c69, c76, c83, c90, c98, c105].getD k c7), rfl, rfl, by rw [ht]; exact hP9, hD9, va_K.moved hW.alike hK9⟩, hS.F ht⟩) hS.2.2 dX4_init_115 hlocks
end
