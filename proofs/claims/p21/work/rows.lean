section
-- ===== PART A: goes FIRST, ahead of the names: the tables' words, and 'selects' of the private methods out of them =====
/-- a private method of a class that the tables say can be made, by its rows of tables_1 -/
def lw_okq (q : MethodName × Nat) : Prop := (q.1.cls ≠ "java/lang/invoke/MethodHandle" ∧ q.1.cls ≠ "java/lang/invoke/VarHandle") ∧ Cond.instantiable q.1.cls q.2 ∈ tables_1 ∧ Cond.privateMethod q.1 ∈ tables_1 ∧ Cond.instanceMethod q.1 ∈ tables_1
theorem lw_p0 : lw_okq (⟨"NamedStreams$Paths", "isLike", "(I[JI)Z"⟩, 5) := ⟨⟨by decide +kernel, by decide +kernel⟩, List.mem_of_getElem? (i := 15) (by decide +kernel), List.mem_of_getElem? (i := 91) (by decide +kernel), List.mem_of_getElem? (i := 92) (by decide +kernel)⟩
theorem lw_p1 : lw_okq (⟨"NamedStreams$Paths", "add", "([JI)I"⟩, 5) := ⟨⟨by decide +kernel, by decide +kernel⟩, List.mem_of_getElem? (i := 15) (by decide +kernel), List.mem_of_getElem? (i := 95) (by decide +kernel), List.mem_of_getElem? (i := 96) (by decide +kernel)⟩
theorem lw_p2 : lw_okq (⟨"NamedStreams", "baseOf", "(JI)J"⟩, 11) := ⟨⟨by decide +kernel, by decide +kernel⟩, List.mem_of_getElem? (i := 7) (by decide +kernel), List.mem_of_getElem? (i := 117) (by decide +kernel), List.mem_of_getElem? (i := 118) (by decide +kernel)⟩
theorem lw_p3 : lw_okq (⟨"NamedStreams", "drawSpan", "(JIIJ)J"⟩, 11) := ⟨⟨by decide +kernel, by decide +kernel⟩, List.mem_of_getElem? (i := 7) (by decide +kernel), List.mem_of_getElem? (i := 132) (by decide +kernel), List.mem_of_getElem? (i := 133) (by decide +kernel)⟩
theorem lw_p4 : lw_okq (⟨"NamedStreams", "drawFraction", "(JIIJJ)I"⟩, 11) := ⟨⟨by decide +kernel, by decide +kernel⟩, List.mem_of_getElem? (i := 7) (by decide +kernel), List.mem_of_getElem? (i := 152) (by decide +kernel), List.mem_of_getElem? (i := 153) (by decide +kernel)⟩
theorem lw_p5 : lw_okq (⟨"NamedStreams", "drawPick", "(JII)I"⟩, 11) := ⟨⟨by decide +kernel, by decide +kernel⟩, List.mem_of_getElem? (i := 7) (by decide +kernel), List.mem_of_getElem? (i := 164) (by decide +kernel), List.mem_of_getElem? (i := 165) (by decide +kernel)⟩
theorem lw_p6 : lw_okq (⟨"NamedStreams", "sumOfWeights", "()J"⟩, 11) := ⟨⟨by decide +kernel, by decide +kernel⟩, List.mem_of_getElem? (i := 7) (by decide +kernel), List.mem_of_getElem? (i := 168) (by decide +kernel), List.mem_of_getElem? (i := 169) (by decide +kernel)⟩
theorem lw_p7 : lw_okq (⟨"NamedStreams", "weightReaching", "(J)I"⟩, 11) := ⟨⟨by decide +kernel, by decide +kernel⟩, List.mem_of_getElem? (i := 7) (by decide +kernel), List.mem_of_getElem? (i := 173) (by decide +kernel), List.mem_of_getElem? (i := 174) (by decide +kernel)⟩
theorem lw_p8 : lw_okq (⟨"NamedStreams", "drawPermutation", "(JIII)Z"⟩, 11) := ⟨⟨by decide +kernel, by decide +kernel⟩, List.mem_of_getElem? (i := 7) (by decide +kernel), List.mem_of_getElem? (i := 182) (by decide +kernel), List.mem_of_getElem? (i := 183) (by decide +kernel)⟩
theorem lw_p9 : lw_okq (⟨"NamedStreams", "addStream", "(JI)I"⟩, 11) := ⟨⟨by decide +kernel, by decide +kernel⟩, List.mem_of_getElem? (i := 7) (by decide +kernel), List.mem_of_getElem? (i := 198) (by decide +kernel), List.mem_of_getElem? (i := 199) (by decide +kernel)⟩
theorem lw_p10 : lw_okq (⟨"NamedStreams", "streamAt", "(I)LNamedStreams$Stream;"⟩, 11) := ⟨⟨by decide +kernel, by decide +kernel⟩, List.mem_of_getElem? (i := 7) (by decide +kernel), List.mem_of_getElem? (i := 228) (by decide +kernel), List.mem_of_getElem? (i := 229) (by decide +kernel)⟩
theorem lw_p11 : lw_okq (⟨"NamedStreamsModel", "takePath", "()I"⟩, 21) := ⟨⟨by decide +kernel, by decide +kernel⟩, List.mem_of_getElem? (i := 292) (by decide +kernel), List.mem_of_getElem? (i := 371) (by decide +kernel), List.mem_of_getElem? (i := 372) (by decide +kernel)⟩
theorem lw_p12 : lw_okq (⟨"NamedStreamsModel", "likePath", "()I"⟩, 21) := ⟨⟨by decide +kernel, by decide +kernel⟩, List.mem_of_getElem? (i := 292) (by decide +kernel), List.mem_of_getElem? (i := 375) (by decide +kernel), List.mem_of_getElem? (i := 376) (by decide +kernel)⟩
theorem lw_p13 : lw_okq (⟨"NamedStreamsModel", "isPath", "(I)Z"⟩, 21) := ⟨⟨by decide +kernel, by decide +kernel⟩, List.mem_of_getElem? (i := 292) (by decide +kernel), List.mem_of_getElem? (i := 383) (by decide +kernel), List.mem_of_getElem? (i := 384) (by decide +kernel)⟩
theorem lw_p14 : lw_okq (⟨"NamedStreamsModel", "keyOf", "(I)J"⟩, 21) := ⟨⟨by decide +kernel, by decide +kernel⟩, List.mem_of_getElem? (i := 292) (by decide +kernel), List.mem_of_getElem? (i := 390) (by decide +kernel), List.mem_of_getElem? (i := 391) (by decide +kernel)⟩
theorem lw_p15 : lw_okq (⟨"NamedStreamsModel", "wordOf", "(JIJ)J"⟩, 21) := ⟨⟨by decide +kernel, by decide +kernel⟩, List.mem_of_getElem? (i := 292) (by decide +kernel), List.mem_of_getElem? (i := 404) (by decide +kernel), List.mem_of_getElem? (i := 405) (by decide +kernel)⟩
def lw_privs_1 : List (MethodName × Nat) := [(⟨"NamedStreams$Paths", "isLike", "(I[JI)Z"⟩, 5), (⟨"NamedStreams$Paths", "add", "([JI)I"⟩, 5), (⟨"NamedStreams", "baseOf", "(JI)J"⟩, 11), (⟨"NamedStreams", "drawSpan", "(JIIJ)J"⟩, 11), (⟨"NamedStreams", "drawFraction", "(JIIJJ)I"⟩, 11), (⟨"NamedStreams", "drawPick", "(JII)I"⟩, 11), (⟨"NamedStreams", "sumOfWeights", "()J"⟩, 11), (⟨"NamedStreams", "weightReaching", "(J)I"⟩, 11), (⟨"NamedStreams", "drawPermutation", "(JIII)Z"⟩, 11), (⟨"NamedStreams", "addStream", "(JI)I"⟩, 11), (⟨"NamedStreams", "streamAt", "(I)LNamedStreams$Stream;"⟩, 11), (⟨"NamedStreamsModel", "takePath", "()I"⟩, 21), (⟨"NamedStreamsModel", "likePath", "()I"⟩, 21), (⟨"NamedStreamsModel", "isPath", "(I)Z"⟩, 21), (⟨"NamedStreamsModel", "keyOf", "(I)J"⟩, 21), (⟨"NamedStreamsModel", "wordOf", "(JIJ)J"⟩, 21)]
theorem lw_r1 : ∀ q ∈ lw_privs_1, lw_okq q := List.forall_mem_cons.mpr ⟨lw_p0, List.forall_mem_cons.mpr ⟨lw_p1, List.forall_mem_cons.mpr ⟨lw_p2, List.forall_mem_cons.mpr ⟨lw_p3, List.forall_mem_cons.mpr ⟨lw_p4, List.forall_mem_cons.mpr ⟨lw_p5, List.forall_mem_cons.mpr ⟨lw_p6, List.forall_mem_cons.mpr ⟨lw_p7, List.forall_mem_cons.mpr ⟨lw_p8, List.forall_mem_cons.mpr ⟨lw_p9, List.forall_mem_cons.mpr ⟨lw_p10, List.forall_mem_cons.mpr ⟨lw_p11, List.forall_mem_cons.mpr ⟨lw_p12, List.forall_mem_cons.mpr ⟨lw_p13, List.forall_mem_cons.mpr ⟨lw_p14, List.forall_mem_cons.mpr ⟨lw_p15, fun _ h => absurd h List.not_mem_nil⟩⟩⟩⟩⟩⟩⟩⟩⟩⟩⟩⟩⟩⟩⟩⟩
theorem lw_p16 : lw_okq (⟨"NamedStreamsModel", "draw", "(JIIJ)J"⟩, 21) := ⟨⟨by decide +kernel, by decide +kernel⟩, List.mem_of_getElem? (i := 292) (by decide +kernel), List.mem_of_getElem? (i := 414) (by decide +kernel), List.mem_of_getElem? (i := 415) (by decide +kernel)⟩
theorem lw_p17 : lw_okq (⟨"NamedStreamsModel", "sum", "()J"⟩, 21) := ⟨⟨by decide +kernel, by decide +kernel⟩, List.mem_of_getElem? (i := 292) (by decide +kernel), List.mem_of_getElem? (i := 441) (by decide +kernel), List.mem_of_getElem? (i := 442) (by decide +kernel)⟩
theorem lw_p18 : lw_okq (⟨"NamedStreamsModel", "picked", "(JIIJ)I"⟩, 21) := ⟨⟨by decide +kernel, by decide +kernel⟩, List.mem_of_getElem? (i := 292) (by decide +kernel), List.mem_of_getElem? (i := 445) (by decide +kernel), List.mem_of_getElem? (i := 446) (by decide +kernel)⟩
theorem lw_p19 : lw_okq (⟨"NamedStreamsModel", "begin", "(JI)I"⟩, 21) := ⟨⟨by decide +kernel, by decide +kernel⟩, List.mem_of_getElem? (i := 292) (by decide +kernel), List.mem_of_getElem? (i := 467) (by decide +kernel), List.mem_of_getElem? (i := 468) (by decide +kernel)⟩
theorem lw_p20 : lw_okq (⟨"NamedStreamsModel", "isStream", "(I)Z"⟩, 21) := ⟨⟨by decide +kernel, by decide +kernel⟩, List.mem_of_getElem? (i := 292) (by decide +kernel), List.mem_of_getElem? (i := 475) (by decide +kernel), List.mem_of_getElem? (i := 476) (by decide +kernel)⟩
def lw_privs_2 : List (MethodName × Nat) := [(⟨"NamedStreamsModel", "draw", "(JIIJ)J"⟩, 21), (⟨"NamedStreamsModel", "sum", "()J"⟩, 21), (⟨"NamedStreamsModel", "picked", "(JIIJ)I"⟩, 21), (⟨"NamedStreamsModel", "begin", "(JI)I"⟩, 21), (⟨"NamedStreamsModel", "isStream", "(I)Z"⟩, 21)]
theorem lw_r2 : ∀ q ∈ lw_privs_2, lw_okq q := List.forall_mem_cons.mpr ⟨lw_p16, List.forall_mem_cons.mpr ⟨lw_p17, List.forall_mem_cons.mpr ⟨lw_p18, List.forall_mem_cons.mpr ⟨lw_p19, List.forall_mem_cons.mpr ⟨lw_p20, fun _ h => absurd h List.not_mem_nil⟩⟩⟩⟩⟩
def lw_privs : List (MethodName × Nat) := lw_privs_1 ++ (lw_privs_2)
def lw_tbl : List Cond := k2_sels lw_privs ++ tables_1
theorem lw_privs_ok : ∀ q ∈ lw_privs, lw_okq q := by
  show ∀ q ∈ lw_privs_1 ++ (lw_privs_2), lw_okq q
  exact List.forall_mem_append.mpr ⟨lw_r1, lw_r2⟩
theorem goodIn_r {big : List Cond} (ws : List Cond) (ps : List Nat) (hp : ws = ps.filterMap (fun i => big[i]?)) (h : ws.all goodWord = true) : GoodIn big ws := by
  intro w hw
  have h1 := List.all_eq_true.mp h w hw
  rw [hp] at hw
  obtain ⟨i, -, hi⟩ := List.mem_filterMap.mp hw
  have hm : w ∈ big := by first | exact List.mem_of_getElem? hi | exact List.getElem?_mem hi
  exact ⟨hm, good_of_word h1⟩
theorem goodIn_app {big a b : List Cond} (ha : GoodIn big a) (hb : GoodIn big b) : GoodIn big (a ++ b) := fun w h => (List.mem_append.mp h).elim (ha w) (hb w)
theorem goodIn_ca {big a b : List Cond} {c : Cond} (ha : GoodIn big (c :: a)) (hb : GoodIn big b) : GoodIn big (c :: (a ++ b)) := fun w h => (List.mem_cons.mp h).elim (fun e => ha w (List.mem_cons.mpr (Or.inl e))) (fun h => (List.mem_append.mp h).elim (fun h => ha w (List.mem_cons.mpr (Or.inr h))) (hb w))
theorem goodIn_sub {big ws : List Cond} (hm : ∀ w ∈ ws, w ∈ big) (h : ws.all goodWord = true) : GoodIn big ws := fun w hw => ⟨hm w hw, good_of_word (List.all_eq_true.mp h w hw)⟩

def RX0 : String := "NamedStreams$Kept"
def TX0 : u_T := fun k => match k with
  | 0 => ("NamedStreams$Kept", "stream", "I", false)
  | 1 => ("NamedStreams$Kept", "place", "I", false)
  | _ => ("NamedStreams$Kept", "splits", "I", false)
def tyX0 : Nat → FieldType := fun k => match k with
  | 0 => .int
  | 1 => .int
  | _ => .int
abbrev wsX00 : List Cond := u_ws RX0 TX0 3
theorem nmX0 : ∀ a, a < 3 → ∀ b, b < 3 → a ≠ b → (TX0 a).2.1 ≠ (TX0 b).2.1 := by decide +kernel
theorem tyX0_ok : ∀ k, k < 3 → parseFieldDescriptor (TX0 k).2.2.1 = some (tyX0 k) := by decide +kernel
abbrev cX0_init : ByteArray := prog_2_method_1_code
def yX0_init : MethodName := ⟨RX0, "<init>", "()V"⟩
def RX1 : String := "NamedStreams$Paths"
def TX1 : u_T := fun k => match k with
  | 0 => ("NamedStreams$Paths", "rows", "[J", true)
  | 1 => ("NamedStreams$Paths", "lengths", "[I", true)
  | 2 => ("NamedStreams$Paths", "keys", "[J", true)
  | 3 => ("NamedStreams$Paths", "child", "[J", true)
  | _ => ("NamedStreams$Paths", "size", "I", false)
def tyX1 : Nat → FieldType := fun k => match k with
  | 0 => .array .long
  | 1 => .array .int
  | 2 => .array .long
  | 3 => .array .long
  | _ => .int
abbrev wsX10 : List Cond := u_ws RX1 TX1 5
theorem nmX1 : ∀ a, a < 5 → ∀ b, b < 5 → a ≠ b → (TX1 a).2.1 ≠ (TX1 b).2.1 := by decide +kernel
theorem tyX1_ok : ∀ k, k < 5 → parseFieldDescriptor (TX1 k).2.2.1 = some (tyX1 k) := by decide +kernel
abbrev cX1_init : ByteArray := prog_3_method_1_code
def yX1_init : MethodName := ⟨RX1, "<init>", "()V"⟩
abbrev cX1_has : ByteArray := prog_3_method_2_code
def yX1_has : MethodName := ⟨RX1, "has", "(I)Z"⟩
abbrev cX1_enter : ByteArray := prog_3_method_3_code
def yX1_enter : MethodName := ⟨RX1, "enter", "([JI)I"⟩
abbrev cX1_enterChild : ByteArray := prog_3_method_4_code
def yX1_enterChild : MethodName := ⟨RX1, "enterChild", "(IJ)I"⟩
abbrev cX1_isLike : ByteArray := prog_3_method_5_code
def yX1_isLike : MethodName := ⟨RX1, "isLike", "(I[JI)Z"⟩
abbrev cX1_add : ByteArray := prog_3_method_6_code
def yX1_add : MethodName := ⟨RX1, "add", "([JI)I"⟩
def RX2 : String := "NamedStreams$Stream"
def TX2 : u_T := fun k => match k with
  | 0 => ("NamedStreams$Stream", "run", "J", true)
  | 1 => ("NamedStreams$Stream", "path", "I", true)
  | 2 => ("NamedStreams$Stream", "place", "I", false)
  | _ => ("NamedStreams$Stream", "splits", "I", false)
def tyX2 : Nat → FieldType := fun k => match k with
  | 0 => .long
  | 1 => .int
  | 2 => .int
  | _ => .int
abbrev wsX20 : List Cond := u_ws RX2 TX2 4
theorem nmX2 : ∀ a, a < 4 → ∀ b, b < 4 → a ≠ b → (TX2 a).2.1 ≠ (TX2 b).2.1 := by decide +kernel
theorem tyX2_ok : ∀ k, k < 4 → parseFieldDescriptor (TX2 k).2.2.1 = some (tyX2 k) := by decide +kernel
abbrev cX2_init : ByteArray := prog_4_method_1_code
def yX2_init : MethodName := ⟨RX2, "<init>", "(JI)V"⟩
def RX3 : String := "NamedStreams"
def TX3 : u_T := fun k => match k with
  | 0 => ("NamedStreams", "seed", "J", true)
  | 1 => ("NamedStreams", "toldParts", "[J", true)
  | 2 => ("NamedStreams", "toldCount", "I", false)
  | 3 => ("NamedStreams", "paths", "LNamedStreams$Paths;", true)
  | 4 => ("NamedStreams", "weights", "[J", true)
  | 5 => ("NamedStreams", "order", "[I", true)
  | 6 => ("NamedStreams", "streams", "[LNamedStreams$Stream;", true)
  | 7 => ("NamedStreams", "streamCount", "I", false)
  | 8 => ("NamedStreams", "kept", "[LNamedStreams$Kept;", true)
  | 9 => ("NamedStreams", "latestTries", "I", false)
  | _ => ("NamedStreams", "latestStatus", "I", false)
def tyX3 : Nat → FieldType := fun k => match k with
  | 0 => .long
  | 1 => .array .long
  | 2 => .int
  | 3 => .object "NamedStreams$Paths"
  | 4 => .array .long
  | 5 => .array .int
  | 6 => .array (.object "NamedStreams$Stream")
  | 7 => .int
  | 8 => .array (.object "NamedStreams$Kept")
  | 9 => .int
  | _ => .int
abbrev wsX30 : List Cond := u_ws RX3 TX3 11
theorem nmX3 : ∀ a, a < 11 → ∀ b, b < 11 → a ≠ b → (TX3 a).2.1 ≠ (TX3 b).2.1 := by decide +kernel
theorem tyX3_ok : ∀ k, k < 11 → parseFieldDescriptor (TX3 k).2.2.1 = some (tyX3 k) := by decide +kernel
abbrev cX3_init : ByteArray := prog_1_method_1_code
def yX3_init : MethodName := ⟨RX3, "<init>", "(J)V"⟩
abbrev cX3_part : ByteArray := prog_1_method_2_code
def yX3_part : MethodName := ⟨RX3, "part", "(J)I"⟩
abbrev cX3_path : ByteArray := prog_1_method_3_code
def yX3_path : MethodName := ⟨RX3, "path", "()I"⟩
abbrev cX3_key : ByteArray := prog_1_method_4_code
def yX3_key : MethodName := ⟨RX3, "key", "(I)J"⟩
abbrev cX3_word : ByteArray := prog_1_method_5_code
def yX3_word : MethodName := ⟨RX3, "word", "(JIJ)J"⟩
abbrev cX3_span : ByteArray := prog_1_method_6_code
def yX3_span : MethodName := ⟨RX3, "span", "(JIIJ)J"⟩
abbrev cX3_fraction : ByteArray := prog_1_method_7_code
def yX3_fraction : MethodName := ⟨RX3, "fraction", "(JIIJJ)I"⟩
abbrev cX3_weight : ByteArray := prog_1_method_8_code
def yX3_weight : MethodName := ⟨RX3, "weight", "(IJ)I"⟩
abbrev cX3_pick : ByteArray := prog_1_method_9_code
def yX3_pick : MethodName := ⟨RX3, "pick", "(JII)I"⟩
abbrev cX3_permuted : ByteArray := prog_1_method_10_code
def yX3_permuted : MethodName := ⟨RX3, "permuted", "(JIIII)I"⟩
abbrev cX3_tries : ByteArray := prog_1_method_11_code
def yX3_tries : MethodName := ⟨RX3, "tries", "()I"⟩
abbrev cX3_status : ByteArray := prog_1_method_12_code
def yX3_status : MethodName := ⟨RX3, "status", "()I"⟩
abbrev cX3_open : ByteArray := prog_1_method_13_code
def yX3_open : MethodName := ⟨RX3, "open", "(JI)I"⟩
abbrev cX3_next : ByteArray := prog_1_method_14_code
def yX3_next : MethodName := ⟨RX3, "next", "(IJ)J"⟩
abbrev cX3_nextPick : ByteArray := prog_1_method_15_code
def yX3_nextPick : MethodName := ⟨RX3, "nextPick", "(I)I"⟩
abbrev cX3_split : ByteArray := prog_1_method_16_code
def yX3_split : MethodName := ⟨RX3, "split", "(I)I"⟩
abbrev cX3_skip : ByteArray := prog_1_method_17_code
def yX3_skip : MethodName := ⟨RX3, "skip", "(II)I"⟩
abbrev cX3_keep : ByteArray := prog_1_method_18_code
def yX3_keep : MethodName := ⟨RX3, "keep", "(II)I"⟩
abbrev cX3_back : ByteArray := prog_1_method_19_code
def yX3_back : MethodName := ⟨RX3, "back", "(I)I"⟩
abbrev cX3_told : ByteArray := prog_1_method_20_code
def yX3_told : MethodName := ⟨RX3, "told", "(II)I"⟩
abbrev cX3_counted : ByteArray := prog_1_method_21_code
def yX3_counted : MethodName := ⟨RX3, "counted", "(III)I"⟩
abbrev cX3_count : ByteArray := prog_1_method_22_code
def yX3_count : MethodName := ⟨RX3, "count", "(I)I"⟩
abbrev cX3_mix : ByteArray := prog_1_method_23_code
def yX3_mix : MethodName := ⟨RX3, "mix", "(J)J"⟩
abbrev cX3_baseOf : ByteArray := prog_1_method_24_code
def yX3_baseOf : MethodName := ⟨RX3, "baseOf", "(JI)J"⟩
abbrev cX3_wordAt : ByteArray := prog_1_method_25_code
def yX3_wordAt : MethodName := ⟨RX3, "wordAt", "(JJ)J"⟩
abbrev cX3_firstCounter : ByteArray := prog_1_method_26_code
def yX3_firstCounter : MethodName := ⟨RX3, "firstCounter", "(I)J"⟩
abbrev cX3_belowUnsigned : ByteArray := prog_1_method_27_code
def yX3_belowUnsigned : MethodName := ⟨RX3, "belowUnsigned", "(JJ)Z"⟩
abbrev cX3_remainderUnsigned : ByteArray := prog_1_method_28_code
def yX3_remainderUnsigned : MethodName := ⟨RX3, "remainderUnsigned", "(JJ)J"⟩
abbrev cX3_drawSpan : ByteArray := prog_1_method_29_code
def yX3_drawSpan : MethodName := ⟨RX3, "drawSpan", "(JIIJ)J"⟩
abbrev cX3_drawFraction : ByteArray := prog_1_method_30_code
def yX3_drawFraction : MethodName := ⟨RX3, "drawFraction", "(JIIJJ)I"⟩
abbrev cX3_sumOfWeights : ByteArray := prog_1_method_31_code
def yX3_sumOfWeights : MethodName := ⟨RX3, "sumOfWeights", "()J"⟩
abbrev cX3_drawPick : ByteArray := prog_1_method_32_code
def yX3_drawPick : MethodName := ⟨RX3, "drawPick", "(JII)I"⟩
abbrev cX3_weightReaching : ByteArray := prog_1_method_33_code
def yX3_weightReaching : MethodName := ⟨RX3, "weightReaching", "(J)I"⟩
abbrev cX3_drawPermutation : ByteArray := prog_1_method_34_code
def yX3_drawPermutation : MethodName := ⟨RX3, "drawPermutation", "(JIII)Z"⟩
abbrev cX3_streamAt : ByteArray := prog_1_method_35_code
def yX3_streamAt : MethodName := ⟨RX3, "streamAt", "(I)LNamedStreams$Stream;"⟩
abbrev cX3_addStream : ByteArray := prog_1_method_36_code
def yX3_addStream : MethodName := ⟨RX3, "addStream", "(JI)I"⟩
def RX4 : String := "NamedStreamsModel"
def TX4 : u_T := fun k => match k with
  | 0 => ("NamedStreamsModel", "seed", "J", true)
  | 1 => ("NamedStreamsModel", "paths", "I", false)
  | 2 => ("NamedStreamsModel", "part", "[J", true)
  | 3 => ("NamedStreamsModel", "many", "[I", true)
  | 4 => ("NamedStreamsModel", "told", "[J", true)
  | 5 => ("NamedStreamsModel", "toldMany", "I", false)
  | 6 => ("NamedStreamsModel", "status", "I", false)
  | 7 => ("NamedStreamsModel", "tries", "I", false)
  | 8 => ("NamedStreamsModel", "weights", "[J", true)
  | 9 => ("NamedStreamsModel", "streams", "I", false)
  | 10 => ("NamedStreamsModel", "run", "[J", true)
  | 11 => ("NamedStreamsModel", "pathOf", "[I", true)
  | 12 => ("NamedStreamsModel", "place", "[I", true)
  | 13 => ("NamedStreamsModel", "splits", "[I", true)
  | 14 => ("NamedStreamsModel", "keptStream", "[I", true)
  | 15 => ("NamedStreamsModel", "keptPlace", "[I", true)
  | 16 => ("NamedStreamsModel", "keptSplits", "[I", true)
  | 17 => ("NamedStreamsModel", "isKept", "[Z", true)
  | 18 => ("NamedStreamsModel", "isGreat", "Z", false)
  | 19 => ("NamedStreamsModel", "order", "[I", true)
  | _ => ("NamedStreamsModel", "aside", "[J", true)
def tyX4 : Nat → FieldType := fun k => match k with
  | 0 => .long
  | 1 => .int
  | 2 => .array .long
  | 3 => .array .int
  | 4 => .array .long
  | 5 => .int
  | 6 => .int
  | 7 => .int
  | 8 => .array .long
  | 9 => .int
  | 10 => .array .long
  | 11 => .array .int
  | 12 => .array .int
  | 13 => .array .int
  | 14 => .array .int
  | 15 => .array .int
  | 16 => .array .int
  | 17 => .array .boolean
  | 18 => .boolean
  | 19 => .array .int
  | _ => .array .long
abbrev wsX40 : List Cond := u_ws RX4 TX4 21
theorem nmX4 : ∀ a, a < 21 → ∀ b, b < 21 → a ≠ b → (TX4 a).2.1 ≠ (TX4 b).2.1 := by decide +kernel
theorem tyX4_ok : ∀ k, k < 21 → parseFieldDescriptor (TX4 k).2.2.1 = some (tyX4 k) := by decide +kernel
abbrev cX4_init : ByteArray := prog_6_method_1_code
def yX4_init : MethodName := ⟨RX4, "<init>", "(J)V"⟩
abbrev cX4_in : ByteArray := prog_6_method_3_code
def yX4_in : MethodName := ⟨RX4, "in", "(JJJ)Z"⟩
abbrev cX4_mix : ByteArray := prog_6_method_4_code
def yX4_mix : MethodName := ⟨RX4, "mix", "(J)J"⟩
abbrev cX4_isBelow : ByteArray := prog_6_method_5_code
def yX4_isBelow : MethodName := ⟨RX4, "isBelow", "(JJ)Z"⟩
abbrev cX4_rest : ByteArray := prog_6_method_6_code
def yX4_rest : MethodName := ⟨RX4, "rest", "(JJ)J"⟩
abbrev cX4_part : ByteArray := prog_6_method_7_code
def yX4_part : MethodName := ⟨RX4, "part", "(J)I"⟩
abbrev cX4_likePath : ByteArray := prog_6_method_8_code
def yX4_likePath : MethodName := ⟨RX4, "likePath", "()I"⟩
abbrev cX4_takePath : ByteArray := prog_6_method_9_code
def yX4_takePath : MethodName := ⟨RX4, "takePath", "()I"⟩
abbrev cX4_path : ByteArray := prog_6_method_10_code
def yX4_path : MethodName := ⟨RX4, "path", "()I"⟩
abbrev cX4_isPath : ByteArray := prog_6_method_11_code
def yX4_isPath : MethodName := ⟨RX4, "isPath", "(I)Z"⟩
abbrev cX4_keyOf : ByteArray := prog_6_method_12_code
def yX4_keyOf : MethodName := ⟨RX4, "keyOf", "(I)J"⟩
abbrev cX4_key : ByteArray := prog_6_method_13_code
def yX4_key : MethodName := ⟨RX4, "key", "(I)J"⟩
abbrev cX4_wordOf : ByteArray := prog_6_method_14_code
def yX4_wordOf : MethodName := ⟨RX4, "wordOf", "(JIJ)J"⟩
abbrev cX4_word : ByteArray := prog_6_method_15_code
def yX4_word : MethodName := ⟨RX4, "word", "(JIJ)J"⟩
abbrev cX4_draw : ByteArray := prog_6_method_16_code
def yX4_draw : MethodName := ⟨RX4, "draw", "(JIIJ)J"⟩
abbrev cX4_span : ByteArray := prog_6_method_17_code
def yX4_span : MethodName := ⟨RX4, "span", "(JIIJ)J"⟩
abbrev cX4_fraction : ByteArray := prog_6_method_18_code
def yX4_fraction : MethodName := ⟨RX4, "fraction", "(JIIJJ)I"⟩
abbrev cX4_weight : ByteArray := prog_6_method_19_code
def yX4_weight : MethodName := ⟨RX4, "weight", "(IJ)I"⟩
abbrev cX4_sum : ByteArray := prog_6_method_20_code
def yX4_sum : MethodName := ⟨RX4, "sum", "()J"⟩
abbrev cX4_picked : ByteArray := prog_6_method_21_code
def yX4_picked : MethodName := ⟨RX4, "picked", "(JIIJ)I"⟩
abbrev cX4_pick : ByteArray := prog_6_method_22_code
def yX4_pick : MethodName := ⟨RX4, "pick", "(JII)I"⟩
abbrev cX4_permuted : ByteArray := prog_6_method_23_code
def yX4_permuted : MethodName := ⟨RX4, "permuted", "(JIIII)I"⟩
abbrev cX4_tries : ByteArray := prog_6_method_24_code
def yX4_tries : MethodName := ⟨RX4, "tries", "()I"⟩
abbrev cX4_status : ByteArray := prog_6_method_25_code
def yX4_status : MethodName := ⟨RX4, "status", "()I"⟩
abbrev cX4_isStream : ByteArray := prog_6_method_26_code
def yX4_isStream : MethodName := ⟨RX4, "isStream", "(I)Z"⟩
abbrev cX4_begin : ByteArray := prog_6_method_27_code
def yX4_begin : MethodName := ⟨RX4, "begin", "(JI)I"⟩
abbrev cX4_open : ByteArray := prog_6_method_28_code
def yX4_open : MethodName := ⟨RX4, "open", "(JI)I"⟩
abbrev cX4_next : ByteArray := prog_6_method_29_code
def yX4_next : MethodName := ⟨RX4, "next", "(IJ)J"⟩
abbrev cX4_nextPick : ByteArray := prog_6_method_30_code
def yX4_nextPick : MethodName := ⟨RX4, "nextPick", "(I)I"⟩
abbrev cX4_split : ByteArray := prog_6_method_31_code
def yX4_split : MethodName := ⟨RX4, "split", "(I)I"⟩
abbrev cX4_skip : ByteArray := prog_6_method_32_code
def yX4_skip : MethodName := ⟨RX4, "skip", "(II)I"⟩
abbrev cX4_keep : ByteArray := prog_6_method_33_code
def yX4_keep : MethodName := ⟨RX4, "keep", "(II)I"⟩
abbrev cX4_back : ByteArray := prog_6_method_34_code
def yX4_back : MethodName := ⟨RX4, "back", "(I)I"⟩
abbrev cX4_told : ByteArray := prog_6_method_35_code
def yX4_told : MethodName := ⟨RX4, "told", "(II)I"⟩
abbrev cX4_counted : ByteArray := prog_6_method_36_code
def yX4_counted : MethodName := ⟨RX4, "counted", "(III)I"⟩
abbrev cX4_count : ByteArray := prog_6_method_37_code
def yX4_count : MethodName := ⟨RX4, "count", "(I)I"⟩
def RL : String := "NamedStreamsLaw"
abbrev cL_cell : ByteArray := method_2_code
def yL_cell : MethodName := ⟨RL, "cell", "([II)I"⟩
abbrev cL_law : ByteArray := code
def yL_law : MethodName := ⟨RL, "law", "([I)Z"⟩
def wsX0_init : List Cond := .code yX0_init cX0_init 1 none :: ([.methodLink RX0 1 objectInit, .instanceMethod objectInit, .code objectInit ⟨#[0xb1]⟩ 1 none, .fieldLink RX0 7 "NamedStreams$Kept" "stream" "I", .fieldLink RX0 13 "NamedStreams$Kept" "place" "I", .fieldLink RX0 16 "NamedStreams$Kept" "splits" "I"] ++ wsX00)
def wsX1_init : List Cond := .code yX1_init cX1_init 1 none :: ([.methodLink RX1 3 objectInit, .instanceMethod objectInit, .code objectInit ⟨#[0xb1]⟩ 1 none, .arrayClass .long, .fieldLink RX1 9 "NamedStreams$Paths" "rows" "[J", .arrayClass .int, .fieldLink RX1 15 "NamedStreams$Paths" "lengths" "[I", .fieldLink RX1 19 "NamedStreams$Paths" "keys" "[J", .fieldLink RX1 22 "NamedStreams$Paths" "child" "[J", .fieldLink RX1 25 "NamedStreams$Paths" "size" "I"] ++ wsX10)
def wsX1_has : List Cond := .code yX1_has cX1_has 2 (some .boolean) :: ([.fieldLink RX1 25 "NamedStreams$Paths" "size" "I"] ++ wsX10)
def wsX1_isLike : List Cond := .code yX1_isLike cX1_isLike 5 (some .boolean) :: ([.fieldLink RX1 15 "NamedStreams$Paths" "lengths" "[I", .fieldLink RX1 9 "NamedStreams$Paths" "rows" "[J"] ++ wsX10)
def wsX3_mix : List Cond := .code yX3_mix cX3_mix 4 (some .long) :: ([.constantLong RX3 131 (-4658895280553007687), .constantLong RX3 133 (-7723592293110705685)])
def wsX1_add : List Cond := .code yX1_add cX1_add 7 (some .int) :: ([.fieldLink RX1 25 "NamedStreams$Paths" "size" "I", .fieldLink RX1 9 "NamedStreams$Paths" "rows" "[J", .constantLong RX1 40 (-7046029254386353131), .fieldLink RX1 15 "NamedStreams$Paths" "lengths" "[I", .fieldLink RX1 19 "NamedStreams$Paths" "keys" "[J", .static yX3_mix, .initialized RX3, .code yX3_mix cX3_mix 4 (some .long), .constantLong RX3 131 (-4658895280553007687), .constantLong RX3 133 (-7723592293110705685)] ++ wsX10)
def wsX1_enter : List Cond := .code yX1_enter cX1_enter 4 (some .int) :: ([.fieldLink RX1 25 "NamedStreams$Paths" "size" "I", .methodLink RX1 29 yX1_isLike, .instanceMethod yX1_isLike, .selects RX1 yX1_isLike yX1_isLike, .initialized RX1, .code yX1_isLike cX1_isLike 5 (some .boolean), .fieldLink RX1 15 "NamedStreams$Paths" "lengths" "[I", .fieldLink RX1 9 "NamedStreams$Paths" "rows" "[J", .methodLink RX1 33 yX1_add, .instanceMethod yX1_add, .selects RX1 yX1_add yX1_add, .code yX1_add cX1_add 7 (some .int), .constantLong RX1 40 (-7046029254386353131), .fieldLink RX1 19 "NamedStreams$Paths" "keys" "[J", .static yX3_mix, .initialized RX3, .code yX3_mix cX3_mix 4 (some .long), .constantLong RX3 131 (-4658895280553007687), .constantLong RX3 133 (-7723592293110705685)] ++ wsX10)
def wsX1_enterChild : List Cond := .code yX1_enterChild cX1_enterChild 6 (some .int) :: ([.fieldLink RX1 15 "NamedStreams$Paths" "lengths" "[I", .fieldLink RX1 22 "NamedStreams$Paths" "child" "[J", .fieldLink RX1 9 "NamedStreams$Paths" "rows" "[J", .methodLink RX1 37 yX1_enter, .instanceMethod yX1_enter, .selects RX1 yX1_enter yX1_enter, .initialized RX1, .code yX1_enter cX1_enter 4 (some .int), .fieldLink RX1 25 "NamedStreams$Paths" "size" "I", .methodLink RX1 29 yX1_isLike, .instanceMethod yX1_isLike, .selects RX1 yX1_isLike yX1_isLike, .code yX1_isLike cX1_isLike 5 (some .boolean), .methodLink RX1 33 yX1_add, .instanceMethod yX1_add, .selects RX1 yX1_add yX1_add, .code yX1_add cX1_add 7 (some .int), .constantLong RX1 40 (-7046029254386353131), .fieldLink RX1 19 "NamedStreams$Paths" "keys" "[J", .static yX3_mix, .initialized RX3, .code yX3_mix cX3_mix 4 (some .long), .constantLong RX3 131 (-4658895280553007687), .constantLong RX3 133 (-7723592293110705685)] ++ wsX10)
def wsX2_init : List Cond := .code yX2_init cX2_init 4 none :: ([.methodLink RX2 1 objectInit, .instanceMethod objectInit, .code objectInit ⟨#[0xb1]⟩ 1 none, .fieldLink RX2 7 "NamedStreams$Stream" "place" "I", .fieldLink RX2 13 "NamedStreams$Stream" "splits" "I", .fieldLink RX2 16 "NamedStreams$Stream" "run" "J", .fieldLink RX2 20 "NamedStreams$Stream" "path" "I"] ++ wsX20)
def wsX3_init_r1 : List Cond := [Cond.methodLink RX3 1 objectInit, Cond.instanceMethod objectInit, Cond.code objectInit ⟨#[0xb1]⟩ 1 none, Cond.arrayClass .long, Cond.fieldLink RX3 9 "NamedStreams" "toldParts" "[J", Cond.fieldLink RX3 13 "NamedStreams" "toldCount" "I", Cond.classLink RX3 17 RX1, Cond.instantiable RX1 5, Cond.initialized RX1, Cond.fieldLink RX3 20 "NamedStreams" "paths" "LNamedStreams$Paths;", Cond.fieldLink RX3 24 "NamedStreams" "weights" "[J", Cond.arrayClass .int, Cond.fieldLink RX3 27 "NamedStreams" "order" "[I", Cond.classLink RX3 31 RX2, Cond.fieldLink RX3 33 "NamedStreams" "streams" "[LNamedStreams$Stream;", Cond.fieldLink RX3 37 "NamedStreams" "streamCount" "I", Cond.classLink RX3 40 RX0, Cond.fieldLink RX3 42 "NamedStreams" "kept" "[LNamedStreams$Kept;", Cond.fieldLink RX3 46 "NamedStreams" "latestTries" "I", Cond.fieldLink RX3 49 "NamedStreams" "latestStatus" "I", Cond.fieldLink RX3 52 "NamedStreams" "seed" "J", Cond.instanceMethod yX1_init, Cond.code yX1_init cX1_init 1 none, Cond.methodLink RX1 3 objectInit]
def wsX3_init_r2 : List Cond := [Cond.fieldLink RX1 9 "NamedStreams$Paths" "rows" "[J", Cond.fieldLink RX1 15 "NamedStreams$Paths" "lengths" "[I", Cond.fieldLink RX1 19 "NamedStreams$Paths" "keys" "[J", Cond.fieldLink RX1 22 "NamedStreams$Paths" "child" "[J", Cond.fieldLink RX1 25 "NamedStreams$Paths" "size" "I"]
def wsX3_init : List Cond := .code yX3_init cX3_init 3 none :: ((wsX3_init_r1 ++ wsX3_init_r2) ++ wsX30 ++ wsX10)
def wsX3_part : List Cond := .code yX3_part cX3_part 3 (some .int) :: ([.fieldLink RX3 13 "NamedStreams" "toldCount" "I", .fieldLink RX3 9 "NamedStreams" "toldParts" "[J"] ++ wsX30)
def wsX3_path_r1 : List Cond := [Cond.fieldLink RX3 13 "NamedStreams" "toldCount" "I", Cond.fieldLink RX3 20 "NamedStreams" "paths" "LNamedStreams$Paths;", Cond.fieldLink RX3 9 "NamedStreams" "toldParts" "[J", Cond.methodLink RX3 56 yX1_enter, Cond.instanceMethod yX1_enter, Cond.selects RX1 yX1_enter yX1_enter, Cond.initialized RX1, Cond.code yX1_enter cX1_enter 4 (some .int), Cond.fieldLink RX1 25 "NamedStreams$Paths" "size" "I", Cond.methodLink RX1 29 yX1_isLike, Cond.instanceMethod yX1_isLike, Cond.selects RX1 yX1_isLike yX1_isLike, Cond.code yX1_isLike cX1_isLike 5 (some .boolean), Cond.fieldLink RX1 15 "NamedStreams$Paths" "lengths" "[I", Cond.fieldLink RX1 9 "NamedStreams$Paths" "rows" "[J", Cond.methodLink RX1 33 yX1_add, Cond.instanceMethod yX1_add, Cond.selects RX1 yX1_add yX1_add, Cond.code yX1_add cX1_add 7 (some .int), Cond.constantLong RX1 40 (-7046029254386353131), Cond.fieldLink RX1 19 "NamedStreams$Paths" "keys" "[J", Cond.static yX3_mix, Cond.initialized RX3, Cond.code yX3_mix cX3_mix 4 (some .long)]
def wsX3_path_r2 : List Cond := [Cond.constantLong RX3 131 (-4658895280553007687), Cond.constantLong RX3 133 (-7723592293110705685)]
def wsX3_path : List Cond := .code yX3_path cX3_path 2 (some .int) :: ((wsX3_path_r1 ++ wsX3_path_r2) ++ wsX30 ++ wsX10)
def wsX3_key : List Cond := .code yX3_key cX3_key 2 (some .long) :: ([.fieldLink RX3 20 "NamedStreams" "paths" "LNamedStreams$Paths;", .fieldLink RX3 49 "NamedStreams" "latestStatus" "I", .fieldLink RX3 64 "NamedStreams$Paths" "keys" "[J", .methodLink RX3 60 yX1_has, .instanceMethod yX1_has, .selects RX1 yX1_has yX1_has, .initialized RX1, .code yX1_has cX1_has 2 (some .boolean), .fieldLink RX1 25 "NamedStreams$Paths" "size" "I"] ++ wsX30 ++ wsX10)
def wsX3_baseOf : List Cond := .code yX3_baseOf cX3_baseOf 4 (some .long) :: ([.fieldLink RX3 52 "NamedStreams" "seed" "J", .constantLong RX3 135 (-7046029254386353131), .fieldLink RX3 20 "NamedStreams" "paths" "LNamedStreams$Paths;", .fieldLink RX3 64 "NamedStreams$Paths" "keys" "[J", .methodLink RX3 137 yX3_mix, .static yX3_mix, .initialized RX3, .code yX3_mix cX3_mix 4 (some .long), .constantLong RX3 131 (-4658895280553007687), .constantLong RX3 133 (-7723592293110705685)] ++ wsX30 ++ wsX10)
def wsX3_wordAt : List Cond := .code yX3_wordAt cX3_wordAt 4 (some .long) :: ([.constantLong RX3 135 (-7046029254386353131), .methodLink RX3 137 yX3_mix, .static yX3_mix, .initialized RX3, .code yX3_mix cX3_mix 4 (some .long), .constantLong RX3 131 (-4658895280553007687), .constantLong RX3 133 (-7723592293110705685)])
def wsX3_word : List Cond := .code yX3_word cX3_word 6 (some .long) :: ([.fieldLink RX3 20 "NamedStreams" "paths" "LNamedStreams$Paths;", .fieldLink RX3 49 "NamedStreams" "latestStatus" "I", .methodLink RX3 60 yX1_has, .instanceMethod yX1_has, .selects RX1 yX1_has yX1_has, .initialized RX1, .code yX1_has cX1_has 2 (some .boolean), .fieldLink RX1 25 "NamedStreams$Paths" "size" "I", .methodLink RX3 67 yX3_baseOf, .instanceMethod yX3_baseOf, .selects RX3 yX3_baseOf yX3_baseOf, .initialized RX3, .code yX3_baseOf cX3_baseOf 4 (some .long), .fieldLink RX3 52 "NamedStreams" "seed" "J", .constantLong RX3 135 (-7046029254386353131), .fieldLink RX3 64 "NamedStreams$Paths" "keys" "[J", .methodLink RX3 137 yX3_mix, .static yX3_mix, .code yX3_mix cX3_mix 4 (some .long), .constantLong RX3 131 (-4658895280553007687), .constantLong RX3 133 (-7723592293110705685), .methodLink RX3 71 yX3_wordAt, .static yX3_wordAt, .code yX3_wordAt cX3_wordAt 4 (some .long)] ++ wsX30 ++ wsX10)
def wsX3_firstCounter : List Cond := .code yX3_firstCounter cX3_firstCounter 1 (some .long) :: ([.constantLong RX3 141 (32)])
def wsX3_belowUnsigned : List Cond := .code yX3_belowUnsigned cX3_belowUnsigned 4 (some .boolean) :: ([.constantLong RX3 143 (-9223372036854775808)])
def wsX3_remainderUnsigned : List Cond := .code yX3_remainderUnsigned cX3_remainderUnsigned 8 (some .long) :: ([.methodLink RX3 145 yX3_belowUnsigned, .static yX3_belowUnsigned, .initialized RX3, .code yX3_belowUnsigned cX3_belowUnsigned 4 (some .boolean), .constantLong RX3 143 (-9223372036854775808)])
def wsX3_drawSpan_r1 : List Cond := [Cond.fieldLink RX3 46 "NamedStreams" "latestTries" "I", Cond.constantLong RX3 156 (-3), Cond.methodLink RX3 67 yX3_baseOf, Cond.instanceMethod yX3_baseOf, Cond.selects RX3 yX3_baseOf yX3_baseOf, Cond.initialized RX3, Cond.code yX3_baseOf cX3_baseOf 4 (some .long), Cond.fieldLink RX3 52 "NamedStreams" "seed" "J", Cond.constantLong RX3 135 (-7046029254386353131), Cond.fieldLink RX3 20 "NamedStreams" "paths" "LNamedStreams$Paths;", Cond.fieldLink RX3 64 "NamedStreams$Paths" "keys" "[J", Cond.methodLink RX3 137 yX3_mix, Cond.static yX3_mix, Cond.code yX3_mix cX3_mix 4 (some .long), Cond.constantLong RX3 131 (-4658895280553007687), Cond.constantLong RX3 133 (-7723592293110705685), Cond.methodLink RX3 149 yX3_firstCounter, Cond.static yX3_firstCounter, Cond.code yX3_firstCounter cX3_firstCounter 1 (some .long), Cond.constantLong RX3 141 (32), Cond.methodLink RX3 153 yX3_remainderUnsigned, Cond.static yX3_remainderUnsigned, Cond.code yX3_remainderUnsigned cX3_remainderUnsigned 8 (some .long), Cond.methodLink RX3 145 yX3_belowUnsigned]
def wsX3_drawSpan_r2 : List Cond := [Cond.static yX3_belowUnsigned, Cond.code yX3_belowUnsigned cX3_belowUnsigned 4 (some .boolean), Cond.constantLong RX3 143 (-9223372036854775808), Cond.methodLink RX3 71 yX3_wordAt, Cond.static yX3_wordAt, Cond.code yX3_wordAt cX3_wordAt 4 (some .long)]
def wsX3_drawSpan : List Cond := .code yX3_drawSpan cX3_drawSpan 16 (some .long) :: ((wsX3_drawSpan_r1 ++ wsX3_drawSpan_r2) ++ wsX30 ++ wsX10)
def wsX3_span_r1 : List Cond := [Cond.constantLong RX3 75 (-4), Cond.fieldLink RX3 20 "NamedStreams" "paths" "LNamedStreams$Paths;", Cond.constantLong RX3 77 (-1), Cond.methodLink RX3 60 yX1_has, Cond.instanceMethod yX1_has, Cond.selects RX1 yX1_has yX1_has, Cond.initialized RX1, Cond.code yX1_has cX1_has 2 (some .boolean), Cond.fieldLink RX1 25 "NamedStreams$Paths" "size" "I", Cond.methodLink RX3 79 yX3_drawSpan, Cond.instanceMethod yX3_drawSpan, Cond.selects RX3 yX3_drawSpan yX3_drawSpan, Cond.initialized RX3, Cond.code yX3_drawSpan cX3_drawSpan 16 (some .long), Cond.fieldLink RX3 46 "NamedStreams" "latestTries" "I", Cond.constantLong RX3 156 (-3), Cond.methodLink RX3 67 yX3_baseOf, Cond.instanceMethod yX3_baseOf, Cond.selects RX3 yX3_baseOf yX3_baseOf, Cond.code yX3_baseOf cX3_baseOf 4 (some .long), Cond.fieldLink RX3 52 "NamedStreams" "seed" "J", Cond.constantLong RX3 135 (-7046029254386353131), Cond.fieldLink RX3 64 "NamedStreams$Paths" "keys" "[J", Cond.methodLink RX3 137 yX3_mix]
def wsX3_span_r2 : List Cond := [Cond.static yX3_mix, Cond.code yX3_mix cX3_mix 4 (some .long), Cond.constantLong RX3 131 (-4658895280553007687), Cond.constantLong RX3 133 (-7723592293110705685), Cond.methodLink RX3 149 yX3_firstCounter, Cond.static yX3_firstCounter, Cond.code yX3_firstCounter cX3_firstCounter 1 (some .long), Cond.constantLong RX3 141 (32), Cond.methodLink RX3 153 yX3_remainderUnsigned, Cond.static yX3_remainderUnsigned, Cond.code yX3_remainderUnsigned cX3_remainderUnsigned 8 (some .long), Cond.methodLink RX3 145 yX3_belowUnsigned, Cond.static yX3_belowUnsigned, Cond.code yX3_belowUnsigned cX3_belowUnsigned 4 (some .boolean), Cond.constantLong RX3 143 (-9223372036854775808), Cond.methodLink RX3 71 yX3_wordAt, Cond.static yX3_wordAt, Cond.code yX3_wordAt cX3_wordAt 4 (some .long)]
def wsX3_span : List Cond := .code yX3_span cX3_span 7 (some .long) :: ((wsX3_span_r1 ++ wsX3_span_r2) ++ wsX30 ++ wsX10)
def wsX3_drawFraction : List Cond := .code yX3_drawFraction cX3_drawFraction 21 (some .int) :: ([.fieldLink RX3 46 "NamedStreams" "latestTries" "I", .methodLink RX3 67 yX3_baseOf, .instanceMethod yX3_baseOf, .selects RX3 yX3_baseOf yX3_baseOf, .initialized RX3, .code yX3_baseOf cX3_baseOf 4 (some .long), .fieldLink RX3 52 "NamedStreams" "seed" "J", .constantLong RX3 135 (-7046029254386353131), .fieldLink RX3 20 "NamedStreams" "paths" "LNamedStreams$Paths;", .fieldLink RX3 64 "NamedStreams$Paths" "keys" "[J", .methodLink RX3 137 yX3_mix, .static yX3_mix, .code yX3_mix cX3_mix 4 (some .long), .constantLong RX3 131 (-4658895280553007687), .constantLong RX3 133 (-7723592293110705685), .methodLink RX3 149 yX3_firstCounter, .static yX3_firstCounter, .code yX3_firstCounter cX3_firstCounter 1 (some .long), .constantLong RX3 141 (32), .methodLink RX3 71 yX3_wordAt, .static yX3_wordAt, .code yX3_wordAt cX3_wordAt 4 (some .long)] ++ wsX30 ++ wsX10)
def wsX3_fraction_r1 : List Cond := [Cond.fieldLink RX3 20 "NamedStreams" "paths" "LNamedStreams$Paths;", Cond.methodLink RX3 60 yX1_has, Cond.instanceMethod yX1_has, Cond.selects RX1 yX1_has yX1_has, Cond.initialized RX1, Cond.code yX1_has cX1_has 2 (some .boolean), Cond.fieldLink RX1 25 "NamedStreams$Paths" "size" "I", Cond.methodLink RX3 83 yX3_drawFraction, Cond.instanceMethod yX3_drawFraction, Cond.selects RX3 yX3_drawFraction yX3_drawFraction, Cond.initialized RX3, Cond.code yX3_drawFraction cX3_drawFraction 21 (some .int), Cond.fieldLink RX3 46 "NamedStreams" "latestTries" "I", Cond.methodLink RX3 67 yX3_baseOf, Cond.instanceMethod yX3_baseOf, Cond.selects RX3 yX3_baseOf yX3_baseOf, Cond.code yX3_baseOf cX3_baseOf 4 (some .long), Cond.fieldLink RX3 52 "NamedStreams" "seed" "J", Cond.constantLong RX3 135 (-7046029254386353131), Cond.fieldLink RX3 64 "NamedStreams$Paths" "keys" "[J", Cond.methodLink RX3 137 yX3_mix, Cond.static yX3_mix, Cond.code yX3_mix cX3_mix 4 (some .long), Cond.constantLong RX3 131 (-4658895280553007687)]
def wsX3_fraction_r2 : List Cond := [Cond.constantLong RX3 133 (-7723592293110705685), Cond.methodLink RX3 149 yX3_firstCounter, Cond.static yX3_firstCounter, Cond.code yX3_firstCounter cX3_firstCounter 1 (some .long), Cond.constantLong RX3 141 (32), Cond.methodLink RX3 71 yX3_wordAt, Cond.static yX3_wordAt, Cond.code yX3_wordAt cX3_wordAt 4 (some .long)]
def wsX3_fraction : List Cond := .code yX3_fraction cX3_fraction 9 (some .int) :: ((wsX3_fraction_r1 ++ wsX3_fraction_r2) ++ wsX30 ++ wsX10)
def wsX3_weight : List Cond := .code yX3_weight cX3_weight 4 (some .int) :: ([.fieldLink RX3 24 "NamedStreams" "weights" "[J"] ++ wsX30)
def wsX3_sumOfWeights : List Cond := .code yX3_sumOfWeights cX3_sumOfWeights 4 (some .long) :: ([.fieldLink RX3 24 "NamedStreams" "weights" "[J", .constantLong RX3 158 (-5)] ++ wsX30)
def wsX3_weightReaching : List Cond := .code yX3_weightReaching cX3_weightReaching 6 (some .int) :: ([.fieldLink RX3 24 "NamedStreams" "weights" "[J"] ++ wsX30)
def wsX3_drawPick_r1 : List Cond := [Cond.methodLink RX3 160 yX3_sumOfWeights, Cond.instanceMethod yX3_sumOfWeights, Cond.selects RX3 yX3_sumOfWeights yX3_sumOfWeights, Cond.initialized RX3, Cond.code yX3_sumOfWeights cX3_sumOfWeights 4 (some .long), Cond.fieldLink RX3 24 "NamedStreams" "weights" "[J", Cond.constantLong RX3 158 (-5), Cond.methodLink RX3 79 yX3_drawSpan, Cond.instanceMethod yX3_drawSpan, Cond.selects RX3 yX3_drawSpan yX3_drawSpan, Cond.code yX3_drawSpan cX3_drawSpan 16 (some .long), Cond.fieldLink RX3 46 "NamedStreams" "latestTries" "I", Cond.constantLong RX3 156 (-3), Cond.methodLink RX3 67 yX3_baseOf, Cond.instanceMethod yX3_baseOf, Cond.selects RX3 yX3_baseOf yX3_baseOf, Cond.code yX3_baseOf cX3_baseOf 4 (some .long), Cond.fieldLink RX3 52 "NamedStreams" "seed" "J", Cond.constantLong RX3 135 (-7046029254386353131), Cond.fieldLink RX3 20 "NamedStreams" "paths" "LNamedStreams$Paths;", Cond.fieldLink RX3 64 "NamedStreams$Paths" "keys" "[J", Cond.methodLink RX3 137 yX3_mix, Cond.static yX3_mix, Cond.code yX3_mix cX3_mix 4 (some .long)]
def wsX3_drawPick_r2 : List Cond := [Cond.constantLong RX3 131 (-4658895280553007687), Cond.constantLong RX3 133 (-7723592293110705685), Cond.methodLink RX3 149 yX3_firstCounter, Cond.static yX3_firstCounter, Cond.code yX3_firstCounter cX3_firstCounter 1 (some .long), Cond.constantLong RX3 141 (32), Cond.methodLink RX3 153 yX3_remainderUnsigned, Cond.static yX3_remainderUnsigned, Cond.code yX3_remainderUnsigned cX3_remainderUnsigned 8 (some .long), Cond.methodLink RX3 145 yX3_belowUnsigned, Cond.static yX3_belowUnsigned, Cond.code yX3_belowUnsigned cX3_belowUnsigned 4 (some .boolean), Cond.constantLong RX3 143 (-9223372036854775808), Cond.methodLink RX3 71 yX3_wordAt, Cond.static yX3_wordAt, Cond.code yX3_wordAt cX3_wordAt 4 (some .long), Cond.methodLink RX3 164 yX3_weightReaching, Cond.instanceMethod yX3_weightReaching, Cond.selects RX3 yX3_weightReaching yX3_weightReaching, Cond.code yX3_weightReaching cX3_weightReaching 6 (some .int)]
def wsX3_drawPick : List Cond := .code yX3_drawPick cX3_drawPick 9 (some .int) :: ((wsX3_drawPick_r1 ++ wsX3_drawPick_r2) ++ wsX30 ++ wsX10)
def wsX3_pick_r1 : List Cond := [Cond.fieldLink RX3 20 "NamedStreams" "paths" "LNamedStreams$Paths;", Cond.methodLink RX3 60 yX1_has, Cond.instanceMethod yX1_has, Cond.selects RX1 yX1_has yX1_has, Cond.initialized RX1, Cond.code yX1_has cX1_has 2 (some .boolean), Cond.fieldLink RX1 25 "NamedStreams$Paths" "size" "I", Cond.methodLink RX3 87 yX3_drawPick, Cond.instanceMethod yX3_drawPick, Cond.selects RX3 yX3_drawPick yX3_drawPick, Cond.initialized RX3, Cond.code yX3_drawPick cX3_drawPick 9 (some .int), Cond.methodLink RX3 160 yX3_sumOfWeights, Cond.instanceMethod yX3_sumOfWeights, Cond.selects RX3 yX3_sumOfWeights yX3_sumOfWeights, Cond.code yX3_sumOfWeights cX3_sumOfWeights 4 (some .long), Cond.fieldLink RX3 24 "NamedStreams" "weights" "[J", Cond.constantLong RX3 158 (-5), Cond.methodLink RX3 79 yX3_drawSpan, Cond.instanceMethod yX3_drawSpan, Cond.selects RX3 yX3_drawSpan yX3_drawSpan, Cond.code yX3_drawSpan cX3_drawSpan 16 (some .long), Cond.fieldLink RX3 46 "NamedStreams" "latestTries" "I", Cond.constantLong RX3 156 (-3)]
def wsX3_pick_r2 : List Cond := [Cond.methodLink RX3 67 yX3_baseOf, Cond.instanceMethod yX3_baseOf, Cond.selects RX3 yX3_baseOf yX3_baseOf, Cond.code yX3_baseOf cX3_baseOf 4 (some .long), Cond.fieldLink RX3 52 "NamedStreams" "seed" "J", Cond.constantLong RX3 135 (-7046029254386353131), Cond.fieldLink RX3 64 "NamedStreams$Paths" "keys" "[J", Cond.methodLink RX3 137 yX3_mix, Cond.static yX3_mix, Cond.code yX3_mix cX3_mix 4 (some .long), Cond.constantLong RX3 131 (-4658895280553007687), Cond.constantLong RX3 133 (-7723592293110705685), Cond.methodLink RX3 149 yX3_firstCounter, Cond.static yX3_firstCounter, Cond.code yX3_firstCounter cX3_firstCounter 1 (some .long), Cond.constantLong RX3 141 (32), Cond.methodLink RX3 153 yX3_remainderUnsigned, Cond.static yX3_remainderUnsigned, Cond.code yX3_remainderUnsigned cX3_remainderUnsigned 8 (some .long), Cond.methodLink RX3 145 yX3_belowUnsigned, Cond.static yX3_belowUnsigned, Cond.code yX3_belowUnsigned cX3_belowUnsigned 4 (some .boolean), Cond.constantLong RX3 143 (-9223372036854775808), Cond.methodLink RX3 71 yX3_wordAt]
def wsX3_pick_r3 : List Cond := [Cond.static yX3_wordAt, Cond.code yX3_wordAt cX3_wordAt 4 (some .long), Cond.methodLink RX3 164 yX3_weightReaching, Cond.instanceMethod yX3_weightReaching, Cond.selects RX3 yX3_weightReaching yX3_weightReaching, Cond.code yX3_weightReaching cX3_weightReaching 6 (some .int)]
def wsX3_pick : List Cond := .code yX3_pick cX3_pick 5 (some .int) :: ((wsX3_pick_r1 ++ (wsX3_pick_r2 ++ wsX3_pick_r3)) ++ wsX30 ++ wsX10)
def wsX3_drawPermutation_r1 : List Cond := [Cond.fieldLink RX3 27 "NamedStreams" "order" "[I", Cond.methodLink RX3 79 yX3_drawSpan, Cond.instanceMethod yX3_drawSpan, Cond.selects RX3 yX3_drawSpan yX3_drawSpan, Cond.initialized RX3, Cond.code yX3_drawSpan cX3_drawSpan 16 (some .long), Cond.fieldLink RX3 46 "NamedStreams" "latestTries" "I", Cond.constantLong RX3 156 (-3), Cond.methodLink RX3 67 yX3_baseOf, Cond.instanceMethod yX3_baseOf, Cond.selects RX3 yX3_baseOf yX3_baseOf, Cond.code yX3_baseOf cX3_baseOf 4 (some .long), Cond.fieldLink RX3 52 "NamedStreams" "seed" "J", Cond.constantLong RX3 135 (-7046029254386353131), Cond.fieldLink RX3 20 "NamedStreams" "paths" "LNamedStreams$Paths;", Cond.fieldLink RX3 64 "NamedStreams$Paths" "keys" "[J", Cond.methodLink RX3 137 yX3_mix, Cond.static yX3_mix, Cond.code yX3_mix cX3_mix 4 (some .long), Cond.constantLong RX3 131 (-4658895280553007687), Cond.constantLong RX3 133 (-7723592293110705685), Cond.methodLink RX3 149 yX3_firstCounter, Cond.static yX3_firstCounter, Cond.code yX3_firstCounter cX3_firstCounter 1 (some .long)]
def wsX3_drawPermutation_r2 : List Cond := [Cond.constantLong RX3 141 (32), Cond.methodLink RX3 153 yX3_remainderUnsigned, Cond.static yX3_remainderUnsigned, Cond.code yX3_remainderUnsigned cX3_remainderUnsigned 8 (some .long), Cond.methodLink RX3 145 yX3_belowUnsigned, Cond.static yX3_belowUnsigned, Cond.code yX3_belowUnsigned cX3_belowUnsigned 4 (some .boolean), Cond.constantLong RX3 143 (-9223372036854775808), Cond.methodLink RX3 71 yX3_wordAt, Cond.static yX3_wordAt, Cond.code yX3_wordAt cX3_wordAt 4 (some .long)]
def wsX3_drawPermutation : List Cond := .code yX3_drawPermutation cX3_drawPermutation 11 (some .boolean) :: ((wsX3_drawPermutation_r1 ++ wsX3_drawPermutation_r2) ++ wsX30 ++ wsX10)
def wsX3_permuted_r1 : List Cond := [Cond.fieldLink RX3 20 "NamedStreams" "paths" "LNamedStreams$Paths;", Cond.constant RX3 91 (2147483647), Cond.fieldLink RX3 27 "NamedStreams" "order" "[I", Cond.methodLink RX3 60 yX1_has, Cond.instanceMethod yX1_has, Cond.selects RX1 yX1_has yX1_has, Cond.initialized RX1, Cond.code yX1_has cX1_has 2 (some .boolean), Cond.fieldLink RX1 25 "NamedStreams$Paths" "size" "I", Cond.methodLink RX3 92 yX3_drawPermutation, Cond.instanceMethod yX3_drawPermutation, Cond.selects RX3 yX3_drawPermutation yX3_drawPermutation, Cond.initialized RX3, Cond.code yX3_drawPermutation cX3_drawPermutation 11 (some .boolean), Cond.methodLink RX3 79 yX3_drawSpan, Cond.instanceMethod yX3_drawSpan, Cond.selects RX3 yX3_drawSpan yX3_drawSpan, Cond.code yX3_drawSpan cX3_drawSpan 16 (some .long), Cond.fieldLink RX3 46 "NamedStreams" "latestTries" "I", Cond.constantLong RX3 156 (-3), Cond.methodLink RX3 67 yX3_baseOf, Cond.instanceMethod yX3_baseOf, Cond.selects RX3 yX3_baseOf yX3_baseOf, Cond.code yX3_baseOf cX3_baseOf 4 (some .long)]
def wsX3_permuted_r2 : List Cond := [Cond.fieldLink RX3 52 "NamedStreams" "seed" "J", Cond.constantLong RX3 135 (-7046029254386353131), Cond.fieldLink RX3 64 "NamedStreams$Paths" "keys" "[J", Cond.methodLink RX3 137 yX3_mix, Cond.static yX3_mix, Cond.code yX3_mix cX3_mix 4 (some .long), Cond.constantLong RX3 131 (-4658895280553007687), Cond.constantLong RX3 133 (-7723592293110705685), Cond.methodLink RX3 149 yX3_firstCounter, Cond.static yX3_firstCounter, Cond.code yX3_firstCounter cX3_firstCounter 1 (some .long), Cond.constantLong RX3 141 (32), Cond.methodLink RX3 153 yX3_remainderUnsigned, Cond.static yX3_remainderUnsigned, Cond.code yX3_remainderUnsigned cX3_remainderUnsigned 8 (some .long), Cond.methodLink RX3 145 yX3_belowUnsigned, Cond.static yX3_belowUnsigned, Cond.code yX3_belowUnsigned cX3_belowUnsigned 4 (some .boolean), Cond.constantLong RX3 143 (-9223372036854775808), Cond.methodLink RX3 71 yX3_wordAt, Cond.static yX3_wordAt, Cond.code yX3_wordAt cX3_wordAt 4 (some .long)]
def wsX3_permuted : List Cond := .code yX3_permuted cX3_permuted 7 (some .int) :: ((wsX3_permuted_r1 ++ wsX3_permuted_r2) ++ wsX30 ++ wsX10)
def wsX3_tries : List Cond := .code yX3_tries cX3_tries 1 (some .int) :: ([.fieldLink RX3 46 "NamedStreams" "latestTries" "I"] ++ wsX30)
def wsX3_status : List Cond := .code yX3_status cX3_status 1 (some .int) :: ([.fieldLink RX3 49 "NamedStreams" "latestStatus" "I"] ++ wsX30)
def wsX3_addStream : List Cond := .code yX3_addStream cX3_addStream 5 (some .int) :: ([.fieldLink RX3 37 "NamedStreams" "streamCount" "I", .fieldLink RX3 33 "NamedStreams" "streams" "[LNamedStreams$Stream;", .classLink RX3 31 RX2, .instantiable RX2 4, .initialized RX2, .methodLink RX3 168 yX2_init, .instanceMethod yX2_init, .code yX2_init cX2_init 4 none, .methodLink RX2 1 objectInit, .instanceMethod objectInit, .code objectInit ⟨#[0xb1]⟩ 1 none, .fieldLink RX2 7 "NamedStreams$Stream" "place" "I", .fieldLink RX2 13 "NamedStreams$Stream" "splits" "I", .fieldLink RX2 16 "NamedStreams$Stream" "run" "J", .fieldLink RX2 20 "NamedStreams$Stream" "path" "I"] ++ wsX30 ++ wsX20)
def wsX3_open_r1 : List Cond := [Cond.fieldLink RX3 20 "NamedStreams" "paths" "LNamedStreams$Paths;", Cond.fieldLink RX3 37 "NamedStreams" "streamCount" "I", Cond.methodLink RX3 60 yX1_has, Cond.instanceMethod yX1_has, Cond.selects RX1 yX1_has yX1_has, Cond.initialized RX1, Cond.code yX1_has cX1_has 2 (some .boolean), Cond.fieldLink RX1 25 "NamedStreams$Paths" "size" "I", Cond.methodLink RX3 96 yX3_addStream, Cond.instanceMethod yX3_addStream, Cond.selects RX3 yX3_addStream yX3_addStream, Cond.initialized RX3, Cond.code yX3_addStream cX3_addStream 5 (some .int), Cond.fieldLink RX3 33 "NamedStreams" "streams" "[LNamedStreams$Stream;", Cond.classLink RX3 31 RX2, Cond.instantiable RX2 4, Cond.initialized RX2, Cond.methodLink RX3 168 yX2_init, Cond.instanceMethod yX2_init, Cond.code yX2_init cX2_init 4 none, Cond.methodLink RX2 1 objectInit, Cond.instanceMethod objectInit, Cond.code objectInit ⟨#[0xb1]⟩ 1 none, Cond.fieldLink RX2 7 "NamedStreams$Stream" "place" "I"]
def wsX3_open_r2 : List Cond := [Cond.fieldLink RX2 13 "NamedStreams$Stream" "splits" "I", Cond.fieldLink RX2 16 "NamedStreams$Stream" "run" "J", Cond.fieldLink RX2 20 "NamedStreams$Stream" "path" "I"]
def wsX3_open : List Cond := .code yX3_open cX3_open 4 (some .int) :: ((wsX3_open_r1 ++ wsX3_open_r2) ++ wsX30 ++ wsX10 ++ wsX20)
def wsX3_streamAt : List Cond := .code yX3_streamAt cX3_streamAt 2 (some (.object "NamedStreams$Stream")) :: ([.fieldLink RX3 37 "NamedStreams" "streamCount" "I", .fieldLink RX3 33 "NamedStreams" "streams" "[LNamedStreams$Stream;"] ++ wsX30)
def wsX3_next_r1 : List Cond := [Cond.fieldLink RX3 104 "NamedStreams$Stream" "place" "I", Cond.constant RX3 91 (2147483647), Cond.constantLong RX3 77 (-1), Cond.constantLong RX3 75 (-4), Cond.fieldLink RX3 107 "NamedStreams$Stream" "run" "J", Cond.fieldLink RX3 110 "NamedStreams$Stream" "path" "I", Cond.methodLink RX3 100 yX3_streamAt, Cond.instanceMethod yX3_streamAt, Cond.selects RX3 yX3_streamAt yX3_streamAt, Cond.initialized RX3, Cond.code yX3_streamAt cX3_streamAt 2 (some (.object "NamedStreams$Stream")), Cond.fieldLink RX3 37 "NamedStreams" "streamCount" "I", Cond.fieldLink RX3 33 "NamedStreams" "streams" "[LNamedStreams$Stream;", Cond.methodLink RX3 79 yX3_drawSpan, Cond.instanceMethod yX3_drawSpan, Cond.selects RX3 yX3_drawSpan yX3_drawSpan, Cond.code yX3_drawSpan cX3_drawSpan 16 (some .long), Cond.fieldLink RX3 46 "NamedStreams" "latestTries" "I", Cond.constantLong RX3 156 (-3), Cond.methodLink RX3 67 yX3_baseOf, Cond.instanceMethod yX3_baseOf, Cond.selects RX3 yX3_baseOf yX3_baseOf, Cond.code yX3_baseOf cX3_baseOf 4 (some .long), Cond.fieldLink RX3 52 "NamedStreams" "seed" "J"]
def wsX3_next_r2 : List Cond := [Cond.constantLong RX3 135 (-7046029254386353131), Cond.fieldLink RX3 20 "NamedStreams" "paths" "LNamedStreams$Paths;", Cond.fieldLink RX3 64 "NamedStreams$Paths" "keys" "[J", Cond.methodLink RX3 137 yX3_mix, Cond.static yX3_mix, Cond.code yX3_mix cX3_mix 4 (some .long), Cond.constantLong RX3 131 (-4658895280553007687), Cond.constantLong RX3 133 (-7723592293110705685), Cond.methodLink RX3 149 yX3_firstCounter, Cond.static yX3_firstCounter, Cond.code yX3_firstCounter cX3_firstCounter 1 (some .long), Cond.constantLong RX3 141 (32), Cond.methodLink RX3 153 yX3_remainderUnsigned, Cond.static yX3_remainderUnsigned, Cond.code yX3_remainderUnsigned cX3_remainderUnsigned 8 (some .long), Cond.methodLink RX3 145 yX3_belowUnsigned, Cond.static yX3_belowUnsigned, Cond.code yX3_belowUnsigned cX3_belowUnsigned 4 (some .boolean), Cond.constantLong RX3 143 (-9223372036854775808), Cond.methodLink RX3 71 yX3_wordAt, Cond.static yX3_wordAt, Cond.code yX3_wordAt cX3_wordAt 4 (some .long)]
def wsX3_next : List Cond := .code yX3_next cX3_next 7 (some .long) :: ((wsX3_next_r1 ++ wsX3_next_r2) ++ wsX20 ++ wsX30 ++ wsX10)
def wsX3_nextPick_r1 : List Cond := [Cond.fieldLink RX3 104 "NamedStreams$Stream" "place" "I", Cond.constant RX3 91 (2147483647), Cond.fieldLink RX3 107 "NamedStreams$Stream" "run" "J", Cond.fieldLink RX3 110 "NamedStreams$Stream" "path" "I", Cond.methodLink RX3 100 yX3_streamAt, Cond.instanceMethod yX3_streamAt, Cond.selects RX3 yX3_streamAt yX3_streamAt, Cond.initialized RX3, Cond.code yX3_streamAt cX3_streamAt 2 (some (.object "NamedStreams$Stream")), Cond.fieldLink RX3 37 "NamedStreams" "streamCount" "I", Cond.fieldLink RX3 33 "NamedStreams" "streams" "[LNamedStreams$Stream;", Cond.methodLink RX3 87 yX3_drawPick, Cond.instanceMethod yX3_drawPick, Cond.selects RX3 yX3_drawPick yX3_drawPick, Cond.code yX3_drawPick cX3_drawPick 9 (some .int), Cond.methodLink RX3 160 yX3_sumOfWeights, Cond.instanceMethod yX3_sumOfWeights, Cond.selects RX3 yX3_sumOfWeights yX3_sumOfWeights, Cond.code yX3_sumOfWeights cX3_sumOfWeights 4 (some .long), Cond.fieldLink RX3 24 "NamedStreams" "weights" "[J", Cond.constantLong RX3 158 (-5), Cond.methodLink RX3 79 yX3_drawSpan, Cond.instanceMethod yX3_drawSpan, Cond.selects RX3 yX3_drawSpan yX3_drawSpan]
def wsX3_nextPick_r2 : List Cond := [Cond.code yX3_drawSpan cX3_drawSpan 16 (some .long), Cond.fieldLink RX3 46 "NamedStreams" "latestTries" "I", Cond.constantLong RX3 156 (-3), Cond.methodLink RX3 67 yX3_baseOf, Cond.instanceMethod yX3_baseOf, Cond.selects RX3 yX3_baseOf yX3_baseOf, Cond.code yX3_baseOf cX3_baseOf 4 (some .long), Cond.fieldLink RX3 52 "NamedStreams" "seed" "J", Cond.constantLong RX3 135 (-7046029254386353131), Cond.fieldLink RX3 20 "NamedStreams" "paths" "LNamedStreams$Paths;", Cond.fieldLink RX3 64 "NamedStreams$Paths" "keys" "[J", Cond.methodLink RX3 137 yX3_mix, Cond.static yX3_mix, Cond.code yX3_mix cX3_mix 4 (some .long), Cond.constantLong RX3 131 (-4658895280553007687), Cond.constantLong RX3 133 (-7723592293110705685), Cond.methodLink RX3 149 yX3_firstCounter, Cond.static yX3_firstCounter, Cond.code yX3_firstCounter cX3_firstCounter 1 (some .long), Cond.constantLong RX3 141 (32), Cond.methodLink RX3 153 yX3_remainderUnsigned, Cond.static yX3_remainderUnsigned, Cond.code yX3_remainderUnsigned cX3_remainderUnsigned 8 (some .long), Cond.methodLink RX3 145 yX3_belowUnsigned]
def wsX3_nextPick_r3 : List Cond := [Cond.static yX3_belowUnsigned, Cond.code yX3_belowUnsigned cX3_belowUnsigned 4 (some .boolean), Cond.constantLong RX3 143 (-9223372036854775808), Cond.methodLink RX3 71 yX3_wordAt, Cond.static yX3_wordAt, Cond.code yX3_wordAt cX3_wordAt 4 (some .long), Cond.methodLink RX3 164 yX3_weightReaching, Cond.instanceMethod yX3_weightReaching, Cond.selects RX3 yX3_weightReaching yX3_weightReaching, Cond.code yX3_weightReaching cX3_weightReaching 6 (some .int)]
def wsX3_nextPick : List Cond := .code yX3_nextPick cX3_nextPick 4 (some .int) :: ((wsX3_nextPick_r1 ++ (wsX3_nextPick_r2 ++ wsX3_nextPick_r3)) ++ wsX20 ++ wsX30 ++ wsX10)
def wsX3_split_r1 : List Cond := [Cond.fieldLink RX3 37 "NamedStreams" "streamCount" "I", Cond.fieldLink RX3 20 "NamedStreams" "paths" "LNamedStreams$Paths;", Cond.fieldLink RX3 110 "NamedStreams$Stream" "path" "I", Cond.fieldLink RX3 113 "NamedStreams$Stream" "splits" "I", Cond.fieldLink RX3 107 "NamedStreams$Stream" "run" "J", Cond.methodLink RX3 100 yX3_streamAt, Cond.instanceMethod yX3_streamAt, Cond.selects RX3 yX3_streamAt yX3_streamAt, Cond.initialized RX3, Cond.code yX3_streamAt cX3_streamAt 2 (some (.object "NamedStreams$Stream")), Cond.fieldLink RX3 33 "NamedStreams" "streams" "[LNamedStreams$Stream;", Cond.methodLink RX3 116 yX1_enterChild, Cond.instanceMethod yX1_enterChild, Cond.selects RX1 yX1_enterChild yX1_enterChild, Cond.initialized RX1, Cond.code yX1_enterChild cX1_enterChild 6 (some .int), Cond.fieldLink RX1 15 "NamedStreams$Paths" "lengths" "[I", Cond.fieldLink RX1 22 "NamedStreams$Paths" "child" "[J", Cond.fieldLink RX1 9 "NamedStreams$Paths" "rows" "[J", Cond.methodLink RX1 37 yX1_enter, Cond.instanceMethod yX1_enter, Cond.selects RX1 yX1_enter yX1_enter, Cond.code yX1_enter cX1_enter 4 (some .int), Cond.fieldLink RX1 25 "NamedStreams$Paths" "size" "I"]
def wsX3_split_r2 : List Cond := [Cond.methodLink RX1 29 yX1_isLike, Cond.instanceMethod yX1_isLike, Cond.selects RX1 yX1_isLike yX1_isLike, Cond.code yX1_isLike cX1_isLike 5 (some .boolean), Cond.methodLink RX1 33 yX1_add, Cond.instanceMethod yX1_add, Cond.selects RX1 yX1_add yX1_add, Cond.code yX1_add cX1_add 7 (some .int), Cond.constantLong RX1 40 (-7046029254386353131), Cond.fieldLink RX1 19 "NamedStreams$Paths" "keys" "[J", Cond.static yX3_mix, Cond.code yX3_mix cX3_mix 4 (some .long), Cond.constantLong RX3 131 (-4658895280553007687), Cond.constantLong RX3 133 (-7723592293110705685), Cond.methodLink RX3 96 yX3_addStream, Cond.instanceMethod yX3_addStream, Cond.selects RX3 yX3_addStream yX3_addStream, Cond.code yX3_addStream cX3_addStream 5 (some .int), Cond.classLink RX3 31 RX2, Cond.instantiable RX2 4, Cond.initialized RX2, Cond.methodLink RX3 168 yX2_init, Cond.instanceMethod yX2_init, Cond.code yX2_init cX2_init 4 none]
def wsX3_split_r3 : List Cond := [Cond.methodLink RX2 1 objectInit, Cond.instanceMethod objectInit, Cond.code objectInit ⟨#[0xb1]⟩ 1 none, Cond.fieldLink RX2 7 "NamedStreams$Stream" "place" "I", Cond.fieldLink RX2 13 "NamedStreams$Stream" "splits" "I", Cond.fieldLink RX2 16 "NamedStreams$Stream" "run" "J", Cond.fieldLink RX2 20 "NamedStreams$Stream" "path" "I"]
def wsX3_split : List Cond := .code yX3_split cX3_split 4 (some .int) :: ((wsX3_split_r1 ++ (wsX3_split_r2 ++ wsX3_split_r3)) ++ wsX30 ++ wsX20 ++ wsX10)
def wsX3_skip : List Cond := .code yX3_skip cX3_skip 4 (some .int) :: ([.constant RX3 120 (1000000000), .fieldLink RX3 104 "NamedStreams$Stream" "place" "I", .constant RX3 91 (2147483647), .methodLink RX3 100 yX3_streamAt, .instanceMethod yX3_streamAt, .selects RX3 yX3_streamAt yX3_streamAt, .initialized RX3, .code yX3_streamAt cX3_streamAt 2 (some (.object "NamedStreams$Stream")), .fieldLink RX3 37 "NamedStreams" "streamCount" "I", .fieldLink RX3 33 "NamedStreams" "streams" "[LNamedStreams$Stream;"] ++ wsX20 ++ wsX30)
def wsX3_keep : List Cond := .code yX3_keep cX3_keep 5 (some .int) :: ([.fieldLink RX3 42 "NamedStreams" "kept" "[LNamedStreams$Kept;", .classLink RX3 40 RX0, .instantiable RX0 3, .initialized RX0, .fieldLink RX3 122 "NamedStreams$Kept" "stream" "I", .fieldLink RX3 104 "NamedStreams$Stream" "place" "I", .fieldLink RX3 125 "NamedStreams$Kept" "place" "I", .fieldLink RX3 113 "NamedStreams$Stream" "splits" "I", .fieldLink RX3 126 "NamedStreams$Kept" "splits" "I", .methodLink RX3 100 yX3_streamAt, .instanceMethod yX3_streamAt, .selects RX3 yX3_streamAt yX3_streamAt, .initialized RX3, .code yX3_streamAt cX3_streamAt 2 (some (.object "NamedStreams$Stream")), .fieldLink RX3 37 "NamedStreams" "streamCount" "I", .fieldLink RX3 33 "NamedStreams" "streams" "[LNamedStreams$Stream;", .instanceMethod yX0_init, .code yX0_init cX0_init 1 none, .methodLink RX0 1 objectInit, .instanceMethod objectInit, .code objectInit ⟨#[0xb1]⟩ 1 none, .fieldLink RX0 7 "NamedStreams$Kept" "stream" "I", .fieldLink RX0 13 "NamedStreams$Kept" "place" "I", .fieldLink RX0 16 "NamedStreams$Kept" "splits" "I"] ++ wsX30 ++ wsX00 ++ wsX20)
def wsX3_back : List Cond := .code yX3_back cX3_back 4 (some .int) :: ([.fieldLink RX3 42 "NamedStreams" "kept" "[LNamedStreams$Kept;", .fieldLink RX3 122 "NamedStreams$Kept" "stream" "I", .fieldLink RX3 125 "NamedStreams$Kept" "place" "I", .fieldLink RX3 104 "NamedStreams$Stream" "place" "I", .fieldLink RX3 126 "NamedStreams$Kept" "splits" "I", .fieldLink RX3 113 "NamedStreams$Stream" "splits" "I", .methodLink RX3 100 yX3_streamAt, .instanceMethod yX3_streamAt, .selects RX3 yX3_streamAt yX3_streamAt, .initialized RX3, .code yX3_streamAt cX3_streamAt 2 (some (.object "NamedStreams$Stream")), .fieldLink RX3 37 "NamedStreams" "streamCount" "I", .fieldLink RX3 33 "NamedStreams" "streams" "[LNamedStreams$Stream;"] ++ wsX30 ++ wsX00 ++ wsX20)
def wsX3_told : List Cond := .code yX3_told cX3_told 4 (some .int) :: ([.fieldLink RX3 110 "NamedStreams$Stream" "path" "I", .fieldLink RX3 104 "NamedStreams$Stream" "place" "I", .fieldLink RX3 113 "NamedStreams$Stream" "splits" "I", .methodLink RX3 100 yX3_streamAt, .instanceMethod yX3_streamAt, .selects RX3 yX3_streamAt yX3_streamAt, .initialized RX3, .code yX3_streamAt cX3_streamAt 2 (some (.object "NamedStreams$Stream")), .fieldLink RX3 37 "NamedStreams" "streamCount" "I", .fieldLink RX3 33 "NamedStreams" "streams" "[LNamedStreams$Stream;"] ++ wsX20 ++ wsX30)
def wsX3_counted : List Cond := .code yX3_counted cX3_counted 4 (some .int) :: ([.constant RX3 127 (65536)])
def wsX3_count : List Cond := .code yX3_count cX3_count 2 (some .int) :: ([.fieldLink RX3 20 "NamedStreams" "paths" "LNamedStreams$Paths;", .fieldLink RX3 128 "NamedStreams$Paths" "size" "I", .fieldLink RX3 37 "NamedStreams" "streamCount" "I", .fieldLink RX3 13 "NamedStreams" "toldCount" "I"] ++ wsX30 ++ wsX10)
def wsX4_init : List Cond := .code yX4_init cX4_init 3 none :: ([.methodLink RX4 1 objectInit, .instanceMethod objectInit, .code objectInit ⟨#[0xb1]⟩ 1 none, .arrayClass .long, .fieldLink RX4 7 "NamedStreamsModel" "part" "[J", .arrayClass .int, .fieldLink RX4 13 "NamedStreamsModel" "many" "[I", .fieldLink RX4 17 "NamedStreamsModel" "told" "[J", .fieldLink RX4 20 "NamedStreamsModel" "weights" "[J", .fieldLink RX4 23 "NamedStreamsModel" "run" "[J", .fieldLink RX4 26 "NamedStreamsModel" "pathOf" "[I", .fieldLink RX4 29 "NamedStreamsModel" "place" "[I", .fieldLink RX4 32 "NamedStreamsModel" "splits" "[I", .fieldLink RX4 35 "NamedStreamsModel" "keptStream" "[I", .fieldLink RX4 38 "NamedStreamsModel" "keptPlace" "[I", .fieldLink RX4 41 "NamedStreamsModel" "keptSplits" "[I", .arrayClass .boolean, .fieldLink RX4 44 "NamedStreamsModel" "isKept" "[Z", .fieldLink RX4 48 "NamedStreamsModel" "order" "[I", .fieldLink RX4 51 "NamedStreamsModel" "aside" "[J", .fieldLink RX4 54 "NamedStreamsModel" "seed" "J"] ++ wsX40)
def wsX4_in : List Cond := .code yX4_in cX4_in 6 (some .boolean) :: ([])
def wsX4_mix : List Cond := .code yX4_mix cX4_mix 4 (some .long) :: ([.constantLong RX4 58 (-4658895280553007687), .constantLong RX4 60 (-7723592293110705685)])
def wsX4_isBelow : List Cond := .code yX4_isBelow cX4_isBelow 4 (some .boolean) :: ([.constantLong RX4 62 (-9223372036854775808)])
def wsX4_rest : List Cond := .code yX4_rest cX4_rest 8 (some .long) :: ([.methodLink RX4 64 yX4_isBelow, .static yX4_isBelow, .initialized RX4, .code yX4_isBelow cX4_isBelow 4 (some .boolean), .constantLong RX4 62 (-9223372036854775808)])
def wsX4_part : List Cond := .code yX4_part cX4_part 3 (some .int) :: ([.fieldLink RX4 68 "NamedStreamsModel" "toldMany" "I", .fieldLink RX4 17 "NamedStreamsModel" "told" "[J"] ++ wsX40)
def wsX4_likePath : List Cond := .code yX4_likePath cX4_likePath 4 (some .int) :: ([.fieldLink RX4 72 "NamedStreamsModel" "paths" "I", .fieldLink RX4 13 "NamedStreamsModel" "many" "[I", .fieldLink RX4 68 "NamedStreamsModel" "toldMany" "I", .fieldLink RX4 7 "NamedStreamsModel" "part" "[J", .fieldLink RX4 17 "NamedStreamsModel" "told" "[J"] ++ wsX40)
def wsX4_takePath : List Cond := .code yX4_takePath cX4_takePath 3 (some .int) :: ([.fieldLink RX4 72 "NamedStreamsModel" "paths" "I", .fieldLink RX4 13 "NamedStreamsModel" "many" "[I", .fieldLink RX4 68 "NamedStreamsModel" "toldMany" "I", .fieldLink RX4 7 "NamedStreamsModel" "part" "[J", .fieldLink RX4 17 "NamedStreamsModel" "told" "[J", .methodLink RX4 75 yX4_likePath, .instanceMethod yX4_likePath, .selects RX4 yX4_likePath yX4_likePath, .initialized RX4, .code yX4_likePath cX4_likePath 4 (some .int)] ++ wsX40)
def wsX4_path : List Cond := .code yX4_path cX4_path 2 (some .int) :: ([.fieldLink RX4 68 "NamedStreamsModel" "toldMany" "I", .methodLink RX4 79 yX4_takePath, .instanceMethod yX4_takePath, .selects RX4 yX4_takePath yX4_takePath, .initialized RX4, .code yX4_takePath cX4_takePath 3 (some .int), .fieldLink RX4 72 "NamedStreamsModel" "paths" "I", .fieldLink RX4 13 "NamedStreamsModel" "many" "[I", .fieldLink RX4 7 "NamedStreamsModel" "part" "[J", .fieldLink RX4 17 "NamedStreamsModel" "told" "[J", .methodLink RX4 75 yX4_likePath, .instanceMethod yX4_likePath, .selects RX4 yX4_likePath yX4_likePath, .code yX4_likePath cX4_likePath 4 (some .int)] ++ wsX40)
def wsX4_isPath : List Cond := .code yX4_isPath cX4_isPath 2 (some .boolean) :: ([.fieldLink RX4 72 "NamedStreamsModel" "paths" "I", .methodLink RX4 82 yX4_in, .static yX4_in, .initialized RX4, .code yX4_in cX4_in 6 (some .boolean)] ++ wsX40)
def wsX4_keyOf : List Cond := .code yX4_keyOf cX4_keyOf 5 (some .long) :: ([.fieldLink RX4 13 "NamedStreamsModel" "many" "[I", .constantLong RX4 86 (-7046029254386353131), .fieldLink RX4 7 "NamedStreamsModel" "part" "[J", .methodLink RX4 88 yX4_mix, .static yX4_mix, .initialized RX4, .code yX4_mix cX4_mix 4 (some .long), .constantLong RX4 58 (-4658895280553007687), .constantLong RX4 60 (-7723592293110705685)] ++ wsX40)
def wsX4_key : List Cond := .code yX4_key cX4_key 2 (some .long) :: ([.fieldLink RX4 96 "NamedStreamsModel" "status" "I", .methodLink RX4 92 yX4_isPath, .instanceMethod yX4_isPath, .selects RX4 yX4_isPath yX4_isPath, .initialized RX4, .code yX4_isPath cX4_isPath 2 (some .boolean), .fieldLink RX4 72 "NamedStreamsModel" "paths" "I", .methodLink RX4 82 yX4_in, .static yX4_in, .code yX4_in cX4_in 6 (some .boolean), .methodLink RX4 99 yX4_keyOf, .instanceMethod yX4_keyOf, .selects RX4 yX4_keyOf yX4_keyOf, .code yX4_keyOf cX4_keyOf 5 (some .long), .fieldLink RX4 13 "NamedStreamsModel" "many" "[I", .constantLong RX4 86 (-7046029254386353131), .fieldLink RX4 7 "NamedStreamsModel" "part" "[J", .methodLink RX4 88 yX4_mix, .static yX4_mix, .code yX4_mix cX4_mix 4 (some .long), .constantLong RX4 58 (-4658895280553007687), .constantLong RX4 60 (-7723592293110705685)] ++ wsX40)
def wsX4_wordOf : List Cond := .code yX4_wordOf cX4_wordOf 8 (some .long) :: ([.fieldLink RX4 54 "NamedStreamsModel" "seed" "J", .constantLong RX4 86 (-7046029254386353131), .methodLink RX4 99 yX4_keyOf, .instanceMethod yX4_keyOf, .selects RX4 yX4_keyOf yX4_keyOf, .initialized RX4, .code yX4_keyOf cX4_keyOf 5 (some .long), .fieldLink RX4 13 "NamedStreamsModel" "many" "[I", .fieldLink RX4 7 "NamedStreamsModel" "part" "[J", .methodLink RX4 88 yX4_mix, .static yX4_mix, .code yX4_mix cX4_mix 4 (some .long), .constantLong RX4 58 (-4658895280553007687), .constantLong RX4 60 (-7723592293110705685)] ++ wsX40)
def wsX4_word_r1 : List Cond := [Cond.fieldLink RX4 96 "NamedStreamsModel" "status" "I", Cond.methodLink RX4 92 yX4_isPath, Cond.instanceMethod yX4_isPath, Cond.selects RX4 yX4_isPath yX4_isPath, Cond.initialized RX4, Cond.code yX4_isPath cX4_isPath 2 (some .boolean), Cond.fieldLink RX4 72 "NamedStreamsModel" "paths" "I", Cond.methodLink RX4 82 yX4_in, Cond.static yX4_in, Cond.code yX4_in cX4_in 6 (some .boolean), Cond.methodLink RX4 103 yX4_wordOf, Cond.instanceMethod yX4_wordOf, Cond.selects RX4 yX4_wordOf yX4_wordOf, Cond.code yX4_wordOf cX4_wordOf 8 (some .long), Cond.fieldLink RX4 54 "NamedStreamsModel" "seed" "J", Cond.constantLong RX4 86 (-7046029254386353131), Cond.methodLink RX4 99 yX4_keyOf, Cond.instanceMethod yX4_keyOf, Cond.selects RX4 yX4_keyOf yX4_keyOf, Cond.code yX4_keyOf cX4_keyOf 5 (some .long), Cond.fieldLink RX4 13 "NamedStreamsModel" "many" "[I", Cond.fieldLink RX4 7 "NamedStreamsModel" "part" "[J", Cond.methodLink RX4 88 yX4_mix, Cond.static yX4_mix]
def wsX4_word_r2 : List Cond := [Cond.code yX4_mix cX4_mix 4 (some .long), Cond.constantLong RX4 58 (-4658895280553007687), Cond.constantLong RX4 60 (-7723592293110705685)]
def wsX4_word : List Cond := .code yX4_word cX4_word 6 (some .long) :: ((wsX4_word_r1 ++ wsX4_word_r2) ++ wsX40)
def wsX4_draw_r1 : List Cond := [Cond.constantLong RX4 111 (32), Cond.fieldLink RX4 113 "NamedStreamsModel" "tries" "I", Cond.constantLong RX4 116 (-3), Cond.methodLink RX4 107 yX4_rest, Cond.static yX4_rest, Cond.initialized RX4, Cond.code yX4_rest cX4_rest 8 (some .long), Cond.methodLink RX4 64 yX4_isBelow, Cond.static yX4_isBelow, Cond.code yX4_isBelow cX4_isBelow 4 (some .boolean), Cond.constantLong RX4 62 (-9223372036854775808), Cond.methodLink RX4 103 yX4_wordOf, Cond.instanceMethod yX4_wordOf, Cond.selects RX4 yX4_wordOf yX4_wordOf, Cond.code yX4_wordOf cX4_wordOf 8 (some .long), Cond.fieldLink RX4 54 "NamedStreamsModel" "seed" "J", Cond.constantLong RX4 86 (-7046029254386353131), Cond.methodLink RX4 99 yX4_keyOf, Cond.instanceMethod yX4_keyOf, Cond.selects RX4 yX4_keyOf yX4_keyOf, Cond.code yX4_keyOf cX4_keyOf 5 (some .long), Cond.fieldLink RX4 13 "NamedStreamsModel" "many" "[I", Cond.fieldLink RX4 7 "NamedStreamsModel" "part" "[J", Cond.methodLink RX4 88 yX4_mix]
def wsX4_draw_r2 : List Cond := [Cond.static yX4_mix, Cond.code yX4_mix cX4_mix 4 (some .long), Cond.constantLong RX4 58 (-4658895280553007687), Cond.constantLong RX4 60 (-7723592293110705685)]
def wsX4_draw : List Cond := .code yX4_draw cX4_draw 12 (some .long) :: ((wsX4_draw_r1 ++ wsX4_draw_r2) ++ wsX40)
def wsX4_span_r1 : List Cond := [Cond.constantLong RX4 118 (-1), Cond.constantLong RX4 120 (-4), Cond.methodLink RX4 92 yX4_isPath, Cond.instanceMethod yX4_isPath, Cond.selects RX4 yX4_isPath yX4_isPath, Cond.initialized RX4, Cond.code yX4_isPath cX4_isPath 2 (some .boolean), Cond.fieldLink RX4 72 "NamedStreamsModel" "paths" "I", Cond.methodLink RX4 82 yX4_in, Cond.static yX4_in, Cond.code yX4_in cX4_in 6 (some .boolean), Cond.methodLink RX4 122 yX4_draw, Cond.instanceMethod yX4_draw, Cond.selects RX4 yX4_draw yX4_draw, Cond.code yX4_draw cX4_draw 12 (some .long), Cond.constantLong RX4 111 (32), Cond.fieldLink RX4 113 "NamedStreamsModel" "tries" "I", Cond.constantLong RX4 116 (-3), Cond.methodLink RX4 107 yX4_rest, Cond.static yX4_rest, Cond.code yX4_rest cX4_rest 8 (some .long), Cond.methodLink RX4 64 yX4_isBelow, Cond.static yX4_isBelow, Cond.code yX4_isBelow cX4_isBelow 4 (some .boolean)]
def wsX4_span_r2 : List Cond := [Cond.constantLong RX4 62 (-9223372036854775808), Cond.methodLink RX4 103 yX4_wordOf, Cond.instanceMethod yX4_wordOf, Cond.selects RX4 yX4_wordOf yX4_wordOf, Cond.code yX4_wordOf cX4_wordOf 8 (some .long), Cond.fieldLink RX4 54 "NamedStreamsModel" "seed" "J", Cond.constantLong RX4 86 (-7046029254386353131), Cond.methodLink RX4 99 yX4_keyOf, Cond.instanceMethod yX4_keyOf, Cond.selects RX4 yX4_keyOf yX4_keyOf, Cond.code yX4_keyOf cX4_keyOf 5 (some .long), Cond.fieldLink RX4 13 "NamedStreamsModel" "many" "[I", Cond.fieldLink RX4 7 "NamedStreamsModel" "part" "[J", Cond.methodLink RX4 88 yX4_mix, Cond.static yX4_mix, Cond.code yX4_mix cX4_mix 4 (some .long), Cond.constantLong RX4 58 (-4658895280553007687), Cond.constantLong RX4 60 (-7723592293110705685)]
def wsX4_span : List Cond := .code yX4_span cX4_span 7 (some .long) :: ((wsX4_span_r1 ++ wsX4_span_r2) ++ wsX40)
def wsX4_fraction_r1 : List Cond := [Cond.fieldLink RX4 113 "NamedStreamsModel" "tries" "I", Cond.constantLong RX4 111 (32), Cond.constantLong RX4 126 (2), Cond.methodLink RX4 92 yX4_isPath, Cond.instanceMethod yX4_isPath, Cond.selects RX4 yX4_isPath yX4_isPath, Cond.initialized RX4, Cond.code yX4_isPath cX4_isPath 2 (some .boolean), Cond.fieldLink RX4 72 "NamedStreamsModel" "paths" "I", Cond.methodLink RX4 82 yX4_in, Cond.static yX4_in, Cond.code yX4_in cX4_in 6 (some .boolean), Cond.methodLink RX4 103 yX4_wordOf, Cond.instanceMethod yX4_wordOf, Cond.selects RX4 yX4_wordOf yX4_wordOf, Cond.code yX4_wordOf cX4_wordOf 8 (some .long), Cond.fieldLink RX4 54 "NamedStreamsModel" "seed" "J", Cond.constantLong RX4 86 (-7046029254386353131), Cond.methodLink RX4 99 yX4_keyOf, Cond.instanceMethod yX4_keyOf, Cond.selects RX4 yX4_keyOf yX4_keyOf, Cond.code yX4_keyOf cX4_keyOf 5 (some .long), Cond.fieldLink RX4 13 "NamedStreamsModel" "many" "[I", Cond.fieldLink RX4 7 "NamedStreamsModel" "part" "[J"]
def wsX4_fraction_r2 : List Cond := [Cond.methodLink RX4 88 yX4_mix, Cond.static yX4_mix, Cond.code yX4_mix cX4_mix 4 (some .long), Cond.constantLong RX4 58 (-4658895280553007687), Cond.constantLong RX4 60 (-7723592293110705685)]
def wsX4_fraction : List Cond := .code yX4_fraction cX4_fraction 15 (some .int) :: ((wsX4_fraction_r1 ++ wsX4_fraction_r2) ++ wsX40)
def wsX4_weight : List Cond := .code yX4_weight cX4_weight 4 (some .int) :: ([.constantLong RX4 128 (9), .fieldLink RX4 20 "NamedStreamsModel" "weights" "[J", .methodLink RX4 82 yX4_in, .static yX4_in, .initialized RX4, .code yX4_in cX4_in 6 (some .boolean)] ++ wsX40)
def wsX4_sum : List Cond := .code yX4_sum cX4_sum 4 (some .long) :: ([.fieldLink RX4 130 "NamedStreamsModel" "isGreat" "Z", .fieldLink RX4 20 "NamedStreamsModel" "weights" "[J"] ++ wsX40)
def wsX4_picked_r1 : List Cond := [Cond.fieldLink RX4 20 "NamedStreamsModel" "weights" "[J", Cond.methodLink RX4 122 yX4_draw, Cond.instanceMethod yX4_draw, Cond.selects RX4 yX4_draw yX4_draw, Cond.initialized RX4, Cond.code yX4_draw cX4_draw 12 (some .long), Cond.constantLong RX4 111 (32), Cond.fieldLink RX4 113 "NamedStreamsModel" "tries" "I", Cond.constantLong RX4 116 (-3), Cond.methodLink RX4 107 yX4_rest, Cond.static yX4_rest, Cond.code yX4_rest cX4_rest 8 (some .long), Cond.methodLink RX4 64 yX4_isBelow, Cond.static yX4_isBelow, Cond.code yX4_isBelow cX4_isBelow 4 (some .boolean), Cond.constantLong RX4 62 (-9223372036854775808), Cond.methodLink RX4 103 yX4_wordOf, Cond.instanceMethod yX4_wordOf, Cond.selects RX4 yX4_wordOf yX4_wordOf, Cond.code yX4_wordOf cX4_wordOf 8 (some .long), Cond.fieldLink RX4 54 "NamedStreamsModel" "seed" "J", Cond.constantLong RX4 86 (-7046029254386353131), Cond.methodLink RX4 99 yX4_keyOf, Cond.instanceMethod yX4_keyOf]
def wsX4_picked_r2 : List Cond := [Cond.selects RX4 yX4_keyOf yX4_keyOf, Cond.code yX4_keyOf cX4_keyOf 5 (some .long), Cond.fieldLink RX4 13 "NamedStreamsModel" "many" "[I", Cond.fieldLink RX4 7 "NamedStreamsModel" "part" "[J", Cond.methodLink RX4 88 yX4_mix, Cond.static yX4_mix, Cond.code yX4_mix cX4_mix 4 (some .long), Cond.constantLong RX4 58 (-4658895280553007687), Cond.constantLong RX4 60 (-7723592293110705685)]
def wsX4_picked : List Cond := .code yX4_picked cX4_picked 12 (some .int) :: ((wsX4_picked_r1 ++ wsX4_picked_r2) ++ wsX40)
def wsX4_pick_r1 : List Cond := [Cond.fieldLink RX4 130 "NamedStreamsModel" "isGreat" "Z", Cond.methodLink RX4 92 yX4_isPath, Cond.instanceMethod yX4_isPath, Cond.selects RX4 yX4_isPath yX4_isPath, Cond.initialized RX4, Cond.code yX4_isPath cX4_isPath 2 (some .boolean), Cond.fieldLink RX4 72 "NamedStreamsModel" "paths" "I", Cond.methodLink RX4 82 yX4_in, Cond.static yX4_in, Cond.code yX4_in cX4_in 6 (some .boolean), Cond.methodLink RX4 134 yX4_sum, Cond.instanceMethod yX4_sum, Cond.selects RX4 yX4_sum yX4_sum, Cond.code yX4_sum cX4_sum 4 (some .long), Cond.fieldLink RX4 20 "NamedStreamsModel" "weights" "[J", Cond.methodLink RX4 138 yX4_picked, Cond.instanceMethod yX4_picked, Cond.selects RX4 yX4_picked yX4_picked, Cond.code yX4_picked cX4_picked 12 (some .int), Cond.methodLink RX4 122 yX4_draw, Cond.instanceMethod yX4_draw, Cond.selects RX4 yX4_draw yX4_draw, Cond.code yX4_draw cX4_draw 12 (some .long), Cond.constantLong RX4 111 (32)]
def wsX4_pick_r2 : List Cond := [Cond.fieldLink RX4 113 "NamedStreamsModel" "tries" "I", Cond.constantLong RX4 116 (-3), Cond.methodLink RX4 107 yX4_rest, Cond.static yX4_rest, Cond.code yX4_rest cX4_rest 8 (some .long), Cond.methodLink RX4 64 yX4_isBelow, Cond.static yX4_isBelow, Cond.code yX4_isBelow cX4_isBelow 4 (some .boolean), Cond.constantLong RX4 62 (-9223372036854775808), Cond.methodLink RX4 103 yX4_wordOf, Cond.instanceMethod yX4_wordOf, Cond.selects RX4 yX4_wordOf yX4_wordOf, Cond.code yX4_wordOf cX4_wordOf 8 (some .long), Cond.fieldLink RX4 54 "NamedStreamsModel" "seed" "J", Cond.constantLong RX4 86 (-7046029254386353131), Cond.methodLink RX4 99 yX4_keyOf, Cond.instanceMethod yX4_keyOf, Cond.selects RX4 yX4_keyOf yX4_keyOf, Cond.code yX4_keyOf cX4_keyOf 5 (some .long), Cond.fieldLink RX4 13 "NamedStreamsModel" "many" "[I", Cond.fieldLink RX4 7 "NamedStreamsModel" "part" "[J", Cond.methodLink RX4 88 yX4_mix, Cond.static yX4_mix, Cond.code yX4_mix cX4_mix 4 (some .long)]
def wsX4_pick_r3 : List Cond := [Cond.constantLong RX4 58 (-4658895280553007687), Cond.constantLong RX4 60 (-7723592293110705685)]
def wsX4_pick : List Cond := .code yX4_pick cX4_pick 7 (some .int) :: ((wsX4_pick_r1 ++ (wsX4_pick_r2 ++ wsX4_pick_r3)) ++ wsX40)
def wsX4_permuted_r1 : List Cond := [Cond.constantLong RX4 142 (40), Cond.constantLong RX4 144 (2147483647), Cond.fieldLink RX4 48 "NamedStreamsModel" "order" "[I", Cond.methodLink RX4 92 yX4_isPath, Cond.instanceMethod yX4_isPath, Cond.selects RX4 yX4_isPath yX4_isPath, Cond.initialized RX4, Cond.code yX4_isPath cX4_isPath 2 (some .boolean), Cond.fieldLink RX4 72 "NamedStreamsModel" "paths" "I", Cond.methodLink RX4 82 yX4_in, Cond.static yX4_in, Cond.code yX4_in cX4_in 6 (some .boolean), Cond.methodLink RX4 122 yX4_draw, Cond.instanceMethod yX4_draw, Cond.selects RX4 yX4_draw yX4_draw, Cond.code yX4_draw cX4_draw 12 (some .long), Cond.constantLong RX4 111 (32), Cond.fieldLink RX4 113 "NamedStreamsModel" "tries" "I", Cond.constantLong RX4 116 (-3), Cond.methodLink RX4 107 yX4_rest, Cond.static yX4_rest, Cond.code yX4_rest cX4_rest 8 (some .long), Cond.methodLink RX4 64 yX4_isBelow, Cond.static yX4_isBelow]
def wsX4_permuted_r2 : List Cond := [Cond.code yX4_isBelow cX4_isBelow 4 (some .boolean), Cond.constantLong RX4 62 (-9223372036854775808), Cond.methodLink RX4 103 yX4_wordOf, Cond.instanceMethod yX4_wordOf, Cond.selects RX4 yX4_wordOf yX4_wordOf, Cond.code yX4_wordOf cX4_wordOf 8 (some .long), Cond.fieldLink RX4 54 "NamedStreamsModel" "seed" "J", Cond.constantLong RX4 86 (-7046029254386353131), Cond.methodLink RX4 99 yX4_keyOf, Cond.instanceMethod yX4_keyOf, Cond.selects RX4 yX4_keyOf yX4_keyOf, Cond.code yX4_keyOf cX4_keyOf 5 (some .long), Cond.fieldLink RX4 13 "NamedStreamsModel" "many" "[I", Cond.fieldLink RX4 7 "NamedStreamsModel" "part" "[J", Cond.methodLink RX4 88 yX4_mix, Cond.static yX4_mix, Cond.code yX4_mix cX4_mix 4 (some .long), Cond.constantLong RX4 58 (-4658895280553007687), Cond.constantLong RX4 60 (-7723592293110705685)]
def wsX4_permuted : List Cond := .code yX4_permuted cX4_permuted 11 (some .int) :: ((wsX4_permuted_r1 ++ wsX4_permuted_r2) ++ wsX40)
def wsX4_tries : List Cond := .code yX4_tries cX4_tries 1 (some .int) :: ([.fieldLink RX4 113 "NamedStreamsModel" "tries" "I"] ++ wsX40)
def wsX4_status : List Cond := .code yX4_status cX4_status 1 (some .int) :: ([.fieldLink RX4 96 "NamedStreamsModel" "status" "I"] ++ wsX40)
def wsX4_isStream : List Cond := .code yX4_isStream cX4_isStream 2 (some .boolean) :: ([.fieldLink RX4 146 "NamedStreamsModel" "streams" "I", .methodLink RX4 82 yX4_in, .static yX4_in, .initialized RX4, .code yX4_in cX4_in 6 (some .boolean)] ++ wsX40)
def wsX4_begin : List Cond := .code yX4_begin cX4_begin 4 (some .int) :: ([.fieldLink RX4 23 "NamedStreamsModel" "run" "[J", .fieldLink RX4 146 "NamedStreamsModel" "streams" "I", .fieldLink RX4 26 "NamedStreamsModel" "pathOf" "[I", .fieldLink RX4 29 "NamedStreamsModel" "place" "[I", .fieldLink RX4 32 "NamedStreamsModel" "splits" "[I"] ++ wsX40)
def wsX4_open : List Cond := .code yX4_open cX4_open 4 (some .int) :: ([.fieldLink RX4 146 "NamedStreamsModel" "streams" "I", .methodLink RX4 92 yX4_isPath, .instanceMethod yX4_isPath, .selects RX4 yX4_isPath yX4_isPath, .initialized RX4, .code yX4_isPath cX4_isPath 2 (some .boolean), .fieldLink RX4 72 "NamedStreamsModel" "paths" "I", .methodLink RX4 82 yX4_in, .static yX4_in, .code yX4_in cX4_in 6 (some .boolean), .methodLink RX4 149 yX4_begin, .instanceMethod yX4_begin, .selects RX4 yX4_begin yX4_begin, .code yX4_begin cX4_begin 4 (some .int), .fieldLink RX4 23 "NamedStreamsModel" "run" "[J", .fieldLink RX4 26 "NamedStreamsModel" "pathOf" "[I", .fieldLink RX4 29 "NamedStreamsModel" "place" "[I", .fieldLink RX4 32 "NamedStreamsModel" "splits" "[I"] ++ wsX40)
def wsX4_next_r1 : List Cond := [Cond.fieldLink RX4 29 "NamedStreamsModel" "place" "[I", Cond.constant RX4 156 (2147483647), Cond.constantLong RX4 118 (-1), Cond.constantLong RX4 120 (-4), Cond.fieldLink RX4 23 "NamedStreamsModel" "run" "[J", Cond.fieldLink RX4 26 "NamedStreamsModel" "pathOf" "[I", Cond.methodLink RX4 153 yX4_isStream, Cond.instanceMethod yX4_isStream, Cond.selects RX4 yX4_isStream yX4_isStream, Cond.initialized RX4, Cond.code yX4_isStream cX4_isStream 2 (some .boolean), Cond.fieldLink RX4 146 "NamedStreamsModel" "streams" "I", Cond.methodLink RX4 82 yX4_in, Cond.static yX4_in, Cond.code yX4_in cX4_in 6 (some .boolean), Cond.methodLink RX4 122 yX4_draw, Cond.instanceMethod yX4_draw, Cond.selects RX4 yX4_draw yX4_draw, Cond.code yX4_draw cX4_draw 12 (some .long), Cond.constantLong RX4 111 (32), Cond.fieldLink RX4 113 "NamedStreamsModel" "tries" "I", Cond.constantLong RX4 116 (-3), Cond.methodLink RX4 107 yX4_rest, Cond.static yX4_rest]
def wsX4_next_r2 : List Cond := [Cond.code yX4_rest cX4_rest 8 (some .long), Cond.methodLink RX4 64 yX4_isBelow, Cond.static yX4_isBelow, Cond.code yX4_isBelow cX4_isBelow 4 (some .boolean), Cond.constantLong RX4 62 (-9223372036854775808), Cond.methodLink RX4 103 yX4_wordOf, Cond.instanceMethod yX4_wordOf, Cond.selects RX4 yX4_wordOf yX4_wordOf, Cond.code yX4_wordOf cX4_wordOf 8 (some .long), Cond.fieldLink RX4 54 "NamedStreamsModel" "seed" "J", Cond.constantLong RX4 86 (-7046029254386353131), Cond.methodLink RX4 99 yX4_keyOf, Cond.instanceMethod yX4_keyOf, Cond.selects RX4 yX4_keyOf yX4_keyOf, Cond.code yX4_keyOf cX4_keyOf 5 (some .long), Cond.fieldLink RX4 13 "NamedStreamsModel" "many" "[I", Cond.fieldLink RX4 7 "NamedStreamsModel" "part" "[J", Cond.methodLink RX4 88 yX4_mix, Cond.static yX4_mix, Cond.code yX4_mix cX4_mix 4 (some .long), Cond.constantLong RX4 58 (-4658895280553007687), Cond.constantLong RX4 60 (-7723592293110705685)]
def wsX4_next : List Cond := .code yX4_next cX4_next 6 (some .long) :: ((wsX4_next_r1 ++ wsX4_next_r2) ++ wsX40)
def wsX4_nextPick_r1 : List Cond := [Cond.fieldLink RX4 29 "NamedStreamsModel" "place" "[I", Cond.constant RX4 156 (2147483647), Cond.fieldLink RX4 130 "NamedStreamsModel" "isGreat" "Z", Cond.fieldLink RX4 23 "NamedStreamsModel" "run" "[J", Cond.fieldLink RX4 26 "NamedStreamsModel" "pathOf" "[I", Cond.methodLink RX4 153 yX4_isStream, Cond.instanceMethod yX4_isStream, Cond.selects RX4 yX4_isStream yX4_isStream, Cond.initialized RX4, Cond.code yX4_isStream cX4_isStream 2 (some .boolean), Cond.fieldLink RX4 146 "NamedStreamsModel" "streams" "I", Cond.methodLink RX4 82 yX4_in, Cond.static yX4_in, Cond.code yX4_in cX4_in 6 (some .boolean), Cond.methodLink RX4 134 yX4_sum, Cond.instanceMethod yX4_sum, Cond.selects RX4 yX4_sum yX4_sum, Cond.code yX4_sum cX4_sum 4 (some .long), Cond.fieldLink RX4 20 "NamedStreamsModel" "weights" "[J", Cond.methodLink RX4 138 yX4_picked, Cond.instanceMethod yX4_picked, Cond.selects RX4 yX4_picked yX4_picked, Cond.code yX4_picked cX4_picked 12 (some .int), Cond.methodLink RX4 122 yX4_draw]
def wsX4_nextPick_r2 : List Cond := [Cond.instanceMethod yX4_draw, Cond.selects RX4 yX4_draw yX4_draw, Cond.code yX4_draw cX4_draw 12 (some .long), Cond.constantLong RX4 111 (32), Cond.fieldLink RX4 113 "NamedStreamsModel" "tries" "I", Cond.constantLong RX4 116 (-3), Cond.methodLink RX4 107 yX4_rest, Cond.static yX4_rest, Cond.code yX4_rest cX4_rest 8 (some .long), Cond.methodLink RX4 64 yX4_isBelow, Cond.static yX4_isBelow, Cond.code yX4_isBelow cX4_isBelow 4 (some .boolean), Cond.constantLong RX4 62 (-9223372036854775808), Cond.methodLink RX4 103 yX4_wordOf, Cond.instanceMethod yX4_wordOf, Cond.selects RX4 yX4_wordOf yX4_wordOf, Cond.code yX4_wordOf cX4_wordOf 8 (some .long), Cond.fieldLink RX4 54 "NamedStreamsModel" "seed" "J", Cond.constantLong RX4 86 (-7046029254386353131), Cond.methodLink RX4 99 yX4_keyOf, Cond.instanceMethod yX4_keyOf, Cond.selects RX4 yX4_keyOf yX4_keyOf, Cond.code yX4_keyOf cX4_keyOf 5 (some .long), Cond.fieldLink RX4 13 "NamedStreamsModel" "many" "[I"]
def wsX4_nextPick_r3 : List Cond := [Cond.fieldLink RX4 7 "NamedStreamsModel" "part" "[J", Cond.methodLink RX4 88 yX4_mix, Cond.static yX4_mix, Cond.code yX4_mix cX4_mix 4 (some .long), Cond.constantLong RX4 58 (-4658895280553007687), Cond.constantLong RX4 60 (-7723592293110705685)]
def wsX4_nextPick : List Cond := .code yX4_nextPick cX4_nextPick 5 (some .int) :: ((wsX4_nextPick_r1 ++ (wsX4_nextPick_r2 ++ wsX4_nextPick_r3)) ++ wsX40)
def wsX4_split_r1 : List Cond := [Cond.fieldLink RX4 26 "NamedStreamsModel" "pathOf" "[I", Cond.fieldLink RX4 146 "NamedStreamsModel" "streams" "I", Cond.fieldLink RX4 13 "NamedStreamsModel" "many" "[I", Cond.fieldLink RX4 68 "NamedStreamsModel" "toldMany" "I", Cond.fieldLink RX4 51 "NamedStreamsModel" "aside" "[J", Cond.fieldLink RX4 17 "NamedStreamsModel" "told" "[J", Cond.fieldLink RX4 7 "NamedStreamsModel" "part" "[J", Cond.fieldLink RX4 32 "NamedStreamsModel" "splits" "[I", Cond.fieldLink RX4 23 "NamedStreamsModel" "run" "[J", Cond.methodLink RX4 153 yX4_isStream, Cond.instanceMethod yX4_isStream, Cond.selects RX4 yX4_isStream yX4_isStream, Cond.initialized RX4, Cond.code yX4_isStream cX4_isStream 2 (some .boolean), Cond.methodLink RX4 82 yX4_in, Cond.static yX4_in, Cond.code yX4_in cX4_in 6 (some .boolean), Cond.methodLink RX4 79 yX4_takePath, Cond.instanceMethod yX4_takePath, Cond.selects RX4 yX4_takePath yX4_takePath, Cond.code yX4_takePath cX4_takePath 3 (some .int), Cond.fieldLink RX4 72 "NamedStreamsModel" "paths" "I", Cond.methodLink RX4 75 yX4_likePath, Cond.instanceMethod yX4_likePath]
def wsX4_split_r2 : List Cond := [Cond.selects RX4 yX4_likePath yX4_likePath, Cond.code yX4_likePath cX4_likePath 4 (some .int), Cond.methodLink RX4 149 yX4_begin, Cond.instanceMethod yX4_begin, Cond.selects RX4 yX4_begin yX4_begin, Cond.code yX4_begin cX4_begin 4 (some .int), Cond.fieldLink RX4 29 "NamedStreamsModel" "place" "[I"]
def wsX4_split : List Cond := .code yX4_split cX4_split 6 (some .int) :: ((wsX4_split_r1 ++ wsX4_split_r2) ++ wsX40)
def wsX4_skip : List Cond := .code yX4_skip cX4_skip 3 (some .int) :: ([.constantLong RX4 157 (1000000000), .fieldLink RX4 29 "NamedStreamsModel" "place" "[I", .constantLong RX4 144 (2147483647), .methodLink RX4 153 yX4_isStream, .instanceMethod yX4_isStream, .selects RX4 yX4_isStream yX4_isStream, .initialized RX4, .code yX4_isStream cX4_isStream 2 (some .boolean), .fieldLink RX4 146 "NamedStreamsModel" "streams" "I", .methodLink RX4 82 yX4_in, .static yX4_in, .code yX4_in cX4_in 6 (some .boolean)] ++ wsX40)
def wsX4_keep : List Cond := .code yX4_keep cX4_keep 3 (some .int) :: ([.constantLong RX4 159 (3), .fieldLink RX4 44 "NamedStreamsModel" "isKept" "[Z", .fieldLink RX4 35 "NamedStreamsModel" "keptStream" "[I", .fieldLink RX4 38 "NamedStreamsModel" "keptPlace" "[I", .fieldLink RX4 29 "NamedStreamsModel" "place" "[I", .fieldLink RX4 41 "NamedStreamsModel" "keptSplits" "[I", .fieldLink RX4 32 "NamedStreamsModel" "splits" "[I", .methodLink RX4 82 yX4_in, .static yX4_in, .initialized RX4, .code yX4_in cX4_in 6 (some .boolean), .methodLink RX4 153 yX4_isStream, .instanceMethod yX4_isStream, .selects RX4 yX4_isStream yX4_isStream, .code yX4_isStream cX4_isStream 2 (some .boolean), .fieldLink RX4 146 "NamedStreamsModel" "streams" "I"] ++ wsX40)
def wsX4_back : List Cond := .code yX4_back cX4_back 3 (some .int) :: ([.constantLong RX4 159 (3), .fieldLink RX4 44 "NamedStreamsModel" "isKept" "[Z", .fieldLink RX4 35 "NamedStreamsModel" "keptStream" "[I", .fieldLink RX4 29 "NamedStreamsModel" "place" "[I", .fieldLink RX4 38 "NamedStreamsModel" "keptPlace" "[I", .fieldLink RX4 32 "NamedStreamsModel" "splits" "[I", .fieldLink RX4 41 "NamedStreamsModel" "keptSplits" "[I", .methodLink RX4 82 yX4_in, .static yX4_in, .initialized RX4, .code yX4_in cX4_in 6 (some .boolean)] ++ wsX40)
def wsX4_told : List Cond := .code yX4_told cX4_told 3 (some .int) :: ([.constantLong RX4 126 (2), .fieldLink RX4 26 "NamedStreamsModel" "pathOf" "[I", .fieldLink RX4 29 "NamedStreamsModel" "place" "[I", .fieldLink RX4 32 "NamedStreamsModel" "splits" "[I", .methodLink RX4 153 yX4_isStream, .instanceMethod yX4_isStream, .selects RX4 yX4_isStream yX4_isStream, .initialized RX4, .code yX4_isStream cX4_isStream 2 (some .boolean), .fieldLink RX4 146 "NamedStreamsModel" "streams" "I", .methodLink RX4 82 yX4_in, .static yX4_in, .code yX4_in cX4_in 6 (some .boolean)] ++ wsX40)
def wsX4_counted : List Cond := .code yX4_counted cX4_counted 4 (some .int) :: ([.constantLong RX4 161 (16), .constantLong RX4 163 (65536), .methodLink RX4 82 yX4_in, .static yX4_in, .initialized RX4, .code yX4_in cX4_in 6 (some .boolean)])
def wsX4_count : List Cond := .code yX4_count cX4_count 2 (some .int) :: ([.fieldLink RX4 72 "NamedStreamsModel" "paths" "I", .fieldLink RX4 146 "NamedStreamsModel" "streams" "I", .fieldLink RX4 68 "NamedStreamsModel" "toldMany" "I"] ++ wsX40)
def wsL_cell : List Cond := .code yL_cell cL_cell 2 (some .int) :: ([])
def wsL_law_r1 : List Cond := [Cond.classLink RL 7 RX3, Cond.instantiable RX3 11, Cond.initialized RX3, Cond.classLink RL 18 RX4, Cond.instantiable RX4 21, Cond.initialized RX4, Cond.constantLong RL 21 (4294967295), Cond.methodLink RL 9 yL_cell, Cond.static yL_cell, Cond.initialized RL, Cond.code yL_cell cL_cell 2 (some .int), Cond.methodLink RL 15 yX3_init, Cond.instanceMethod yX3_init, Cond.code yX3_init cX3_init 3 none, Cond.methodLink RX3 1 objectInit, Cond.instanceMethod objectInit, Cond.code objectInit ⟨#[0xb1]⟩ 1 none, Cond.arrayClass .long, Cond.fieldLink RX3 9 "NamedStreams" "toldParts" "[J", Cond.fieldLink RX3 13 "NamedStreams" "toldCount" "I", Cond.classLink RX3 17 RX1, Cond.instantiable RX1 5, Cond.initialized RX1, Cond.fieldLink RX3 20 "NamedStreams" "paths" "LNamedStreams$Paths;"]
def wsL_law_r2 : List Cond := [Cond.fieldLink RX3 24 "NamedStreams" "weights" "[J", Cond.arrayClass .int, Cond.fieldLink RX3 27 "NamedStreams" "order" "[I", Cond.classLink RX3 31 RX2, Cond.fieldLink RX3 33 "NamedStreams" "streams" "[LNamedStreams$Stream;", Cond.fieldLink RX3 37 "NamedStreams" "streamCount" "I", Cond.classLink RX3 40 RX0, Cond.fieldLink RX3 42 "NamedStreams" "kept" "[LNamedStreams$Kept;", Cond.fieldLink RX3 46 "NamedStreams" "latestTries" "I", Cond.fieldLink RX3 49 "NamedStreams" "latestStatus" "I", Cond.fieldLink RX3 52 "NamedStreams" "seed" "J", Cond.instanceMethod yX1_init, Cond.code yX1_init cX1_init 1 none, Cond.methodLink RX1 3 objectInit, Cond.fieldLink RX1 9 "NamedStreams$Paths" "rows" "[J", Cond.fieldLink RX1 15 "NamedStreams$Paths" "lengths" "[I", Cond.fieldLink RX1 19 "NamedStreams$Paths" "keys" "[J", Cond.fieldLink RX1 22 "NamedStreams$Paths" "child" "[J", Cond.fieldLink RX1 25 "NamedStreams$Paths" "size" "I", Cond.methodLink RL 20 yX4_init, Cond.instanceMethod yX4_init, Cond.code yX4_init cX4_init 3 none, Cond.methodLink RX4 1 objectInit, Cond.fieldLink RX4 7 "NamedStreamsModel" "part" "[J"]
def wsL_law_r3 : List Cond := [Cond.fieldLink RX4 13 "NamedStreamsModel" "many" "[I", Cond.fieldLink RX4 17 "NamedStreamsModel" "told" "[J", Cond.fieldLink RX4 20 "NamedStreamsModel" "weights" "[J", Cond.fieldLink RX4 23 "NamedStreamsModel" "run" "[J", Cond.fieldLink RX4 26 "NamedStreamsModel" "pathOf" "[I", Cond.fieldLink RX4 29 "NamedStreamsModel" "place" "[I", Cond.fieldLink RX4 32 "NamedStreamsModel" "splits" "[I", Cond.fieldLink RX4 35 "NamedStreamsModel" "keptStream" "[I", Cond.fieldLink RX4 38 "NamedStreamsModel" "keptPlace" "[I", Cond.fieldLink RX4 41 "NamedStreamsModel" "keptSplits" "[I", Cond.arrayClass .boolean, Cond.fieldLink RX4 44 "NamedStreamsModel" "isKept" "[Z", Cond.fieldLink RX4 48 "NamedStreamsModel" "order" "[I", Cond.fieldLink RX4 51 "NamedStreamsModel" "aside" "[J", Cond.fieldLink RX4 54 "NamedStreamsModel" "seed" "J", Cond.methodLink RL 23 yX3_part, Cond.instanceMethod yX3_part, Cond.selects RX3 yX3_part yX3_part, Cond.code yX3_part cX3_part 3 (some .int), Cond.methodLink RL 27 yX4_part, Cond.instanceMethod yX4_part, Cond.selects RX4 yX4_part yX4_part, Cond.code yX4_part cX4_part 3 (some .int), Cond.fieldLink RX4 68 "NamedStreamsModel" "toldMany" "I"]
def wsL_law_r4 : List Cond := [Cond.methodLink RL 28 yX3_path, Cond.instanceMethod yX3_path, Cond.selects RX3 yX3_path yX3_path, Cond.code yX3_path cX3_path 2 (some .int), Cond.methodLink RX3 56 yX1_enter, Cond.instanceMethod yX1_enter, Cond.selects RX1 yX1_enter yX1_enter, Cond.code yX1_enter cX1_enter 4 (some .int), Cond.methodLink RX1 29 yX1_isLike, Cond.instanceMethod yX1_isLike, Cond.selects RX1 yX1_isLike yX1_isLike, Cond.code yX1_isLike cX1_isLike 5 (some .boolean), Cond.methodLink RX1 33 yX1_add, Cond.instanceMethod yX1_add, Cond.selects RX1 yX1_add yX1_add, Cond.code yX1_add cX1_add 7 (some .int), Cond.constantLong RX1 40 (-7046029254386353131), Cond.static yX3_mix, Cond.code yX3_mix cX3_mix 4 (some .long), Cond.constantLong RX3 131 (-4658895280553007687), Cond.constantLong RX3 133 (-7723592293110705685), Cond.methodLink RL 32 yX4_path, Cond.instanceMethod yX4_path, Cond.selects RX4 yX4_path yX4_path]
def wsL_law_r5 : List Cond := [Cond.code yX4_path cX4_path 2 (some .int), Cond.methodLink RX4 79 yX4_takePath, Cond.instanceMethod yX4_takePath, Cond.selects RX4 yX4_takePath yX4_takePath, Cond.code yX4_takePath cX4_takePath 3 (some .int), Cond.fieldLink RX4 72 "NamedStreamsModel" "paths" "I", Cond.methodLink RX4 75 yX4_likePath, Cond.instanceMethod yX4_likePath, Cond.selects RX4 yX4_likePath yX4_likePath, Cond.code yX4_likePath cX4_likePath 4 (some .int), Cond.methodLink RL 33 yX3_key, Cond.instanceMethod yX3_key, Cond.selects RX3 yX3_key yX3_key, Cond.code yX3_key cX3_key 2 (some .long), Cond.fieldLink RX3 64 "NamedStreams$Paths" "keys" "[J", Cond.methodLink RX3 60 yX1_has, Cond.instanceMethod yX1_has, Cond.selects RX1 yX1_has yX1_has, Cond.code yX1_has cX1_has 2 (some .boolean), Cond.methodLink RL 37 yX4_key, Cond.instanceMethod yX4_key, Cond.selects RX4 yX4_key yX4_key, Cond.code yX4_key cX4_key 2 (some .long), Cond.fieldLink RX4 96 "NamedStreamsModel" "status" "I"]
def wsL_law_r6 : List Cond := [Cond.methodLink RX4 92 yX4_isPath, Cond.instanceMethod yX4_isPath, Cond.selects RX4 yX4_isPath yX4_isPath, Cond.code yX4_isPath cX4_isPath 2 (some .boolean), Cond.methodLink RX4 82 yX4_in, Cond.static yX4_in, Cond.code yX4_in cX4_in 6 (some .boolean), Cond.methodLink RX4 99 yX4_keyOf, Cond.instanceMethod yX4_keyOf, Cond.selects RX4 yX4_keyOf yX4_keyOf, Cond.code yX4_keyOf cX4_keyOf 5 (some .long), Cond.constantLong RX4 86 (-7046029254386353131), Cond.methodLink RX4 88 yX4_mix, Cond.static yX4_mix, Cond.code yX4_mix cX4_mix 4 (some .long), Cond.constantLong RX4 58 (-4658895280553007687), Cond.constantLong RX4 60 (-7723592293110705685), Cond.methodLink RL 38 yX3_word, Cond.instanceMethod yX3_word, Cond.selects RX3 yX3_word yX3_word, Cond.code yX3_word cX3_word 6 (some .long), Cond.methodLink RX3 67 yX3_baseOf, Cond.instanceMethod yX3_baseOf, Cond.selects RX3 yX3_baseOf yX3_baseOf]
def wsL_law_r7 : List Cond := [Cond.code yX3_baseOf cX3_baseOf 4 (some .long), Cond.constantLong RX3 135 (-7046029254386353131), Cond.methodLink RX3 137 yX3_mix, Cond.methodLink RX3 71 yX3_wordAt, Cond.static yX3_wordAt, Cond.code yX3_wordAt cX3_wordAt 4 (some .long), Cond.methodLink RL 42 yX4_word, Cond.instanceMethod yX4_word, Cond.selects RX4 yX4_word yX4_word, Cond.code yX4_word cX4_word 6 (some .long), Cond.methodLink RX4 103 yX4_wordOf, Cond.instanceMethod yX4_wordOf, Cond.selects RX4 yX4_wordOf yX4_wordOf, Cond.code yX4_wordOf cX4_wordOf 8 (some .long), Cond.methodLink RL 43 yX3_span, Cond.instanceMethod yX3_span, Cond.selects RX3 yX3_span yX3_span, Cond.code yX3_span cX3_span 7 (some .long), Cond.constantLong RX3 75 (-4), Cond.constantLong RX3 77 (-1), Cond.methodLink RX3 79 yX3_drawSpan, Cond.instanceMethod yX3_drawSpan, Cond.selects RX3 yX3_drawSpan yX3_drawSpan, Cond.code yX3_drawSpan cX3_drawSpan 16 (some .long)]
def wsL_law_r8 : List Cond := [Cond.constantLong RX3 156 (-3), Cond.methodLink RX3 149 yX3_firstCounter, Cond.static yX3_firstCounter, Cond.code yX3_firstCounter cX3_firstCounter 1 (some .long), Cond.constantLong RX3 141 (32), Cond.methodLink RX3 153 yX3_remainderUnsigned, Cond.static yX3_remainderUnsigned, Cond.code yX3_remainderUnsigned cX3_remainderUnsigned 8 (some .long), Cond.methodLink RX3 145 yX3_belowUnsigned, Cond.static yX3_belowUnsigned, Cond.code yX3_belowUnsigned cX3_belowUnsigned 4 (some .boolean), Cond.constantLong RX3 143 (-9223372036854775808), Cond.methodLink RL 47 yX4_span, Cond.instanceMethod yX4_span, Cond.selects RX4 yX4_span yX4_span, Cond.code yX4_span cX4_span 7 (some .long), Cond.constantLong RX4 118 (-1), Cond.constantLong RX4 120 (-4), Cond.methodLink RX4 122 yX4_draw, Cond.instanceMethod yX4_draw, Cond.selects RX4 yX4_draw yX4_draw, Cond.code yX4_draw cX4_draw 12 (some .long), Cond.constantLong RX4 111 (32), Cond.fieldLink RX4 113 "NamedStreamsModel" "tries" "I"]
def wsL_law_r9 : List Cond := [Cond.constantLong RX4 116 (-3), Cond.methodLink RX4 107 yX4_rest, Cond.static yX4_rest, Cond.code yX4_rest cX4_rest 8 (some .long), Cond.methodLink RX4 64 yX4_isBelow, Cond.static yX4_isBelow, Cond.code yX4_isBelow cX4_isBelow 4 (some .boolean), Cond.constantLong RX4 62 (-9223372036854775808), Cond.methodLink RL 48 yX3_fraction, Cond.instanceMethod yX3_fraction, Cond.selects RX3 yX3_fraction yX3_fraction, Cond.code yX3_fraction cX3_fraction 9 (some .int), Cond.methodLink RX3 83 yX3_drawFraction, Cond.instanceMethod yX3_drawFraction, Cond.selects RX3 yX3_drawFraction yX3_drawFraction, Cond.code yX3_drawFraction cX3_drawFraction 21 (some .int), Cond.methodLink RL 52 yX4_fraction, Cond.instanceMethod yX4_fraction, Cond.selects RX4 yX4_fraction yX4_fraction, Cond.code yX4_fraction cX4_fraction 15 (some .int), Cond.constantLong RX4 126 (2), Cond.methodLink RL 53 yX3_weight, Cond.instanceMethod yX3_weight, Cond.selects RX3 yX3_weight yX3_weight]
def wsL_law_r10 : List Cond := [Cond.code yX3_weight cX3_weight 4 (some .int), Cond.methodLink RL 57 yX4_weight, Cond.instanceMethod yX4_weight, Cond.selects RX4 yX4_weight yX4_weight, Cond.code yX4_weight cX4_weight 4 (some .int), Cond.constantLong RX4 128 (9), Cond.methodLink RL 58 yX3_pick, Cond.instanceMethod yX3_pick, Cond.selects RX3 yX3_pick yX3_pick, Cond.code yX3_pick cX3_pick 5 (some .int), Cond.methodLink RX3 87 yX3_drawPick, Cond.instanceMethod yX3_drawPick, Cond.selects RX3 yX3_drawPick yX3_drawPick, Cond.code yX3_drawPick cX3_drawPick 9 (some .int), Cond.methodLink RX3 160 yX3_sumOfWeights, Cond.instanceMethod yX3_sumOfWeights, Cond.selects RX3 yX3_sumOfWeights yX3_sumOfWeights, Cond.code yX3_sumOfWeights cX3_sumOfWeights 4 (some .long), Cond.constantLong RX3 158 (-5), Cond.methodLink RX3 164 yX3_weightReaching, Cond.instanceMethod yX3_weightReaching, Cond.selects RX3 yX3_weightReaching yX3_weightReaching, Cond.code yX3_weightReaching cX3_weightReaching 6 (some .int), Cond.methodLink RL 62 yX4_pick]
def wsL_law_r11 : List Cond := [Cond.instanceMethod yX4_pick, Cond.selects RX4 yX4_pick yX4_pick, Cond.code yX4_pick cX4_pick 7 (some .int), Cond.fieldLink RX4 130 "NamedStreamsModel" "isGreat" "Z", Cond.methodLink RX4 134 yX4_sum, Cond.instanceMethod yX4_sum, Cond.selects RX4 yX4_sum yX4_sum, Cond.code yX4_sum cX4_sum 4 (some .long), Cond.methodLink RX4 138 yX4_picked, Cond.instanceMethod yX4_picked, Cond.selects RX4 yX4_picked yX4_picked, Cond.code yX4_picked cX4_picked 12 (some .int), Cond.methodLink RL 63 yX3_permuted, Cond.instanceMethod yX3_permuted, Cond.selects RX3 yX3_permuted yX3_permuted, Cond.code yX3_permuted cX3_permuted 7 (some .int), Cond.constant RX3 91 (2147483647), Cond.methodLink RX3 92 yX3_drawPermutation, Cond.instanceMethod yX3_drawPermutation, Cond.selects RX3 yX3_drawPermutation yX3_drawPermutation, Cond.code yX3_drawPermutation cX3_drawPermutation 11 (some .boolean), Cond.methodLink RL 67 yX4_permuted, Cond.instanceMethod yX4_permuted, Cond.selects RX4 yX4_permuted yX4_permuted]
def wsL_law_r12 : List Cond := [Cond.code yX4_permuted cX4_permuted 11 (some .int), Cond.constantLong RX4 142 (40), Cond.constantLong RX4 144 (2147483647), Cond.methodLink RL 68 yX3_tries, Cond.instanceMethod yX3_tries, Cond.selects RX3 yX3_tries yX3_tries, Cond.code yX3_tries cX3_tries 1 (some .int), Cond.methodLink RL 71 yX4_tries, Cond.instanceMethod yX4_tries, Cond.selects RX4 yX4_tries yX4_tries, Cond.code yX4_tries cX4_tries 1 (some .int), Cond.methodLink RL 72 yX3_status, Cond.instanceMethod yX3_status, Cond.selects RX3 yX3_status yX3_status, Cond.code yX3_status cX3_status 1 (some .int), Cond.methodLink RL 75 yX4_status, Cond.instanceMethod yX4_status, Cond.selects RX4 yX4_status yX4_status, Cond.code yX4_status cX4_status 1 (some .int), Cond.methodLink RL 76 yX3_open, Cond.instanceMethod yX3_open, Cond.selects RX3 yX3_open yX3_open, Cond.code yX3_open cX3_open 4 (some .int), Cond.methodLink RX3 96 yX3_addStream]
def wsL_law_r13 : List Cond := [Cond.instanceMethod yX3_addStream, Cond.selects RX3 yX3_addStream yX3_addStream, Cond.code yX3_addStream cX3_addStream 5 (some .int), Cond.instantiable RX2 4, Cond.initialized RX2, Cond.methodLink RX3 168 yX2_init, Cond.instanceMethod yX2_init, Cond.code yX2_init cX2_init 4 none, Cond.methodLink RX2 1 objectInit, Cond.fieldLink RX2 7 "NamedStreams$Stream" "place" "I", Cond.fieldLink RX2 13 "NamedStreams$Stream" "splits" "I", Cond.fieldLink RX2 16 "NamedStreams$Stream" "run" "J", Cond.fieldLink RX2 20 "NamedStreams$Stream" "path" "I", Cond.methodLink RL 80 yX4_open, Cond.instanceMethod yX4_open, Cond.selects RX4 yX4_open yX4_open, Cond.code yX4_open cX4_open 4 (some .int), Cond.fieldLink RX4 146 "NamedStreamsModel" "streams" "I", Cond.methodLink RX4 149 yX4_begin, Cond.instanceMethod yX4_begin, Cond.selects RX4 yX4_begin yX4_begin, Cond.code yX4_begin cX4_begin 4 (some .int), Cond.methodLink RL 81 yX3_next, Cond.instanceMethod yX3_next]
def wsL_law_r14 : List Cond := [Cond.selects RX3 yX3_next yX3_next, Cond.code yX3_next cX3_next 7 (some .long), Cond.fieldLink RX3 104 "NamedStreams$Stream" "place" "I", Cond.fieldLink RX3 107 "NamedStreams$Stream" "run" "J", Cond.fieldLink RX3 110 "NamedStreams$Stream" "path" "I", Cond.methodLink RX3 100 yX3_streamAt, Cond.instanceMethod yX3_streamAt, Cond.selects RX3 yX3_streamAt yX3_streamAt, Cond.code yX3_streamAt cX3_streamAt 2 (some (.object "NamedStreams$Stream")), Cond.methodLink RL 85 yX4_next, Cond.instanceMethod yX4_next, Cond.selects RX4 yX4_next yX4_next, Cond.code yX4_next cX4_next 6 (some .long), Cond.constant RX4 156 (2147483647), Cond.methodLink RX4 153 yX4_isStream, Cond.instanceMethod yX4_isStream, Cond.selects RX4 yX4_isStream yX4_isStream, Cond.code yX4_isStream cX4_isStream 2 (some .boolean), Cond.methodLink RL 86 yX3_nextPick, Cond.instanceMethod yX3_nextPick, Cond.selects RX3 yX3_nextPick yX3_nextPick, Cond.code yX3_nextPick cX3_nextPick 4 (some .int), Cond.methodLink RL 90 yX4_nextPick, Cond.instanceMethod yX4_nextPick]
def wsL_law_r15 : List Cond := [Cond.selects RX4 yX4_nextPick yX4_nextPick, Cond.code yX4_nextPick cX4_nextPick 5 (some .int), Cond.methodLink RL 91 yX3_split, Cond.instanceMethod yX3_split, Cond.selects RX3 yX3_split yX3_split, Cond.code yX3_split cX3_split 4 (some .int), Cond.fieldLink RX3 113 "NamedStreams$Stream" "splits" "I", Cond.methodLink RX3 116 yX1_enterChild, Cond.instanceMethod yX1_enterChild, Cond.selects RX1 yX1_enterChild yX1_enterChild, Cond.code yX1_enterChild cX1_enterChild 6 (some .int), Cond.methodLink RX1 37 yX1_enter, Cond.methodLink RL 94 yX4_split, Cond.instanceMethod yX4_split, Cond.selects RX4 yX4_split yX4_split, Cond.code yX4_split cX4_split 6 (some .int), Cond.methodLink RL 95 yX3_skip, Cond.instanceMethod yX3_skip, Cond.selects RX3 yX3_skip yX3_skip, Cond.code yX3_skip cX3_skip 4 (some .int), Cond.constant RX3 120 (1000000000), Cond.methodLink RL 99 yX4_skip, Cond.instanceMethod yX4_skip, Cond.selects RX4 yX4_skip yX4_skip]
def wsL_law_r16 : List Cond := [Cond.code yX4_skip cX4_skip 3 (some .int), Cond.constantLong RX4 157 (1000000000), Cond.methodLink RL 100 yX3_keep, Cond.instanceMethod yX3_keep, Cond.selects RX3 yX3_keep yX3_keep, Cond.code yX3_keep cX3_keep 5 (some .int), Cond.instantiable RX0 3, Cond.initialized RX0, Cond.fieldLink RX3 122 "NamedStreams$Kept" "stream" "I", Cond.fieldLink RX3 125 "NamedStreams$Kept" "place" "I", Cond.fieldLink RX3 126 "NamedStreams$Kept" "splits" "I", Cond.instanceMethod yX0_init, Cond.code yX0_init cX0_init 1 none, Cond.methodLink RX0 1 objectInit, Cond.fieldLink RX0 7 "NamedStreams$Kept" "stream" "I", Cond.fieldLink RX0 13 "NamedStreams$Kept" "place" "I", Cond.fieldLink RX0 16 "NamedStreams$Kept" "splits" "I", Cond.methodLink RL 103 yX4_keep, Cond.instanceMethod yX4_keep, Cond.selects RX4 yX4_keep yX4_keep, Cond.code yX4_keep cX4_keep 3 (some .int), Cond.constantLong RX4 159 (3), Cond.methodLink RL 104 yX3_back, Cond.instanceMethod yX3_back]
def wsL_law_r17 : List Cond := [Cond.selects RX3 yX3_back yX3_back, Cond.code yX3_back cX3_back 4 (some .int), Cond.methodLink RL 107 yX4_back, Cond.instanceMethod yX4_back, Cond.selects RX4 yX4_back yX4_back, Cond.code yX4_back cX4_back 3 (some .int), Cond.methodLink RL 108 yX3_told, Cond.instanceMethod yX3_told, Cond.selects RX3 yX3_told yX3_told, Cond.code yX3_told cX3_told 4 (some .int), Cond.methodLink RL 111 yX4_told, Cond.instanceMethod yX4_told, Cond.selects RX4 yX4_told yX4_told, Cond.code yX4_told cX4_told 3 (some .int), Cond.methodLink RL 112 yX3_counted, Cond.instanceMethod yX3_counted, Cond.selects RX3 yX3_counted yX3_counted, Cond.code yX3_counted cX3_counted 4 (some .int), Cond.constant RX3 127 (65536), Cond.methodLink RL 116 yX4_counted, Cond.instanceMethod yX4_counted, Cond.selects RX4 yX4_counted yX4_counted, Cond.code yX4_counted cX4_counted 4 (some .int), Cond.constantLong RX4 161 (16)]
def wsL_law_r18 : List Cond := [Cond.constantLong RX4 163 (65536), Cond.methodLink RL 117 yX3_count, Cond.instanceMethod yX3_count, Cond.selects RX3 yX3_count yX3_count, Cond.code yX3_count cX3_count 2 (some .int), Cond.fieldLink RX3 128 "NamedStreams$Paths" "size" "I", Cond.methodLink RL 120 yX4_count, Cond.instanceMethod yX4_count, Cond.selects RX4 yX4_count yX4_count, Cond.code yX4_count cX4_count 2 (some .int)]
def wsL_law : List Cond := (wsL_law_r1 ++ (wsL_law_r2 ++ (wsL_law_r3 ++ (wsL_law_r4 ++ (wsL_law_r5 ++ (wsL_law_r6 ++ (wsL_law_r7 ++ (wsL_law_r8 ++ (wsL_law_r9 ++ (wsL_law_r10 ++ (wsL_law_r11 ++ (wsL_law_r12 ++ (wsL_law_r13 ++ (wsL_law_r14 ++ (wsL_law_r15 ++ (wsL_law_r16 ++ (wsL_law_r17 ++ wsL_law_r18))))))))))))))))) ++ wsX30 ++ wsX40 ++ wsX10 ++ wsX20 ++ wsX00 ++ ([] : List Cond)
set_option maxRecDepth 20000 in
set_option maxRecDepth 100000 in
theorem wsL_law_r1_in : ∀ w ∈ wsL_law_r1, w ∈ lw_tbl := fun w h => (goodIn_p wsL_law_r1 [311, 31, 34] rfl (by decide +kernel) w h).1
set_option maxRecDepth 100000 in
theorem wsL_law_r2_in : ∀ w ∈ wsL_law_r2, w ∈ lw_tbl := fun w h => (goodIn_p wsL_law_r2 [39, 316] rfl (by decide +kernel) w h).1
set_option maxRecDepth 100000 in
theorem wsL_law_r3_in : ∀ w ∈ wsL_law_r3, w ∈ lw_tbl := fun w h => (goodIn_p wsL_law_r3 [102, 386] rfl (by decide +kernel) w h).1
set_option maxRecDepth 100000 in
theorem wsL_law_r4_in : ∀ w ∈ wsL_law_r4, w ∈ lw_tbl := fun w h => (goodIn_p wsL_law_r4 [106, 110, 114, 118, 122] rfl (by decide +kernel) w h).1
set_option maxRecDepth 100000 in
theorem wsL_law_r5_in : ∀ w ∈ wsL_law_r5, w ∈ lw_tbl := fun w h => (goodIn_p wsL_law_r5 [390, 394, 398, 128, 132, 402] rfl (by decide +kernel) w h).1
set_option maxRecDepth 100000 in
theorem wsL_law_r6_in : ∀ w ∈ wsL_law_r6, w ∈ lw_tbl := fun w h => (goodIn_p wsL_law_r6 [406, 409, 413, 417, 136] rfl (by decide +kernel) w h).1
set_option maxRecDepth 100000 in
theorem wsL_law_r7_in : ∀ w ∈ wsL_law_r7, w ∈ lw_tbl := fun w h => (goodIn_p wsL_law_r7 [140, 145, 423, 427, 149, 155] rfl (by decide +kernel) w h).1
set_option maxRecDepth 100000 in
theorem wsL_law_r8_in : ∀ w ∈ wsL_law_r8, w ∈ lw_tbl := fun w h => (goodIn_p wsL_law_r8 [158, 162, 165, 431, 437] rfl (by decide +kernel) w h).1
set_option maxRecDepth 100000 in
theorem wsL_law_r9_in : ∀ w ∈ wsL_law_r9, w ∈ lw_tbl := fun w h => (goodIn_p wsL_law_r9 [440, 443, 171, 175, 450] rfl (by decide +kernel) w h).1
set_option maxRecDepth 100000 in
theorem wsL_law_r10_in : ∀ w ∈ wsL_law_r10, w ∈ lw_tbl := fun w h => (goodIn_p wsL_law_r10 [179, 455, 183, 187, 191, 196] rfl (by decide +kernel) w h).1
set_option maxRecDepth 100000 in
theorem wsL_law_r11_in : ∀ w ∈ wsL_law_r11, w ∈ lw_tbl := fun w h => (goodIn_p wsL_law_r11 [460, 464, 468, 200, 205] rfl (by decide +kernel) w h).1
set_option maxRecDepth 100000 in
theorem wsL_law_r12_in : ∀ w ∈ wsL_law_r12, w ∈ lw_tbl := fun w h => (goodIn_p wsL_law_r12 [472, 209, 478, 213, 482, 217] rfl (by decide +kernel) w h).1
set_option maxRecDepth 100000 in
theorem wsL_law_r13_in : ∀ w ∈ wsL_law_r13, w ∈ lw_tbl := fun w h => (goodIn_p wsL_law_r13 [221, 225, 486, 490] rfl (by decide +kernel) w h).1
set_option maxRecDepth 100000 in
theorem wsL_law_r14_in : ∀ w ∈ wsL_law_r14, w ∈ lw_tbl := fun w h => (goodIn_p wsL_law_r14 [247, 251, 494, 498, 255] rfl (by decide +kernel) w h).1
set_option maxRecDepth 100000 in
theorem wsL_law_r15_in : ∀ w ∈ wsL_law_r15, w ∈ lw_tbl := fun w h => (goodIn_p wsL_law_r15 [503, 259, 263, 507, 268] rfl (by decide +kernel) w h).1
set_option maxRecDepth 100000 in
theorem wsL_law_r16_in : ∀ w ∈ wsL_law_r16, w ∈ lw_tbl := fun w h => (goodIn_p wsL_law_r16 [511, 273, 277, 516] rfl (by decide +kernel) w h).1
set_option maxRecDepth 100000 in
theorem wsL_law_r17_in : ∀ w ∈ wsL_law_r17, w ∈ lw_tbl := fun w h => (goodIn_p wsL_law_r17 [295, 521, 299, 525, 303, 529] rfl (by decide +kernel) w h).1
set_option maxRecDepth 100000 in
theorem wsL_law_r18_in : ∀ w ∈ wsL_law_r18, w ∈ lw_tbl := fun w h => (goodIn_p wsL_law_r18 [308, 535] rfl (by decide +kernel) w h).1
set_option maxRecDepth 100000 in
theorem wsX30_in : ∀ w ∈ wsX30, w ∈ lw_tbl := by decide +kernel
set_option maxRecDepth 100000 in
theorem wsX40_in : ∀ w ∈ wsX40, w ∈ lw_tbl := by decide +kernel
set_option maxRecDepth 100000 in
theorem wsX10_in : ∀ w ∈ wsX10, w ∈ lw_tbl := by decide +kernel
set_option maxRecDepth 100000 in
theorem wsX20_in : ∀ w ∈ wsX20, w ∈ lw_tbl := by decide +kernel
set_option maxRecDepth 100000 in
theorem wsX00_in : ∀ w ∈ wsX00, w ∈ lw_tbl := by decide +kernel
theorem wsL_law_in : ∀ w ∈ wsL_law, w ∈ lw_tbl := fun w h => (List.mem_append.mp h).elim (fun h => (List.mem_append.mp h).elim (fun h => (List.mem_append.mp h).elim (fun h => (List.mem_append.mp h).elim (fun h => (List.mem_append.mp h).elim (fun h => (List.mem_append.mp h).elim (fun h => (List.mem_append.mp h).elim (fun h => wsL_law_r1_in w h) (fun h => (List.mem_append.mp h).elim (fun h => wsL_law_r2_in w h) (fun h => (List.mem_append.mp h).elim (fun h => wsL_law_r3_in w h) (fun h => (List.mem_append.mp h).elim (fun h => wsL_law_r4_in w h) (fun h => (List.mem_append.mp h).elim (fun h => wsL_law_r5_in w h) (fun h => (List.mem_append.mp h).elim (fun h => wsL_law_r6_in w h) (fun h => (List.mem_append.mp h).elim (fun h => wsL_law_r7_in w h) (fun h => (List.mem_append.mp h).elim (fun h => wsL_law_r8_in w h) (fun h => (List.mem_append.mp h).elim (fun h => wsL_law_r9_in w h) (fun h => (List.mem_append.mp h).elim (fun h => wsL_law_r10_in w h) (fun h => (List.mem_append.mp h).elim (fun h => wsL_law_r11_in w h) (fun h => (List.mem_append.mp h).elim (fun h => wsL_law_r12_in w h) (fun h => (List.mem_append.mp h).elim (fun h => wsL_law_r13_in w h) (fun h => (List.mem_append.mp h).elim (fun h => wsL_law_r14_in w h) (fun h => (List.mem_append.mp h).elim (fun h => wsL_law_r15_in w h) (fun h => (List.mem_append.mp h).elim (fun h => wsL_law_r16_in w h) (fun h => (List.mem_append.mp h).elim (fun h => wsL_law_r17_in w h) (fun h => wsL_law_r18_in w h)))))))))))))))))) (fun h => wsX30_in w h)) (fun h => wsX40_in w h)) (fun h => wsX10_in w h)) (fun h => wsX20_in w h)) (fun h => wsX00_in w h)) (fun h => absurd h List.not_mem_nil)
theorem inlX0 : ∀ w ∈ wsX00, w ∈ wsL_law := fun _ h => List.mem_append_left _ (List.mem_append_right _ h)
theorem inX0 : ∀ w ∈ wsX00, w ∈ lw_tbl := fun w h => wsL_law_in w (inlX0 w h)
theorem inlX1 : ∀ w ∈ wsX10, w ∈ wsL_law := fun _ h => List.mem_append_left _ (List.mem_append_left _ (List.mem_append_left _ (List.mem_append_right _ h)))
theorem inX1 : ∀ w ∈ wsX10, w ∈ lw_tbl := fun w h => wsL_law_in w (inlX1 w h)
theorem inlX2 : ∀ w ∈ wsX20, w ∈ wsL_law := fun _ h => List.mem_append_left _ (List.mem_append_left _ (List.mem_append_right _ h))
theorem inX2 : ∀ w ∈ wsX20, w ∈ lw_tbl := fun w h => wsL_law_in w (inlX2 w h)
theorem inlX3 : ∀ w ∈ wsX30, w ∈ wsL_law := fun _ h => List.mem_append_left _ (List.mem_append_left _ (List.mem_append_left _ (List.mem_append_left _ (List.mem_append_left _ (List.mem_append_right _ h)))))
theorem inX3 : ∀ w ∈ wsX30, w ∈ lw_tbl := fun w h => wsL_law_in w (inlX3 w h)
theorem inlX4 : ∀ w ∈ wsX40, w ∈ wsL_law := fun _ h => List.mem_append_left _ (List.mem_append_left _ (List.mem_append_left _ (List.mem_append_left _ (List.mem_append_right _ h))))
theorem inX4 : ∀ w ∈ wsX40, w ∈ lw_tbl := fun w h => wsL_law_in w (inlX4 w h)
abbrev vwCl : List vw_C := [(RX0, TX0, 3), (RX1, TX1, 5), (RX2, TX2, 4), (RX3, TX3, 11), (RX4, TX4, 21)]
end
section
theorem dX0_init_0 : decode cX0_init 0 = .ok (.aload_n 0, 1) := by decide +kernel
theorem dX0_init_1 : decode cX0_init 1 = .ok (.invokespecial 1, 3) := by decide +kernel
theorem dX0_init_4 : decode cX0_init 4 = .ok (.aload_n 0, 1) := by decide +kernel
theorem dX0_init_5 : decode cX0_init 5 = .ok (.iconst 0, 1) := by decide +kernel
theorem dX0_init_6 : decode cX0_init 6 = .ok (.putfield 7, 3) := by decide +kernel
theorem dX0_init_9 : decode cX0_init 9 = .ok (.aload_n 0, 1) := by decide +kernel
theorem dX0_init_10 : decode cX0_init 10 = .ok (.iconst 0, 1) := by decide +kernel
theorem dX0_init_11 : decode cX0_init 11 = .ok (.putfield 13, 3) := by decide +kernel
theorem dX0_init_14 : decode cX0_init 14 = .ok (.aload_n 0, 1) := by decide +kernel
theorem dX0_init_15 : decode cX0_init 15 = .ok (.iconst 0, 1) := by decide +kernel
theorem dX0_init_16 : decode cX0_init 16 = .ok (.putfield 16, 3) := by decide +kernel
theorem dX0_init_19 : decode cX0_init 19 = .ok (.return_, 1) := by decide +kernel
theorem dX1_init_0 : decode cX1_init 0 = .ok (.aload_n 0, 1) := by decide +kernel
theorem dX1_init_1 : decode cX1_init 1 = .ok (.invokespecial 3, 3) := by decide +kernel
theorem dX1_init_4 : decode cX1_init 4 = .ok (.aload_n 0, 1) := by decide +kernel
theorem dX1_init_5 : decode cX1_init 5 = .ok (.bipush 96, 2) := by decide +kernel
theorem dX1_init_7 : decode cX1_init 7 = .ok (.newarray .long, 2) := by decide +kernel
theorem dX1_init_9 : decode cX1_init 9 = .ok (.putfield 9, 3) := by decide +kernel
theorem dX1_init_12 : decode cX1_init 12 = .ok (.aload_n 0, 1) := by decide +kernel
theorem dX1_init_13 : decode cX1_init 13 = .ok (.bipush 24, 2) := by decide +kernel
theorem dX1_init_15 : decode cX1_init 15 = .ok (.newarray .int, 2) := by decide +kernel
theorem dX1_init_17 : decode cX1_init 17 = .ok (.putfield 15, 3) := by decide +kernel
theorem dX1_init_20 : decode cX1_init 20 = .ok (.aload_n 0, 1) := by decide +kernel
theorem dX1_init_21 : decode cX1_init 21 = .ok (.bipush 24, 2) := by decide +kernel
theorem dX1_init_23 : decode cX1_init 23 = .ok (.newarray .long, 2) := by decide +kernel
theorem dX1_init_25 : decode cX1_init 25 = .ok (.putfield 19, 3) := by decide +kernel
theorem dX1_init_28 : decode cX1_init 28 = .ok (.aload_n 0, 1) := by decide +kernel
theorem dX1_init_29 : decode cX1_init 29 = .ok (.iconst 4, 1) := by decide +kernel
theorem dX1_init_30 : decode cX1_init 30 = .ok (.newarray .long, 2) := by decide +kernel
theorem dX1_init_32 : decode cX1_init 32 = .ok (.putfield 22, 3) := by decide +kernel
theorem dX1_init_35 : decode cX1_init 35 = .ok (.aload_n 0, 1) := by decide +kernel
theorem dX1_init_36 : decode cX1_init 36 = .ok (.iconst 0, 1) := by decide +kernel
theorem dX1_init_37 : decode cX1_init 37 = .ok (.putfield 25, 3) := by decide +kernel
theorem dX1_init_40 : decode cX1_init 40 = .ok (.return_, 1) := by decide +kernel
theorem dX1_has_0 : decode cX1_has 0 = .ok (.iload_n 1, 1) := by decide +kernel
theorem dX1_has_1 : decode cX1_has 1 = .ok (.ifCond .lt 15, 3) := by decide +kernel
theorem dX1_has_4 : decode cX1_has 4 = .ok (.iload_n 1, 1) := by decide +kernel
theorem dX1_has_5 : decode cX1_has 5 = .ok (.aload_n 0, 1) := by decide +kernel
theorem dX1_has_6 : decode cX1_has 6 = .ok (.getfield 25, 3) := by decide +kernel
theorem dX1_has_9 : decode cX1_has 9 = .ok (.if_icmp .ge 7, 3) := by decide +kernel
theorem dX1_has_12 : decode cX1_has 12 = .ok (.iconst 1, 1) := by decide +kernel
theorem dX1_has_13 : decode cX1_has 13 = .ok (.goto 4, 3) := by decide +kernel
theorem dX1_has_16 : decode cX1_has 16 = .ok (.iconst 0, 1) := by decide +kernel
theorem dX1_has_17 : decode cX1_has 17 = .ok (.ireturn, 1) := by decide +kernel
set_option maxRecDepth 20000 in
theorem ggX1_enter_X1_isLike : GoodIn wsX1_enter wsX1_isLike := goodIn_r _ [6, 7, 8, 20, 21, 22, 23, 24] (by decide +kernel) (by decide +kernel)
set_option maxRecDepth 20000 in
theorem gX1_enter_X1_isLike : GoodIn wsX1_enter (wsV RX1 29 RX1 yX1_isLike wsX1_isLike) := goodIn_app (goodIn_of _ (by decide +kernel)) ggX1_enter_X1_isLike
set_option maxRecDepth 20000 in
theorem ggX1_enter_X1_add : GoodIn wsX1_enter wsX1_add := goodIn_r _ [12, 1, 8, 13, 7, 14, 15, 16, 17, 18, 19, 20, 21, 22, 23, 24] (by decide +kernel) (by decide +kernel)
set_option maxRecDepth 20000 in
theorem gX1_enter_X1_add : GoodIn wsX1_enter (wsV RX1 33 RX1 yX1_add wsX1_add) := goodIn_app (goodIn_of _ (by decide +kernel)) ggX1_enter_X1_add
theorem dX1_enter_0 : decode cX1_enter 0 = .ok (.iconst 0, 1) := by decide +kernel
theorem dX1_enter_1 : decode cX1_enter 1 = .ok (.istore_n 3, 1) := by decide +kernel
theorem dX1_enter_2 : decode cX1_enter 2 = .ok (.iload_n 3, 1) := by decide +kernel
theorem dX1_enter_3 : decode cX1_enter 3 = .ok (.aload_n 0, 1) := by decide +kernel
theorem dX1_enter_4 : decode cX1_enter 4 = .ok (.getfield 25, 3) := by decide +kernel
theorem dX1_enter_7 : decode cX1_enter 7 = .ok (.if_icmp .ge 21, 3) := by decide +kernel
theorem dX1_enter_10 : decode cX1_enter 10 = .ok (.aload_n 0, 1) := by decide +kernel
theorem dX1_enter_11 : decode cX1_enter 11 = .ok (.iload_n 3, 1) := by decide +kernel
theorem dX1_enter_12 : decode cX1_enter 12 = .ok (.aload_n 1, 1) := by decide +kernel
theorem dX1_enter_13 : decode cX1_enter 13 = .ok (.iload_n 2, 1) := by decide +kernel
theorem dX1_enter_14 : decode cX1_enter 14 = .ok (.invokevirtual 29, 3) := by decide +kernel
theorem dX1_enter_17 : decode cX1_enter 17 = .ok (.ifCond .eq 5, 3) := by decide +kernel
theorem dX1_enter_20 : decode cX1_enter 20 = .ok (.iload_n 3, 1) := by decide +kernel
theorem dX1_enter_21 : decode cX1_enter 21 = .ok (.ireturn, 1) := by decide +kernel
theorem dX1_enter_22 : decode cX1_enter 22 = .ok (.iinc 3 1, 3) := by decide +kernel
theorem dX1_enter_25 : decode cX1_enter 25 = .ok (.goto (-23), 3) := by decide +kernel
theorem dX1_enter_28 : decode cX1_enter 28 = .ok (.aload_n 0, 1) := by decide +kernel
theorem dX1_enter_29 : decode cX1_enter 29 = .ok (.getfield 25, 3) := by decide +kernel
theorem dX1_enter_32 : decode cX1_enter 32 = .ok (.bipush 24, 2) := by decide +kernel
theorem dX1_enter_34 : decode cX1_enter 34 = .ok (.if_icmp .lt 8, 3) := by decide +kernel
theorem dX1_enter_37 : decode cX1_enter 37 = .ok (.bipush (-2), 2) := by decide +kernel
theorem dX1_enter_39 : decode cX1_enter 39 = .ok (.goto 9, 3) := by decide +kernel
theorem dX1_enter_42 : decode cX1_enter 42 = .ok (.aload_n 0, 1) := by decide +kernel
theorem dX1_enter_43 : decode cX1_enter 43 = .ok (.aload_n 1, 1) := by decide +kernel
theorem dX1_enter_44 : decode cX1_enter 44 = .ok (.iload_n 2, 1) := by decide +kernel
theorem dX1_enter_45 : decode cX1_enter 45 = .ok (.invokevirtual 33, 3) := by decide +kernel
theorem dX1_enter_48 : decode cX1_enter 48 = .ok (.ireturn, 1) := by decide +kernel
set_option maxRecDepth 20000 in
theorem ggX1_enterChild_X1_enter : GoodIn wsX1_enterChild wsX1_enter := goodIn_r _ [8, 9, 10, 11, 12, 7, 13, 1, 3, 14, 15, 16, 17, 18, 19, 20, 21, 22, 23, 24, 25, 26, 27, 28, 29] (by decide +kernel) (by decide +kernel)
set_option maxRecDepth 20000 in
theorem gX1_enterChild_X1_enter : GoodIn wsX1_enterChild (wsV RX1 37 RX1 yX1_enter wsX1_enter) := goodIn_app (goodIn_of _ (by decide +kernel)) ggX1_enterChild_X1_enter
theorem dX1_enterChild_0 : decode cX1_enterChild 0 = .ok (.aload_n 0, 1) := by decide +kernel
theorem dX1_enterChild_1 : decode cX1_enterChild 1 = .ok (.getfield 15, 3) := by decide +kernel
theorem dX1_enterChild_4 : decode cX1_enterChild 4 = .ok (.iload_n 1, 1) := by decide +kernel
theorem dX1_enterChild_5 : decode cX1_enterChild 5 = .ok (.iaload, 1) := by decide +kernel
theorem dX1_enterChild_6 : decode cX1_enterChild 6 = .ok (.istore 4, 2) := by decide +kernel
theorem dX1_enterChild_8 : decode cX1_enterChild 8 = .ok (.iload 4, 2) := by decide +kernel
theorem dX1_enterChild_10 : decode cX1_enterChild 10 = .ok (.iconst 4, 1) := by decide +kernel
theorem dX1_enterChild_11 : decode cX1_enterChild 11 = .ok (.if_icmp .lt 6, 3) := by decide +kernel
theorem dX1_enterChild_14 : decode cX1_enterChild 14 = .ok (.bipush (-2), 2) := by decide +kernel
theorem dX1_enterChild_16 : decode cX1_enterChild 16 = .ok (.ireturn, 1) := by decide +kernel
theorem dX1_enterChild_17 : decode cX1_enterChild 17 = .ok (.iconst 0, 1) := by decide +kernel
theorem dX1_enterChild_18 : decode cX1_enterChild 18 = .ok (.istore 5, 2) := by decide +kernel
theorem dX1_enterChild_20 : decode cX1_enterChild 20 = .ok (.iload 5, 2) := by decide +kernel
theorem dX1_enterChild_22 : decode cX1_enterChild 22 = .ok (.iload 4, 2) := by decide +kernel
theorem dX1_enterChild_24 : decode cX1_enterChild 24 = .ok (.if_icmp .ge 27, 3) := by decide +kernel
theorem dX1_enterChild_27 : decode cX1_enterChild 27 = .ok (.aload_n 0, 1) := by decide +kernel
theorem dX1_enterChild_28 : decode cX1_enterChild 28 = .ok (.getfield 22, 3) := by decide +kernel
theorem dX1_enterChild_31 : decode cX1_enterChild 31 = .ok (.iload 5, 2) := by decide +kernel
theorem dX1_enterChild_33 : decode cX1_enterChild 33 = .ok (.aload_n 0, 1) := by decide +kernel
theorem dX1_enterChild_34 : decode cX1_enterChild 34 = .ok (.getfield 9, 3) := by decide +kernel
theorem dX1_enterChild_37 : decode cX1_enterChild 37 = .ok (.iload_n 1, 1) := by decide +kernel
theorem dX1_enterChild_38 : decode cX1_enterChild 38 = .ok (.iconst 4, 1) := by decide +kernel
theorem dX1_enterChild_39 : decode cX1_enterChild 39 = .ok (.imul, 1) := by decide +kernel
theorem dX1_enterChild_40 : decode cX1_enterChild 40 = .ok (.iload 5, 2) := by decide +kernel
theorem dX1_enterChild_42 : decode cX1_enterChild 42 = .ok (.iadd, 1) := by decide +kernel
theorem dX1_enterChild_43 : decode cX1_enterChild 43 = .ok (.laload, 1) := by decide +kernel
theorem dX1_enterChild_44 : decode cX1_enterChild 44 = .ok (.lastore, 1) := by decide +kernel
theorem dX1_enterChild_45 : decode cX1_enterChild 45 = .ok (.iinc 5 1, 3) := by decide +kernel
theorem dX1_enterChild_48 : decode cX1_enterChild 48 = .ok (.goto (-28), 3) := by decide +kernel
theorem dX1_enterChild_51 : decode cX1_enterChild 51 = .ok (.aload_n 0, 1) := by decide +kernel
theorem dX1_enterChild_52 : decode cX1_enterChild 52 = .ok (.getfield 22, 3) := by decide +kernel
theorem dX1_enterChild_55 : decode cX1_enterChild 55 = .ok (.iload 4, 2) := by decide +kernel
theorem dX1_enterChild_57 : decode cX1_enterChild 57 = .ok (.lload_n 2, 1) := by decide +kernel
theorem dX1_enterChild_58 : decode cX1_enterChild 58 = .ok (.lastore, 1) := by decide +kernel
theorem dX1_enterChild_59 : decode cX1_enterChild 59 = .ok (.aload_n 0, 1) := by decide +kernel
theorem dX1_enterChild_60 : decode cX1_enterChild 60 = .ok (.aload_n 0, 1) := by decide +kernel
theorem dX1_enterChild_61 : decode cX1_enterChild 61 = .ok (.getfield 22, 3) := by decide +kernel
theorem dX1_enterChild_64 : decode cX1_enterChild 64 = .ok (.iload 4, 2) := by decide +kernel
theorem dX1_enterChild_66 : decode cX1_enterChild 66 = .ok (.iconst 1, 1) := by decide +kernel
theorem dX1_enterChild_67 : decode cX1_enterChild 67 = .ok (.iadd, 1) := by decide +kernel
theorem dX1_enterChild_68 : decode cX1_enterChild 68 = .ok (.invokevirtual 37, 3) := by decide +kernel
theorem dX1_enterChild_71 : decode cX1_enterChild 71 = .ok (.ireturn, 1) := by decide +kernel
theorem dX1_isLike_0 : decode cX1_isLike 0 = .ok (.aload_n 0, 1) := by decide +kernel
theorem dX1_isLike_1 : decode cX1_isLike 1 = .ok (.getfield 15, 3) := by decide +kernel
theorem dX1_isLike_4 : decode cX1_isLike 4 = .ok (.iload_n 1, 1) := by decide +kernel
theorem dX1_isLike_5 : decode cX1_isLike 5 = .ok (.iaload, 1) := by decide +kernel
theorem dX1_isLike_6 : decode cX1_isLike 6 = .ok (.iload_n 3, 1) := by decide +kernel
theorem dX1_isLike_7 : decode cX1_isLike 7 = .ok (.if_icmp .eq 5, 3) := by decide +kernel
theorem dX1_isLike_10 : decode cX1_isLike 10 = .ok (.iconst 0, 1) := by decide +kernel
theorem dX1_isLike_11 : decode cX1_isLike 11 = .ok (.ireturn, 1) := by decide +kernel
theorem dX1_isLike_12 : decode cX1_isLike 12 = .ok (.iconst 0, 1) := by decide +kernel
theorem dX1_isLike_13 : decode cX1_isLike 13 = .ok (.istore 4, 2) := by decide +kernel
theorem dX1_isLike_15 : decode cX1_isLike 15 = .ok (.iload 4, 2) := by decide +kernel
theorem dX1_isLike_17 : decode cX1_isLike 17 = .ok (.iload_n 3, 1) := by decide +kernel
theorem dX1_isLike_18 : decode cX1_isLike 18 = .ok (.if_icmp .ge 30, 3) := by decide +kernel
theorem dX1_isLike_21 : decode cX1_isLike 21 = .ok (.aload_n 0, 1) := by decide +kernel
theorem dX1_isLike_22 : decode cX1_isLike 22 = .ok (.getfield 9, 3) := by decide +kernel
theorem dX1_isLike_25 : decode cX1_isLike 25 = .ok (.iload_n 1, 1) := by decide +kernel
theorem dX1_isLike_26 : decode cX1_isLike 26 = .ok (.iconst 4, 1) := by decide +kernel
theorem dX1_isLike_27 : decode cX1_isLike 27 = .ok (.imul, 1) := by decide +kernel
theorem dX1_isLike_28 : decode cX1_isLike 28 = .ok (.iload 4, 2) := by decide +kernel
theorem dX1_isLike_30 : decode cX1_isLike 30 = .ok (.iadd, 1) := by decide +kernel
theorem dX1_isLike_31 : decode cX1_isLike 31 = .ok (.laload, 1) := by decide +kernel
theorem dX1_isLike_32 : decode cX1_isLike 32 = .ok (.aload_n 2, 1) := by decide +kernel
theorem dX1_isLike_33 : decode cX1_isLike 33 = .ok (.iload 4, 2) := by decide +kernel
theorem dX1_isLike_35 : decode cX1_isLike 35 = .ok (.laload, 1) := by decide +kernel
theorem dX1_isLike_36 : decode cX1_isLike 36 = .ok (.lcmp, 1) := by decide +kernel
theorem dX1_isLike_37 : decode cX1_isLike 37 = .ok (.ifCond .eq 5, 3) := by decide +kernel
theorem dX1_isLike_40 : decode cX1_isLike 40 = .ok (.iconst 0, 1) := by decide +kernel
theorem dX1_isLike_41 : decode cX1_isLike 41 = .ok (.ireturn, 1) := by decide +kernel
theorem dX1_isLike_42 : decode cX1_isLike 42 = .ok (.iinc 4 1, 3) := by decide +kernel
theorem dX1_isLike_45 : decode cX1_isLike 45 = .ok (.goto (-30), 3) := by decide +kernel
theorem dX1_isLike_48 : decode cX1_isLike 48 = .ok (.iconst 1, 1) := by decide +kernel
theorem dX1_isLike_49 : decode cX1_isLike 49 = .ok (.ireturn, 1) := by decide +kernel
set_option maxRecDepth 20000 in
theorem ggX1_add_X3_mix : GoodIn wsX1_add wsX3_mix := goodIn_r _ [8, 9, 10] (by decide +kernel) (by decide +kernel)
set_option maxRecDepth 20000 in
theorem gX1_add_X3_mix_n42 : GoodIn wsX1_add (wsX3_mix) := ggX1_add_X3_mix
theorem dX1_add_0 : decode cX1_add 0 = .ok (.aload_n 0, 1) := by decide +kernel
theorem dX1_add_1 : decode cX1_add 1 = .ok (.getfield 25, 3) := by decide +kernel
theorem dX1_add_4 : decode cX1_add 4 = .ok (.istore_n 3, 1) := by decide +kernel
theorem dX1_add_5 : decode cX1_add 5 = .ok (.lconst 0, 1) := by decide +kernel
theorem dX1_add_6 : decode cX1_add 6 = .ok (.lstore 4, 2) := by decide +kernel
theorem dX1_add_8 : decode cX1_add 8 = .ok (.iconst 0, 1) := by decide +kernel
theorem dX1_add_9 : decode cX1_add 9 = .ok (.istore 6, 2) := by decide +kernel
theorem dX1_add_11 : decode cX1_add 11 = .ok (.iload 6, 2) := by decide +kernel
theorem dX1_add_13 : decode cX1_add 13 = .ok (.iload_n 2, 1) := by decide +kernel
theorem dX1_add_14 : decode cX1_add 14 = .ok (.if_icmp .ge 40, 3) := by decide +kernel
theorem dX1_add_17 : decode cX1_add 17 = .ok (.aload_n 0, 1) := by decide +kernel
theorem dX1_add_18 : decode cX1_add 18 = .ok (.getfield 9, 3) := by decide +kernel
theorem dX1_add_21 : decode cX1_add 21 = .ok (.iload_n 3, 1) := by decide +kernel
theorem dX1_add_22 : decode cX1_add 22 = .ok (.iconst 4, 1) := by decide +kernel
theorem dX1_add_23 : decode cX1_add 23 = .ok (.imul, 1) := by decide +kernel
theorem dX1_add_24 : decode cX1_add 24 = .ok (.iload 6, 2) := by decide +kernel
theorem dX1_add_26 : decode cX1_add 26 = .ok (.iadd, 1) := by decide +kernel
theorem dX1_add_27 : decode cX1_add 27 = .ok (.aload_n 1, 1) := by decide +kernel
theorem dX1_add_28 : decode cX1_add 28 = .ok (.iload 6, 2) := by decide +kernel
theorem dX1_add_30 : decode cX1_add 30 = .ok (.laload, 1) := by decide +kernel
theorem dX1_add_31 : decode cX1_add 31 = .ok (.lastore, 1) := by decide +kernel
theorem dX1_add_32 : decode cX1_add 32 = .ok (.lload 4, 2) := by decide +kernel
theorem dX1_add_34 : decode cX1_add 34 = .ok (.ldc2_w 40, 3) := by decide +kernel
theorem dX1_add_37 : decode cX1_add 37 = .ok (.ladd, 1) := by decide +kernel
theorem dX1_add_38 : decode cX1_add 38 = .ok (.aload_n 1, 1) := by decide +kernel
theorem dX1_add_39 : decode cX1_add 39 = .ok (.iload 6, 2) := by decide +kernel
theorem dX1_add_41 : decode cX1_add 41 = .ok (.laload, 1) := by decide +kernel
theorem dX1_add_42 : decode cX1_add 42 = .ok (.lxor, 1) := by decide +kernel
theorem dX1_add_43 : decode cX1_add 43 = .ok (.invokestatic 42, 3) := by decide +kernel
theorem dX1_add_46 : decode cX1_add 46 = .ok (.lstore 4, 2) := by decide +kernel
theorem dX1_add_48 : decode cX1_add 48 = .ok (.iinc 6 1, 3) := by decide +kernel
theorem dX1_add_51 : decode cX1_add 51 = .ok (.goto (-40), 3) := by decide +kernel
theorem dX1_add_54 : decode cX1_add 54 = .ok (.aload_n 0, 1) := by decide +kernel
theorem dX1_add_55 : decode cX1_add 55 = .ok (.getfield 15, 3) := by decide +kernel
theorem dX1_add_58 : decode cX1_add 58 = .ok (.iload_n 3, 1) := by decide +kernel
theorem dX1_add_59 : decode cX1_add 59 = .ok (.iload_n 2, 1) := by decide +kernel
theorem dX1_add_60 : decode cX1_add 60 = .ok (.iastore, 1) := by decide +kernel
theorem dX1_add_61 : decode cX1_add 61 = .ok (.aload_n 0, 1) := by decide +kernel
theorem dX1_add_62 : decode cX1_add 62 = .ok (.getfield 19, 3) := by decide +kernel
theorem dX1_add_65 : decode cX1_add 65 = .ok (.iload_n 3, 1) := by decide +kernel
theorem dX1_add_66 : decode cX1_add 66 = .ok (.lload 4, 2) := by decide +kernel
theorem dX1_add_68 : decode cX1_add 68 = .ok (.lastore, 1) := by decide +kernel
theorem dX1_add_69 : decode cX1_add 69 = .ok (.aload_n 0, 1) := by decide +kernel
theorem dX1_add_70 : decode cX1_add 70 = .ok (.dup, 1) := by decide +kernel
theorem dX1_add_71 : decode cX1_add 71 = .ok (.getfield 25, 3) := by decide +kernel
theorem dX1_add_74 : decode cX1_add 74 = .ok (.iconst 1, 1) := by decide +kernel
theorem dX1_add_75 : decode cX1_add 75 = .ok (.iadd, 1) := by decide +kernel
theorem dX1_add_76 : decode cX1_add 76 = .ok (.putfield 25, 3) := by decide +kernel
theorem dX1_add_79 : decode cX1_add 79 = .ok (.iload_n 3, 1) := by decide +kernel
theorem dX1_add_80 : decode cX1_add 80 = .ok (.ireturn, 1) := by decide +kernel
theorem dX2_init_0 : decode cX2_init 0 = .ok (.aload_n 0, 1) := by decide +kernel
theorem dX2_init_1 : decode cX2_init 1 = .ok (.invokespecial 1, 3) := by decide +kernel
theorem dX2_init_4 : decode cX2_init 4 = .ok (.aload_n 0, 1) := by decide +kernel
theorem dX2_init_5 : decode cX2_init 5 = .ok (.iconst 0, 1) := by decide +kernel
theorem dX2_init_6 : decode cX2_init 6 = .ok (.putfield 7, 3) := by decide +kernel
theorem dX2_init_9 : decode cX2_init 9 = .ok (.aload_n 0, 1) := by decide +kernel
theorem dX2_init_10 : decode cX2_init 10 = .ok (.iconst 0, 1) := by decide +kernel
theorem dX2_init_11 : decode cX2_init 11 = .ok (.putfield 13, 3) := by decide +kernel
theorem dX2_init_14 : decode cX2_init 14 = .ok (.aload_n 0, 1) := by decide +kernel
theorem dX2_init_15 : decode cX2_init 15 = .ok (.lload_n 1, 1) := by decide +kernel
theorem dX2_init_16 : decode cX2_init 16 = .ok (.putfield 16, 3) := by decide +kernel
theorem dX2_init_19 : decode cX2_init 19 = .ok (.aload_n 0, 1) := by decide +kernel
theorem dX2_init_20 : decode cX2_init 20 = .ok (.iload_n 3, 1) := by decide +kernel
theorem dX2_init_21 : decode cX2_init 21 = .ok (.putfield 20, 3) := by decide +kernel
theorem dX2_init_24 : decode cX2_init 24 = .ok (.return_, 1) := by decide +kernel
set_option maxRecDepth 20000 in
theorem ggX3_init_X1_init : GoodIn wsX3_init wsX1_init := goodIn_r _ [23, 24, 2, 3, 4, 25, 12, 26, 27, 28, 29, 41, 42, 43, 44, 45] (by decide +kernel) (by decide +kernel)
set_option maxRecDepth 20000 in
theorem gX3_init_X1_init_n19 : GoodIn wsX3_init (wsX1_init) := ggX3_init_X1_init
theorem dX3_init_0 : decode cX3_init 0 = .ok (.aload_n 0, 1) := by decide +kernel
theorem dX3_init_1 : decode cX3_init 1 = .ok (.invokespecial 1, 3) := by decide +kernel
theorem dX3_init_4 : decode cX3_init 4 = .ok (.aload_n 0, 1) := by decide +kernel
theorem dX3_init_5 : decode cX3_init 5 = .ok (.iconst 4, 1) := by decide +kernel
theorem dX3_init_6 : decode cX3_init 6 = .ok (.newarray .long, 2) := by decide +kernel
theorem dX3_init_8 : decode cX3_init 8 = .ok (.putfield 9, 3) := by decide +kernel
theorem dX3_init_11 : decode cX3_init 11 = .ok (.aload_n 0, 1) := by decide +kernel
theorem dX3_init_12 : decode cX3_init 12 = .ok (.iconst 0, 1) := by decide +kernel
theorem dX3_init_13 : decode cX3_init 13 = .ok (.putfield 13, 3) := by decide +kernel
theorem dX3_init_16 : decode cX3_init 16 = .ok (.aload_n 0, 1) := by decide +kernel
theorem dX3_init_17 : decode cX3_init 17 = .ok (.new 17, 3) := by decide +kernel
theorem dX3_init_20 : decode cX3_init 20 = .ok (.dup, 1) := by decide +kernel
theorem dX3_init_21 : decode cX3_init 21 = .ok (.invokespecial 19, 3) := by decide +kernel
theorem dX3_init_24 : decode cX3_init 24 = .ok (.putfield 20, 3) := by decide +kernel
theorem dX3_init_27 : decode cX3_init 27 = .ok (.aload_n 0, 1) := by decide +kernel
theorem dX3_init_28 : decode cX3_init 28 = .ok (.bipush 10, 2) := by decide +kernel
theorem dX3_init_30 : decode cX3_init 30 = .ok (.newarray .long, 2) := by decide +kernel
theorem dX3_init_32 : decode cX3_init 32 = .ok (.putfield 24, 3) := by decide +kernel
theorem dX3_init_35 : decode cX3_init 35 = .ok (.aload_n 0, 1) := by decide +kernel
theorem dX3_init_36 : decode cX3_init 36 = .ok (.bipush 40, 2) := by decide +kernel
theorem dX3_init_38 : decode cX3_init 38 = .ok (.newarray .int, 2) := by decide +kernel
theorem dX3_init_40 : decode cX3_init 40 = .ok (.putfield 27, 3) := by decide +kernel
theorem dX3_init_43 : decode cX3_init 43 = .ok (.aload_n 0, 1) := by decide +kernel
theorem dX3_init_44 : decode cX3_init 44 = .ok (.bipush 8, 2) := by decide +kernel
theorem dX3_init_46 : decode cX3_init 46 = .ok (.anewarray 31, 3) := by decide +kernel
theorem dX3_init_49 : decode cX3_init 49 = .ok (.putfield 33, 3) := by decide +kernel
theorem dX3_init_52 : decode cX3_init 52 = .ok (.aload_n 0, 1) := by decide +kernel
theorem dX3_init_53 : decode cX3_init 53 = .ok (.iconst 0, 1) := by decide +kernel
theorem dX3_init_54 : decode cX3_init 54 = .ok (.putfield 37, 3) := by decide +kernel
theorem dX3_init_57 : decode cX3_init 57 = .ok (.aload_n 0, 1) := by decide +kernel
theorem dX3_init_58 : decode cX3_init 58 = .ok (.iconst 4, 1) := by decide +kernel
theorem dX3_init_59 : decode cX3_init 59 = .ok (.anewarray 40, 3) := by decide +kernel
theorem dX3_init_62 : decode cX3_init 62 = .ok (.putfield 42, 3) := by decide +kernel
theorem dX3_init_65 : decode cX3_init 65 = .ok (.aload_n 0, 1) := by decide +kernel
theorem dX3_init_66 : decode cX3_init 66 = .ok (.iconst 0, 1) := by decide +kernel
theorem dX3_init_67 : decode cX3_init 67 = .ok (.putfield 46, 3) := by decide +kernel
theorem dX3_init_70 : decode cX3_init 70 = .ok (.aload_n 0, 1) := by decide +kernel
theorem dX3_init_71 : decode cX3_init 71 = .ok (.iconst 0, 1) := by decide +kernel
theorem dX3_init_72 : decode cX3_init 72 = .ok (.putfield 49, 3) := by decide +kernel
theorem dX3_init_75 : decode cX3_init 75 = .ok (.aload_n 0, 1) := by decide +kernel
theorem dX3_init_76 : decode cX3_init 76 = .ok (.lload_n 1, 1) := by decide +kernel
theorem dX3_init_77 : decode cX3_init 77 = .ok (.putfield 52, 3) := by decide +kernel
theorem dX3_init_80 : decode cX3_init 80 = .ok (.return_, 1) := by decide +kernel
theorem dX3_part_0 : decode cX3_part 0 = .ok (.aload_n 0, 1) := by decide +kernel
theorem dX3_part_1 : decode cX3_part 1 = .ok (.getfield 13, 3) := by decide +kernel
theorem dX3_part_4 : decode cX3_part 4 = .ok (.iconst 4, 1) := by decide +kernel
theorem dX3_part_5 : decode cX3_part 5 = .ok (.if_icmp .lt 6, 3) := by decide +kernel
theorem dX3_part_8 : decode cX3_part 8 = .ok (.bipush (-2), 2) := by decide +kernel
theorem dX3_part_10 : decode cX3_part 10 = .ok (.ireturn, 1) := by decide +kernel
theorem dX3_part_11 : decode cX3_part 11 = .ok (.aload_n 0, 1) := by decide +kernel
theorem dX3_part_12 : decode cX3_part 12 = .ok (.getfield 9, 3) := by decide +kernel
theorem dX3_part_15 : decode cX3_part 15 = .ok (.aload_n 0, 1) := by decide +kernel
theorem dX3_part_16 : decode cX3_part 16 = .ok (.getfield 13, 3) := by decide +kernel
theorem dX3_part_19 : decode cX3_part 19 = .ok (.lload_n 1, 1) := by decide +kernel
theorem dX3_part_20 : decode cX3_part 20 = .ok (.lastore, 1) := by decide +kernel
theorem dX3_part_21 : decode cX3_part 21 = .ok (.aload_n 0, 1) := by decide +kernel
theorem dX3_part_22 : decode cX3_part 22 = .ok (.dup, 1) := by decide +kernel
theorem dX3_part_23 : decode cX3_part 23 = .ok (.getfield 13, 3) := by decide +kernel
theorem dX3_part_26 : decode cX3_part 26 = .ok (.iconst 1, 1) := by decide +kernel
theorem dX3_part_27 : decode cX3_part 27 = .ok (.iadd, 1) := by decide +kernel
theorem dX3_part_28 : decode cX3_part 28 = .ok (.putfield 13, 3) := by decide +kernel
theorem dX3_part_31 : decode cX3_part 31 = .ok (.aload_n 0, 1) := by decide +kernel
theorem dX3_part_32 : decode cX3_part 32 = .ok (.getfield 13, 3) := by decide +kernel
theorem dX3_part_35 : decode cX3_part 35 = .ok (.ireturn, 1) := by decide +kernel
set_option maxRecDepth 20000 in
theorem ggX3_path_X1_enter : GoodIn wsX3_path wsX1_enter := goodIn_r _ [8, 9, 10, 11, 12, 7, 13, 14, 15, 16, 17, 18, 19, 20, 21, 22, 23, 24, 25, 26, 38, 39, 40, 41, 42] (by decide +kernel) (by decide +kernel)
set_option maxRecDepth 20000 in
theorem gX3_path_X1_enter : GoodIn wsX3_path (wsV RX3 56 RX1 yX1_enter wsX1_enter) := goodIn_app (goodIn_of _ (by decide +kernel)) ggX3_path_X1_enter
theorem dX3_path_0 : decode cX3_path 0 = .ok (.aload_n 0, 1) := by decide +kernel
theorem dX3_path_1 : decode cX3_path 1 = .ok (.getfield 13, 3) := by decide +kernel
theorem dX3_path_4 : decode cX3_path 4 = .ok (.ifCond .ne 5, 3) := by decide +kernel
theorem dX3_path_7 : decode cX3_path 7 = .ok (.iconst (-1), 1) := by decide +kernel
theorem dX3_path_8 : decode cX3_path 8 = .ok (.ireturn, 1) := by decide +kernel
theorem dX3_path_9 : decode cX3_path 9 = .ok (.aload_n 0, 1) := by decide +kernel
theorem dX3_path_10 : decode cX3_path 10 = .ok (.getfield 20, 3) := by decide +kernel
theorem dX3_path_13 : decode cX3_path 13 = .ok (.aload_n 0, 1) := by decide +kernel
theorem dX3_path_14 : decode cX3_path 14 = .ok (.getfield 9, 3) := by decide +kernel
theorem dX3_path_17 : decode cX3_path 17 = .ok (.aload_n 0, 1) := by decide +kernel
theorem dX3_path_18 : decode cX3_path 18 = .ok (.getfield 13, 3) := by decide +kernel
theorem dX3_path_21 : decode cX3_path 21 = .ok (.invokevirtual 56, 3) := by decide +kernel
theorem dX3_path_24 : decode cX3_path 24 = .ok (.istore_n 1, 1) := by decide +kernel
theorem dX3_path_25 : decode cX3_path 25 = .ok (.iload_n 1, 1) := by decide +kernel
theorem dX3_path_26 : decode cX3_path 26 = .ok (.bipush (-2), 2) := by decide +kernel
theorem dX3_path_28 : decode cX3_path 28 = .ok (.if_icmp .eq 8, 3) := by decide +kernel
theorem dX3_path_31 : decode cX3_path 31 = .ok (.aload_n 0, 1) := by decide +kernel
theorem dX3_path_32 : decode cX3_path 32 = .ok (.iconst 0, 1) := by decide +kernel
theorem dX3_path_33 : decode cX3_path 33 = .ok (.putfield 13, 3) := by decide +kernel
theorem dX3_path_36 : decode cX3_path 36 = .ok (.iload_n 1, 1) := by decide +kernel
theorem dX3_path_37 : decode cX3_path 37 = .ok (.ireturn, 1) := by decide +kernel
set_option maxRecDepth 20000 in
theorem ggX3_key_X1_has : GoodIn wsX3_key wsX1_has := goodIn_r _ [8, 9, 21, 22, 23, 24, 25] (by decide +kernel) (by decide +kernel)
set_option maxRecDepth 20000 in
theorem gX3_key_X1_has : GoodIn wsX3_key (wsV RX3 60 RX1 yX1_has wsX1_has) := goodIn_app (goodIn_of _ (by decide +kernel)) ggX3_key_X1_has
theorem dX3_key_0 : decode cX3_key 0 = .ok (.aload_n 0, 1) := by decide +kernel
theorem dX3_key_1 : decode cX3_key 1 = .ok (.getfield 20, 3) := by decide +kernel
theorem dX3_key_4 : decode cX3_key 4 = .ok (.iload_n 1, 1) := by decide +kernel
theorem dX3_key_5 : decode cX3_key 5 = .ok (.invokevirtual 60, 3) := by decide +kernel
theorem dX3_key_8 : decode cX3_key 8 = .ok (.ifCond .ne 10, 3) := by decide +kernel
theorem dX3_key_11 : decode cX3_key 11 = .ok (.aload_n 0, 1) := by decide +kernel
theorem dX3_key_12 : decode cX3_key 12 = .ok (.iconst (-1), 1) := by decide +kernel
theorem dX3_key_13 : decode cX3_key 13 = .ok (.putfield 49, 3) := by decide +kernel
theorem dX3_key_16 : decode cX3_key 16 = .ok (.lconst 0, 1) := by decide +kernel
theorem dX3_key_17 : decode cX3_key 17 = .ok (.lreturn, 1) := by decide +kernel
theorem dX3_key_18 : decode cX3_key 18 = .ok (.aload_n 0, 1) := by decide +kernel
theorem dX3_key_19 : decode cX3_key 19 = .ok (.iconst 0, 1) := by decide +kernel
theorem dX3_key_20 : decode cX3_key 20 = .ok (.putfield 49, 3) := by decide +kernel
theorem dX3_key_23 : decode cX3_key 23 = .ok (.aload_n 0, 1) := by decide +kernel
theorem dX3_key_24 : decode cX3_key 24 = .ok (.getfield 20, 3) := by decide +kernel
theorem dX3_key_27 : decode cX3_key 27 = .ok (.getfield 64, 3) := by decide +kernel
theorem dX3_key_30 : decode cX3_key 30 = .ok (.iload_n 1, 1) := by decide +kernel
theorem dX3_key_31 : decode cX3_key 31 = .ok (.laload, 1) := by decide +kernel
theorem dX3_key_32 : decode cX3_key 32 = .ok (.lreturn, 1) := by decide +kernel
set_option maxRecDepth 20000 in
theorem ggX3_word_X1_has : GoodIn wsX3_word wsX1_has := goodIn_r _ [7, 8, 36, 37, 38, 39, 40] (by decide +kernel) (by decide +kernel)
set_option maxRecDepth 20000 in
theorem gX3_word_X1_has : GoodIn wsX3_word (wsV RX3 60 RX1 yX1_has wsX1_has) := goodIn_app (goodIn_of _ (by decide +kernel)) ggX3_word_X1_has
set_option maxRecDepth 20000 in
theorem ggX3_word_X3_baseOf : GoodIn wsX3_word wsX3_baseOf := goodIn_r _ [13, 14, 15, 1, 16, 17, 18, 12, 19, 20, 21, 25, 26, 27, 28, 29, 30, 31, 32, 33, 34, 35, 36, 37, 38, 39, 40] (by decide +kernel) (by decide +kernel)
set_option maxRecDepth 20000 in
theorem gX3_word_X3_baseOf : GoodIn wsX3_word (wsV RX3 67 RX3 yX3_baseOf wsX3_baseOf) := goodIn_app (goodIn_of _ (by decide +kernel)) ggX3_word_X3_baseOf
set_option maxRecDepth 20000 in
theorem ggX3_word_X3_wordAt : GoodIn wsX3_word wsX3_wordAt := goodIn_r _ [24, 15, 17, 18, 12, 19, 20, 21] (by decide +kernel) (by decide +kernel)
set_option maxRecDepth 20000 in
theorem gX3_word_X3_wordAt : GoodIn wsX3_word (va_wsS RX3 71 yX3_wordAt wsX3_wordAt) := goodIn_app (goodIn_of _ (by decide +kernel)) ggX3_word_X3_wordAt
theorem dX3_word_0 : decode cX3_word 0 = .ok (.aload_n 0, 1) := by decide +kernel
theorem dX3_word_1 : decode cX3_word 1 = .ok (.getfield 20, 3) := by decide +kernel
theorem dX3_word_4 : decode cX3_word 4 = .ok (.iload_n 3, 1) := by decide +kernel
theorem dX3_word_5 : decode cX3_word 5 = .ok (.invokevirtual 60, 3) := by decide +kernel
theorem dX3_word_8 : decode cX3_word 8 = .ok (.ifCond .ne 10, 3) := by decide +kernel
theorem dX3_word_11 : decode cX3_word 11 = .ok (.aload_n 0, 1) := by decide +kernel
theorem dX3_word_12 : decode cX3_word 12 = .ok (.iconst (-1), 1) := by decide +kernel
theorem dX3_word_13 : decode cX3_word 13 = .ok (.putfield 49, 3) := by decide +kernel
theorem dX3_word_16 : decode cX3_word 16 = .ok (.lconst 0, 1) := by decide +kernel
theorem dX3_word_17 : decode cX3_word 17 = .ok (.lreturn, 1) := by decide +kernel
theorem dX3_word_18 : decode cX3_word 18 = .ok (.aload_n 0, 1) := by decide +kernel
theorem dX3_word_19 : decode cX3_word 19 = .ok (.iconst 0, 1) := by decide +kernel
theorem dX3_word_20 : decode cX3_word 20 = .ok (.putfield 49, 3) := by decide +kernel
theorem dX3_word_23 : decode cX3_word 23 = .ok (.aload_n 0, 1) := by decide +kernel
theorem dX3_word_24 : decode cX3_word 24 = .ok (.lload_n 1, 1) := by decide +kernel
theorem dX3_word_25 : decode cX3_word 25 = .ok (.iload_n 3, 1) := by decide +kernel
theorem dX3_word_26 : decode cX3_word 26 = .ok (.invokevirtual 67, 3) := by decide +kernel
theorem dX3_word_29 : decode cX3_word 29 = .ok (.lload 4, 2) := by decide +kernel
theorem dX3_word_31 : decode cX3_word 31 = .ok (.invokestatic 71, 3) := by decide +kernel
theorem dX3_word_34 : decode cX3_word 34 = .ok (.lreturn, 1) := by decide +kernel
set_option maxRecDepth 20000 in
theorem ggX3_span_X1_has : GoodIn wsX3_span wsX1_has := goodIn_r _ [8, 9, 54, 55, 56, 57, 58] (by decide +kernel) (by decide +kernel)
set_option maxRecDepth 20000 in
theorem gX3_span_X1_has : GoodIn wsX3_span (wsV RX3 60 RX1 yX1_has wsX1_has) := goodIn_app (goodIn_of _ (by decide +kernel)) ggX3_span_X1_has
set_option maxRecDepth 20000 in
theorem ggX3_span_X3_drawSpan : GoodIn wsX3_span wsX3_drawSpan := goodIn_r _ [14, 15, 16, 17, 18, 19, 13, 20, 21, 22, 2, 23, 24, 25, 26, 27, 28, 29, 30, 31, 32, 33, 34, 35, 36, 37, 38, 39, 40, 41, 42, 43, 44, 45, 46, 47, 48, 49, 50, 51, 52, 53, 54, 55, 56, 57, 58] (by decide +kernel) (by decide +kernel)
set_option maxRecDepth 20000 in
theorem gX3_span_X3_drawSpan : GoodIn wsX3_span (wsV RX3 79 RX3 yX3_drawSpan wsX3_drawSpan) := goodIn_app (goodIn_of _ (by decide +kernel)) ggX3_span_X3_drawSpan
theorem dX3_span_0 : decode cX3_span 0 = .ok (.lload 5, 2) := by decide +kernel
theorem dX3_span_2 : decode cX3_span 2 = .ok (.lconst 0, 1) := by decide +kernel
theorem dX3_span_3 : decode cX3_span 3 = .ok (.lcmp, 1) := by decide +kernel
theorem dX3_span_4 : decode cX3_span 4 = .ok (.ifCond .ne 7, 3) := by decide +kernel
theorem dX3_span_7 : decode cX3_span 7 = .ok (.ldc2_w 75, 3) := by decide +kernel
theorem dX3_span_10 : decode cX3_span 10 = .ok (.lreturn, 1) := by decide +kernel
theorem dX3_span_11 : decode cX3_span 11 = .ok (.aload_n 0, 1) := by decide +kernel
theorem dX3_span_12 : decode cX3_span 12 = .ok (.getfield 20, 3) := by decide +kernel
theorem dX3_span_15 : decode cX3_span 15 = .ok (.iload_n 3, 1) := by decide +kernel
theorem dX3_span_16 : decode cX3_span 16 = .ok (.invokevirtual 60, 3) := by decide +kernel
theorem dX3_span_19 : decode cX3_span 19 = .ok (.ifCond .eq 15, 3) := by decide +kernel
theorem dX3_span_22 : decode cX3_span 22 = .ok (.iload 4, 2) := by decide +kernel
theorem dX3_span_24 : decode cX3_span 24 = .ok (.ifCond .lt 10, 3) := by decide +kernel
theorem dX3_span_27 : decode cX3_span 27 = .ok (.lload 5, 2) := by decide +kernel
theorem dX3_span_29 : decode cX3_span 29 = .ok (.lconst 0, 1) := by decide +kernel
theorem dX3_span_30 : decode cX3_span 30 = .ok (.lcmp, 1) := by decide +kernel
theorem dX3_span_31 : decode cX3_span 31 = .ok (.ifCond .ge 7, 3) := by decide +kernel
theorem dX3_span_34 : decode cX3_span 34 = .ok (.ldc2_w 77, 3) := by decide +kernel
theorem dX3_span_37 : decode cX3_span 37 = .ok (.lreturn, 1) := by decide +kernel
theorem dX3_span_38 : decode cX3_span 38 = .ok (.aload_n 0, 1) := by decide +kernel
theorem dX3_span_39 : decode cX3_span 39 = .ok (.lload_n 1, 1) := by decide +kernel
theorem dX3_span_40 : decode cX3_span 40 = .ok (.iload_n 3, 1) := by decide +kernel
theorem dX3_span_41 : decode cX3_span 41 = .ok (.iload 4, 2) := by decide +kernel
theorem dX3_span_43 : decode cX3_span 43 = .ok (.lload 5, 2) := by decide +kernel
theorem dX3_span_45 : decode cX3_span 45 = .ok (.invokevirtual 79, 3) := by decide +kernel
theorem dX3_span_48 : decode cX3_span 48 = .ok (.lreturn, 1) := by decide +kernel
set_option maxRecDepth 20000 in
theorem ggX3_fraction_X1_has : GoodIn wsX3_fraction wsX1_has := goodIn_r _ [6, 7, 44, 45, 46, 47, 48] (by decide +kernel) (by decide +kernel)
set_option maxRecDepth 20000 in
theorem gX3_fraction_X1_has : GoodIn wsX3_fraction (wsV RX3 60 RX1 yX1_has wsX1_has) := goodIn_app (goodIn_of _ (by decide +kernel)) ggX3_fraction_X1_has
set_option maxRecDepth 20000 in
theorem ggX3_fraction_X3_drawFraction : GoodIn wsX3_fraction wsX3_drawFraction := goodIn_r _ [12, 13, 14, 15, 16, 11, 17, 18, 19, 1, 20, 21, 22, 23, 24, 25, 26, 27, 28, 29, 30, 31, 32, 33, 34, 35, 36, 37, 38, 39, 40, 41, 42, 43, 44, 45, 46, 47, 48] (by decide +kernel) (by decide +kernel)
set_option maxRecDepth 20000 in
theorem gX3_fraction_X3_drawFraction : GoodIn wsX3_fraction (wsV RX3 83 RX3 yX3_drawFraction wsX3_drawFraction) := goodIn_app (goodIn_of _ (by decide +kernel)) ggX3_fraction_X3_drawFraction
theorem dX3_fraction_0 : decode cX3_fraction 0 = .ok (.aload_n 0, 1) := by decide +kernel
theorem dX3_fraction_1 : decode cX3_fraction 1 = .ok (.getfield 20, 3) := by decide +kernel
theorem dX3_fraction_4 : decode cX3_fraction 4 = .ok (.iload_n 3, 1) := by decide +kernel
theorem dX3_fraction_5 : decode cX3_fraction 5 = .ok (.invokevirtual 60, 3) := by decide +kernel
theorem dX3_fraction_8 : decode cX3_fraction 8 = .ok (.ifCond .eq 30, 3) := by decide +kernel
theorem dX3_fraction_11 : decode cX3_fraction 11 = .ok (.iload 4, 2) := by decide +kernel
theorem dX3_fraction_13 : decode cX3_fraction 13 = .ok (.ifCond .lt 25, 3) := by decide +kernel
theorem dX3_fraction_16 : decode cX3_fraction 16 = .ok (.lload 7, 2) := by decide +kernel
theorem dX3_fraction_18 : decode cX3_fraction 18 = .ok (.lconst 0, 1) := by decide +kernel
theorem dX3_fraction_19 : decode cX3_fraction 19 = .ok (.lcmp, 1) := by decide +kernel
theorem dX3_fraction_20 : decode cX3_fraction 20 = .ok (.ifCond .lt 18, 3) := by decide +kernel
theorem dX3_fraction_23 : decode cX3_fraction 23 = .ok (.lload 5, 2) := by decide +kernel
theorem dX3_fraction_25 : decode cX3_fraction 25 = .ok (.lconst 0, 1) := by decide +kernel
theorem dX3_fraction_26 : decode cX3_fraction 26 = .ok (.lcmp, 1) := by decide +kernel
theorem dX3_fraction_27 : decode cX3_fraction 27 = .ok (.ifCond .lt 11, 3) := by decide +kernel
theorem dX3_fraction_30 : decode cX3_fraction 30 = .ok (.lload 5, 2) := by decide +kernel
theorem dX3_fraction_32 : decode cX3_fraction 32 = .ok (.lload 7, 2) := by decide +kernel
theorem dX3_fraction_34 : decode cX3_fraction 34 = .ok (.lcmp, 1) := by decide +kernel
theorem dX3_fraction_35 : decode cX3_fraction 35 = .ok (.ifCond .le 5, 3) := by decide +kernel
theorem dX3_fraction_38 : decode cX3_fraction 38 = .ok (.iconst (-1), 1) := by decide +kernel
theorem dX3_fraction_39 : decode cX3_fraction 39 = .ok (.ireturn, 1) := by decide +kernel
theorem dX3_fraction_40 : decode cX3_fraction 40 = .ok (.lload 7, 2) := by decide +kernel
theorem dX3_fraction_42 : decode cX3_fraction 42 = .ok (.lconst 0, 1) := by decide +kernel
theorem dX3_fraction_43 : decode cX3_fraction 43 = .ok (.lcmp, 1) := by decide +kernel
theorem dX3_fraction_44 : decode cX3_fraction 44 = .ok (.ifCond .ne 6, 3) := by decide +kernel
theorem dX3_fraction_47 : decode cX3_fraction 47 = .ok (.bipush (-4), 2) := by decide +kernel
theorem dX3_fraction_49 : decode cX3_fraction 49 = .ok (.ireturn, 1) := by decide +kernel
theorem dX3_fraction_50 : decode cX3_fraction 50 = .ok (.aload_n 0, 1) := by decide +kernel
theorem dX3_fraction_51 : decode cX3_fraction 51 = .ok (.lload_n 1, 1) := by decide +kernel
theorem dX3_fraction_52 : decode cX3_fraction 52 = .ok (.iload_n 3, 1) := by decide +kernel
theorem dX3_fraction_53 : decode cX3_fraction 53 = .ok (.iload 4, 2) := by decide +kernel
theorem dX3_fraction_55 : decode cX3_fraction 55 = .ok (.lload 5, 2) := by decide +kernel
theorem dX3_fraction_57 : decode cX3_fraction 57 = .ok (.lload 7, 2) := by decide +kernel
theorem dX3_fraction_59 : decode cX3_fraction 59 = .ok (.invokevirtual 83, 3) := by decide +kernel
theorem dX3_fraction_62 : decode cX3_fraction 62 = .ok (.ireturn, 1) := by decide +kernel
theorem dX3_weight_0 : decode cX3_weight 0 = .ok (.iload_n 1, 1) := by decide +kernel
theorem dX3_weight_1 : decode cX3_weight 1 = .ok (.ifCond .lt 15, 3) := by decide +kernel
theorem dX3_weight_4 : decode cX3_weight 4 = .ok (.iload_n 1, 1) := by decide +kernel
theorem dX3_weight_5 : decode cX3_weight 5 = .ok (.bipush 10, 2) := by decide +kernel
theorem dX3_weight_7 : decode cX3_weight 7 = .ok (.if_icmp .ge 9, 3) := by decide +kernel
theorem dX3_weight_10 : decode cX3_weight 10 = .ok (.lload_n 2, 1) := by decide +kernel
theorem dX3_weight_11 : decode cX3_weight 11 = .ok (.lconst 0, 1) := by decide +kernel
theorem dX3_weight_12 : decode cX3_weight 12 = .ok (.lcmp, 1) := by decide +kernel
theorem dX3_weight_13 : decode cX3_weight 13 = .ok (.ifCond .ge 5, 3) := by decide +kernel
theorem dX3_weight_16 : decode cX3_weight 16 = .ok (.iconst (-1), 1) := by decide +kernel
theorem dX3_weight_17 : decode cX3_weight 17 = .ok (.ireturn, 1) := by decide +kernel
theorem dX3_weight_18 : decode cX3_weight 18 = .ok (.aload_n 0, 1) := by decide +kernel
theorem dX3_weight_19 : decode cX3_weight 19 = .ok (.getfield 24, 3) := by decide +kernel
theorem dX3_weight_22 : decode cX3_weight 22 = .ok (.iload_n 1, 1) := by decide +kernel
theorem dX3_weight_23 : decode cX3_weight 23 = .ok (.lload_n 2, 1) := by decide +kernel
theorem dX3_weight_24 : decode cX3_weight 24 = .ok (.lastore, 1) := by decide +kernel
theorem dX3_weight_25 : decode cX3_weight 25 = .ok (.iconst 1, 1) := by decide +kernel
theorem dX3_weight_26 : decode cX3_weight 26 = .ok (.ireturn, 1) := by decide +kernel
set_option maxRecDepth 20000 in
theorem ggX3_pick_X1_has : GoodIn wsX3_pick wsX1_has := goodIn_r _ [6, 7, 66, 67, 68, 69, 70] (by decide +kernel) (by decide +kernel)
set_option maxRecDepth 20000 in
theorem gX3_pick_X1_has : GoodIn wsX3_pick (wsV RX3 60 RX1 yX1_has wsX1_has) := goodIn_app (goodIn_of _ (by decide +kernel)) ggX3_pick_X1_has
set_option maxRecDepth 20000 in
theorem ggX3_pick_X3_drawPick : GoodIn wsX3_pick wsX3_drawPick := goodIn_r _ [12, 13, 14, 15, 11, 16, 17, 18, 19, 20, 21, 22, 23, 24, 25, 26, 27, 28, 29, 30, 1, 31, 32, 33, 34, 35, 36, 37, 38, 39, 40, 41, 42, 43, 44, 45, 46, 47, 48, 49, 50, 51, 52, 53, 54, 55, 56, 57, 58, 59, 60, 61, 62, 63, 64, 65, 66, 67, 68, 69, 70] (by decide +kernel) (by decide +kernel)
set_option maxRecDepth 20000 in
theorem gX3_pick_X3_drawPick : GoodIn wsX3_pick (wsV RX3 87 RX3 yX3_drawPick wsX3_drawPick) := goodIn_app (goodIn_of _ (by decide +kernel)) ggX3_pick_X3_drawPick
theorem dX3_pick_0 : decode cX3_pick 0 = .ok (.aload_n 0, 1) := by decide +kernel
theorem dX3_pick_1 : decode cX3_pick 1 = .ok (.getfield 20, 3) := by decide +kernel
theorem dX3_pick_4 : decode cX3_pick 4 = .ok (.iload_n 3, 1) := by decide +kernel
theorem dX3_pick_5 : decode cX3_pick 5 = .ok (.invokevirtual 60, 3) := by decide +kernel
theorem dX3_pick_8 : decode cX3_pick 8 = .ok (.ifCond .eq 8, 3) := by decide +kernel
theorem dX3_pick_11 : decode cX3_pick 11 = .ok (.iload 4, 2) := by decide +kernel
theorem dX3_pick_13 : decode cX3_pick 13 = .ok (.ifCond .ge 5, 3) := by decide +kernel
theorem dX3_pick_16 : decode cX3_pick 16 = .ok (.iconst (-1), 1) := by decide +kernel
theorem dX3_pick_17 : decode cX3_pick 17 = .ok (.ireturn, 1) := by decide +kernel
theorem dX3_pick_18 : decode cX3_pick 18 = .ok (.aload_n 0, 1) := by decide +kernel
theorem dX3_pick_19 : decode cX3_pick 19 = .ok (.lload_n 1, 1) := by decide +kernel
theorem dX3_pick_20 : decode cX3_pick 20 = .ok (.iload_n 3, 1) := by decide +kernel
theorem dX3_pick_21 : decode cX3_pick 21 = .ok (.iload 4, 2) := by decide +kernel
theorem dX3_pick_23 : decode cX3_pick 23 = .ok (.invokevirtual 87, 3) := by decide +kernel
theorem dX3_pick_26 : decode cX3_pick 26 = .ok (.ireturn, 1) := by decide +kernel
set_option maxRecDepth 20000 in
theorem ggX3_permuted_X1_has : GoodIn wsX3_permuted wsX1_has := goodIn_r _ [8, 9, 58, 59, 60, 61, 62] (by decide +kernel) (by decide +kernel)
set_option maxRecDepth 20000 in
theorem gX3_permuted_X1_has : GoodIn wsX3_permuted (wsV RX3 60 RX1 yX1_has wsX1_has) := goodIn_app (goodIn_of _ (by decide +kernel)) ggX3_permuted_X1_has
set_option maxRecDepth 20000 in
theorem ggX3_permuted_X3_drawPermutation : GoodIn wsX3_permuted wsX3_drawPermutation := goodIn_r _ [14, 3, 15, 16, 17, 13, 18, 19, 20, 21, 22, 23, 24, 25, 26, 1, 27, 28, 29, 30, 31, 32, 33, 34, 35, 36, 37, 38, 39, 40, 41, 42, 43, 44, 45, 46, 47, 48, 49, 50, 51, 52, 53, 54, 55, 56, 57, 58, 59, 60, 61, 62] (by decide +kernel) (by decide +kernel)
set_option maxRecDepth 20000 in
theorem gX3_permuted_X3_drawPermutation : GoodIn wsX3_permuted (wsV RX3 92 RX3 yX3_drawPermutation wsX3_drawPermutation) := goodIn_app (goodIn_of _ (by decide +kernel)) ggX3_permuted_X3_drawPermutation
theorem dX3_permuted_0 : decode cX3_permuted 0 = .ok (.aload_n 0, 1) := by decide +kernel
theorem dX3_permuted_1 : decode cX3_permuted 1 = .ok (.getfield 20, 3) := by decide +kernel
theorem dX3_permuted_4 : decode cX3_permuted 4 = .ok (.iload_n 3, 1) := by decide +kernel
theorem dX3_permuted_5 : decode cX3_permuted 5 = .ok (.invokevirtual 60, 3) := by decide +kernel
theorem dX3_permuted_8 : decode cX3_permuted 8 = .ok (.ifCond .eq 32, 3) := by decide +kernel
theorem dX3_permuted_11 : decode cX3_permuted 11 = .ok (.iload 4, 2) := by decide +kernel
theorem dX3_permuted_13 : decode cX3_permuted 13 = .ok (.ifCond .lt 27, 3) := by decide +kernel
theorem dX3_permuted_16 : decode cX3_permuted 16 = .ok (.iload 5, 2) := by decide +kernel
theorem dX3_permuted_18 : decode cX3_permuted 18 = .ok (.ifCond .lt 22, 3) := by decide +kernel
theorem dX3_permuted_21 : decode cX3_permuted 21 = .ok (.iload 5, 2) := by decide +kernel
theorem dX3_permuted_23 : decode cX3_permuted 23 = .ok (.bipush 40, 2) := by decide +kernel
theorem dX3_permuted_25 : decode cX3_permuted 25 = .ok (.if_icmp .gt 15, 3) := by decide +kernel
theorem dX3_permuted_28 : decode cX3_permuted 28 = .ok (.iload 6, 2) := by decide +kernel
theorem dX3_permuted_30 : decode cX3_permuted 30 = .ok (.ifCond .lt 10, 3) := by decide +kernel
theorem dX3_permuted_33 : decode cX3_permuted 33 = .ok (.iload 6, 2) := by decide +kernel
theorem dX3_permuted_35 : decode cX3_permuted 35 = .ok (.iload 5, 2) := by decide +kernel
theorem dX3_permuted_37 : decode cX3_permuted 37 = .ok (.if_icmp .lt 5, 3) := by decide +kernel
theorem dX3_permuted_40 : decode cX3_permuted 40 = .ok (.iconst (-1), 1) := by decide +kernel
theorem dX3_permuted_41 : decode cX3_permuted 41 = .ok (.ireturn, 1) := by decide +kernel
theorem dX3_permuted_42 : decode cX3_permuted 42 = .ok (.iload 4, 2) := by decide +kernel
theorem dX3_permuted_44 : decode cX3_permuted 44 = .ok (.ldc 91, 2) := by decide +kernel
theorem dX3_permuted_46 : decode cX3_permuted 46 = .ok (.iload 5, 2) := by decide +kernel
theorem dX3_permuted_48 : decode cX3_permuted 48 = .ok (.isub, 1) := by decide +kernel
theorem dX3_permuted_49 : decode cX3_permuted 49 = .ok (.if_icmp .le 5, 3) := by decide +kernel
theorem dX3_permuted_52 : decode cX3_permuted 52 = .ok (.iconst (-1), 1) := by decide +kernel
theorem dX3_permuted_53 : decode cX3_permuted 53 = .ok (.ireturn, 1) := by decide +kernel
theorem dX3_permuted_54 : decode cX3_permuted 54 = .ok (.aload_n 0, 1) := by decide +kernel
theorem dX3_permuted_55 : decode cX3_permuted 55 = .ok (.lload_n 1, 1) := by decide +kernel
theorem dX3_permuted_56 : decode cX3_permuted 56 = .ok (.iload_n 3, 1) := by decide +kernel
theorem dX3_permuted_57 : decode cX3_permuted 57 = .ok (.iload 4, 2) := by decide +kernel
theorem dX3_permuted_59 : decode cX3_permuted 59 = .ok (.iload 5, 2) := by decide +kernel
theorem dX3_permuted_61 : decode cX3_permuted 61 = .ok (.invokevirtual 92, 3) := by decide +kernel
theorem dX3_permuted_64 : decode cX3_permuted 64 = .ok (.ifCond .eq 13, 3) := by decide +kernel
theorem dX3_permuted_67 : decode cX3_permuted 67 = .ok (.aload_n 0, 1) := by decide +kernel
theorem dX3_permuted_68 : decode cX3_permuted 68 = .ok (.getfield 27, 3) := by decide +kernel
theorem dX3_permuted_71 : decode cX3_permuted 71 = .ok (.iload 6, 2) := by decide +kernel
end
section
theorem dX3_permuted_73 : decode cX3_permuted 73 = .ok (.iaload, 1) := by decide +kernel
theorem dX3_permuted_74 : decode cX3_permuted 74 = .ok (.goto 5, 3) := by decide +kernel
theorem dX3_permuted_77 : decode cX3_permuted 77 = .ok (.bipush (-3), 2) := by decide +kernel
theorem dX3_permuted_79 : decode cX3_permuted 79 = .ok (.ireturn, 1) := by decide +kernel
theorem dX3_tries_0 : decode cX3_tries 0 = .ok (.aload_n 0, 1) := by decide +kernel
theorem dX3_tries_1 : decode cX3_tries 1 = .ok (.getfield 46, 3) := by decide +kernel
theorem dX3_tries_4 : decode cX3_tries 4 = .ok (.ireturn, 1) := by decide +kernel
theorem dX3_status_0 : decode cX3_status 0 = .ok (.aload_n 0, 1) := by decide +kernel
theorem dX3_status_1 : decode cX3_status 1 = .ok (.getfield 49, 3) := by decide +kernel
theorem dX3_status_4 : decode cX3_status 4 = .ok (.ireturn, 1) := by decide +kernel
set_option maxRecDepth 20000 in
theorem ggX3_open_X1_has : GoodIn wsX3_open wsX1_has := goodIn_r _ [7, 8, 39, 40, 41, 42, 43] (by decide +kernel) (by decide +kernel)
set_option maxRecDepth 20000 in
theorem gX3_open_X1_has : GoodIn wsX3_open (wsV RX3 60 RX1 yX1_has wsX1_has) := goodIn_app (goodIn_of _ (by decide +kernel)) ggX3_open_X1_has
set_option maxRecDepth 20000 in
theorem ggX3_open_X3_addStream : GoodIn wsX3_open wsX3_addStream := goodIn_r _ [13, 2, 14, 15, 16, 17, 18, 19, 20, 21, 22, 23, 24, 25, 26, 27, 28, 29, 30, 31, 32, 33, 34, 35, 36, 37, 38, 44, 45, 46, 47] (by decide +kernel) (by decide +kernel)
set_option maxRecDepth 20000 in
theorem gX3_open_X3_addStream : GoodIn wsX3_open (wsV RX3 96 RX3 yX3_addStream wsX3_addStream) := goodIn_app (goodIn_of _ (by decide +kernel)) ggX3_open_X3_addStream
theorem dX3_open_0 : decode cX3_open 0 = .ok (.aload_n 0, 1) := by decide +kernel
theorem dX3_open_1 : decode cX3_open 1 = .ok (.getfield 20, 3) := by decide +kernel
theorem dX3_open_4 : decode cX3_open 4 = .ok (.iload_n 3, 1) := by decide +kernel
theorem dX3_open_5 : decode cX3_open 5 = .ok (.invokevirtual 60, 3) := by decide +kernel
theorem dX3_open_8 : decode cX3_open 8 = .ok (.ifCond .ne 5, 3) := by decide +kernel
theorem dX3_open_11 : decode cX3_open 11 = .ok (.iconst (-1), 1) := by decide +kernel
theorem dX3_open_12 : decode cX3_open 12 = .ok (.ireturn, 1) := by decide +kernel
theorem dX3_open_13 : decode cX3_open 13 = .ok (.aload_n 0, 1) := by decide +kernel
theorem dX3_open_14 : decode cX3_open 14 = .ok (.getfield 37, 3) := by decide +kernel
theorem dX3_open_17 : decode cX3_open 17 = .ok (.bipush 8, 2) := by decide +kernel
theorem dX3_open_19 : decode cX3_open 19 = .ok (.if_icmp .lt 6, 3) := by decide +kernel
theorem dX3_open_22 : decode cX3_open 22 = .ok (.bipush (-2), 2) := by decide +kernel
theorem dX3_open_24 : decode cX3_open 24 = .ok (.ireturn, 1) := by decide +kernel
theorem dX3_open_25 : decode cX3_open 25 = .ok (.aload_n 0, 1) := by decide +kernel
theorem dX3_open_26 : decode cX3_open 26 = .ok (.lload_n 1, 1) := by decide +kernel
theorem dX3_open_27 : decode cX3_open 27 = .ok (.iload_n 3, 1) := by decide +kernel
theorem dX3_open_28 : decode cX3_open 28 = .ok (.invokevirtual 96, 3) := by decide +kernel
theorem dX3_open_31 : decode cX3_open 31 = .ok (.ireturn, 1) := by decide +kernel
set_option maxRecDepth 20000 in
theorem ggX3_next_X3_streamAt : GoodIn wsX3_next wsX3_streamAt := goodIn_r _ [11, 12, 13, 51, 52, 53, 54, 55, 56, 57, 58, 59, 60, 61] (by decide +kernel) (by decide +kernel)
set_option maxRecDepth 20000 in
theorem gX3_next_X3_streamAt : GoodIn wsX3_next (wsV RX3 100 RX3 yX3_streamAt wsX3_streamAt) := goodIn_app (goodIn_of _ (by decide +kernel)) ggX3_next_X3_streamAt
set_option maxRecDepth 20000 in
theorem ggX3_next_X3_drawSpan : GoodIn wsX3_next wsX3_drawSpan := goodIn_r _ [17, 18, 19, 20, 21, 22, 10, 23, 24, 25, 26, 27, 28, 29, 30, 31, 32, 33, 34, 35, 36, 37, 38, 39, 40, 41, 42, 43, 44, 45, 46, 51, 52, 53, 54, 55, 56, 57, 58, 59, 60, 61, 62, 63, 64, 65, 66] (by decide +kernel) (by decide +kernel)
set_option maxRecDepth 20000 in
theorem gX3_next_X3_drawSpan : GoodIn wsX3_next (wsV RX3 79 RX3 yX3_drawSpan wsX3_drawSpan) := goodIn_app (goodIn_of _ (by decide +kernel)) ggX3_next_X3_drawSpan
theorem dX3_next_0 : decode cX3_next 0 = .ok (.aload_n 0, 1) := by decide +kernel
theorem dX3_next_1 : decode cX3_next 1 = .ok (.iload_n 1, 1) := by decide +kernel
theorem dX3_next_2 : decode cX3_next 2 = .ok (.invokevirtual 100, 3) := by decide +kernel
theorem dX3_next_5 : decode cX3_next 5 = .ok (.astore 4, 2) := by decide +kernel
theorem dX3_next_7 : decode cX3_next 7 = .ok (.lload_n 2, 1) := by decide +kernel
theorem dX3_next_8 : decode cX3_next 8 = .ok (.lconst 0, 1) := by decide +kernel
theorem dX3_next_9 : decode cX3_next 9 = .ok (.lcmp, 1) := by decide +kernel
theorem dX3_next_10 : decode cX3_next 10 = .ok (.ifCond .lt 18, 3) := by decide +kernel
theorem dX3_next_13 : decode cX3_next 13 = .ok (.aload 4, 2) := by decide +kernel
theorem dX3_next_15 : decode cX3_next 15 = .ok (.ifnull 13, 3) := by decide +kernel
theorem dX3_next_18 : decode cX3_next 18 = .ok (.aload 4, 2) := by decide +kernel
theorem dX3_next_20 : decode cX3_next 20 = .ok (.getfield 104, 3) := by decide +kernel
theorem dX3_next_23 : decode cX3_next 23 = .ok (.ldc 91, 2) := by decide +kernel
theorem dX3_next_25 : decode cX3_next 25 = .ok (.if_icmp .ne 7, 3) := by decide +kernel
theorem dX3_next_28 : decode cX3_next 28 = .ok (.ldc2_w 77, 3) := by decide +kernel
theorem dX3_next_31 : decode cX3_next 31 = .ok (.lreturn, 1) := by decide +kernel
theorem dX3_next_32 : decode cX3_next 32 = .ok (.lload_n 2, 1) := by decide +kernel
theorem dX3_next_33 : decode cX3_next 33 = .ok (.lconst 0, 1) := by decide +kernel
theorem dX3_next_34 : decode cX3_next 34 = .ok (.lcmp, 1) := by decide +kernel
theorem dX3_next_35 : decode cX3_next 35 = .ok (.ifCond .ne 7, 3) := by decide +kernel
theorem dX3_next_38 : decode cX3_next 38 = .ok (.ldc2_w 75, 3) := by decide +kernel
theorem dX3_next_41 : decode cX3_next 41 = .ok (.lreturn, 1) := by decide +kernel
theorem dX3_next_42 : decode cX3_next 42 = .ok (.aload_n 0, 1) := by decide +kernel
theorem dX3_next_43 : decode cX3_next 43 = .ok (.aload 4, 2) := by decide +kernel
theorem dX3_next_45 : decode cX3_next 45 = .ok (.getfield 107, 3) := by decide +kernel
theorem dX3_next_48 : decode cX3_next 48 = .ok (.aload 4, 2) := by decide +kernel
theorem dX3_next_50 : decode cX3_next 50 = .ok (.getfield 110, 3) := by decide +kernel
theorem dX3_next_53 : decode cX3_next 53 = .ok (.aload 4, 2) := by decide +kernel
theorem dX3_next_55 : decode cX3_next 55 = .ok (.getfield 104, 3) := by decide +kernel
theorem dX3_next_58 : decode cX3_next 58 = .ok (.lload_n 2, 1) := by decide +kernel
theorem dX3_next_59 : decode cX3_next 59 = .ok (.invokevirtual 79, 3) := by decide +kernel
theorem dX3_next_62 : decode cX3_next 62 = .ok (.lstore 5, 2) := by decide +kernel
theorem dX3_next_64 : decode cX3_next 64 = .ok (.aload 4, 2) := by decide +kernel
theorem dX3_next_66 : decode cX3_next 66 = .ok (.dup, 1) := by decide +kernel
theorem dX3_next_67 : decode cX3_next 67 = .ok (.getfield 104, 3) := by decide +kernel
theorem dX3_next_70 : decode cX3_next 70 = .ok (.iconst 1, 1) := by decide +kernel
theorem dX3_next_71 : decode cX3_next 71 = .ok (.iadd, 1) := by decide +kernel
theorem dX3_next_72 : decode cX3_next 72 = .ok (.putfield 104, 3) := by decide +kernel
theorem dX3_next_75 : decode cX3_next 75 = .ok (.lload 5, 2) := by decide +kernel
theorem dX3_next_77 : decode cX3_next 77 = .ok (.lreturn, 1) := by decide +kernel
set_option maxRecDepth 20000 in
theorem ggX3_nextPick_X3_streamAt : GoodIn wsX3_nextPick wsX3_streamAt := goodIn_r _ [9, 10, 11, 63, 64, 65, 66, 67, 68, 69, 70, 71, 72, 73] (by decide +kernel) (by decide +kernel)
set_option maxRecDepth 20000 in
theorem gX3_nextPick_X3_streamAt : GoodIn wsX3_nextPick (wsV RX3 100 RX3 yX3_streamAt wsX3_streamAt) := goodIn_app (goodIn_of _ (by decide +kernel)) ggX3_nextPick_X3_streamAt
set_option maxRecDepth 20000 in
theorem ggX3_nextPick_X3_drawPick : GoodIn wsX3_nextPick wsX3_drawPick := goodIn_r _ [15, 16, 17, 18, 8, 19, 20, 21, 22, 23, 24, 25, 26, 27, 28, 29, 30, 31, 32, 33, 34, 35, 36, 37, 38, 39, 40, 41, 42, 43, 44, 45, 46, 47, 48, 49, 50, 51, 52, 53, 54, 55, 56, 57, 58, 63, 64, 65, 66, 67, 68, 69, 70, 71, 72, 73, 74, 75, 76, 77, 78] (by decide +kernel) (by decide +kernel)
set_option maxRecDepth 20000 in
theorem gX3_nextPick_X3_drawPick : GoodIn wsX3_nextPick (wsV RX3 87 RX3 yX3_drawPick wsX3_drawPick) := goodIn_app (goodIn_of _ (by decide +kernel)) ggX3_nextPick_X3_drawPick
theorem dX3_nextPick_0 : decode cX3_nextPick 0 = .ok (.aload_n 0, 1) := by decide +kernel
theorem dX3_nextPick_1 : decode cX3_nextPick 1 = .ok (.iload_n 1, 1) := by decide +kernel
theorem dX3_nextPick_2 : decode cX3_nextPick 2 = .ok (.invokevirtual 100, 3) := by decide +kernel
theorem dX3_nextPick_5 : decode cX3_nextPick 5 = .ok (.astore_n 2, 1) := by decide +kernel
theorem dX3_nextPick_6 : decode cX3_nextPick 6 = .ok (.aload_n 2, 1) := by decide +kernel
theorem dX3_nextPick_7 : decode cX3_nextPick 7 = .ok (.ifnull 12, 3) := by decide +kernel
theorem dX3_nextPick_10 : decode cX3_nextPick 10 = .ok (.aload_n 2, 1) := by decide +kernel
theorem dX3_nextPick_11 : decode cX3_nextPick 11 = .ok (.getfield 104, 3) := by decide +kernel
theorem dX3_nextPick_14 : decode cX3_nextPick 14 = .ok (.ldc 91, 2) := by decide +kernel
theorem dX3_nextPick_16 : decode cX3_nextPick 16 = .ok (.if_icmp .ne 5, 3) := by decide +kernel
theorem dX3_nextPick_19 : decode cX3_nextPick 19 = .ok (.iconst (-1), 1) := by decide +kernel
theorem dX3_nextPick_20 : decode cX3_nextPick 20 = .ok (.ireturn, 1) := by decide +kernel
theorem dX3_nextPick_21 : decode cX3_nextPick 21 = .ok (.aload_n 0, 1) := by decide +kernel
theorem dX3_nextPick_22 : decode cX3_nextPick 22 = .ok (.aload_n 2, 1) := by decide +kernel
theorem dX3_nextPick_23 : decode cX3_nextPick 23 = .ok (.getfield 107, 3) := by decide +kernel
theorem dX3_nextPick_26 : decode cX3_nextPick 26 = .ok (.aload_n 2, 1) := by decide +kernel
theorem dX3_nextPick_27 : decode cX3_nextPick 27 = .ok (.getfield 110, 3) := by decide +kernel
theorem dX3_nextPick_30 : decode cX3_nextPick 30 = .ok (.aload_n 2, 1) := by decide +kernel
theorem dX3_nextPick_31 : decode cX3_nextPick 31 = .ok (.getfield 104, 3) := by decide +kernel
theorem dX3_nextPick_34 : decode cX3_nextPick 34 = .ok (.invokevirtual 87, 3) := by decide +kernel
theorem dX3_nextPick_37 : decode cX3_nextPick 37 = .ok (.istore_n 3, 1) := by decide +kernel
theorem dX3_nextPick_38 : decode cX3_nextPick 38 = .ok (.iload_n 3, 1) := by decide +kernel
theorem dX3_nextPick_39 : decode cX3_nextPick 39 = .ok (.bipush (-4), 2) := by decide +kernel
theorem dX3_nextPick_41 : decode cX3_nextPick 41 = .ok (.if_icmp .eq 19, 3) := by decide +kernel
theorem dX3_nextPick_44 : decode cX3_nextPick 44 = .ok (.iload_n 3, 1) := by decide +kernel
theorem dX3_nextPick_45 : decode cX3_nextPick 45 = .ok (.bipush (-5), 2) := by decide +kernel
theorem dX3_nextPick_47 : decode cX3_nextPick 47 = .ok (.if_icmp .eq 13, 3) := by decide +kernel
theorem dX3_nextPick_50 : decode cX3_nextPick 50 = .ok (.aload_n 2, 1) := by decide +kernel
theorem dX3_nextPick_51 : decode cX3_nextPick 51 = .ok (.dup, 1) := by decide +kernel
theorem dX3_nextPick_52 : decode cX3_nextPick 52 = .ok (.getfield 104, 3) := by decide +kernel
theorem dX3_nextPick_55 : decode cX3_nextPick 55 = .ok (.iconst 1, 1) := by decide +kernel
theorem dX3_nextPick_56 : decode cX3_nextPick 56 = .ok (.iadd, 1) := by decide +kernel
theorem dX3_nextPick_57 : decode cX3_nextPick 57 = .ok (.putfield 104, 3) := by decide +kernel
theorem dX3_nextPick_60 : decode cX3_nextPick 60 = .ok (.iload_n 3, 1) := by decide +kernel
theorem dX3_nextPick_61 : decode cX3_nextPick 61 = .ok (.ireturn, 1) := by decide +kernel
set_option maxRecDepth 20000 in
theorem ggX3_split_X3_streamAt : GoodIn wsX3_split wsX3_streamAt := goodIn_r _ [10, 1, 11, 56, 57, 58, 59, 60, 61, 62, 63, 64, 65, 66] (by decide +kernel) (by decide +kernel)
set_option maxRecDepth 20000 in
theorem gX3_split_X3_streamAt : GoodIn wsX3_split (wsV RX3 100 RX3 yX3_streamAt wsX3_streamAt) := goodIn_app (goodIn_of _ (by decide +kernel)) ggX3_split_X3_streamAt
set_option maxRecDepth 20000 in
theorem ggX3_split_X1_enterChild : GoodIn wsX3_split wsX1_enterChild := goodIn_r _ [16, 17, 18, 19, 20, 21, 22, 15, 23, 24, 25, 26, 27, 28, 29, 30, 31, 32, 33, 34, 35, 9, 36, 37, 38, 71, 72, 73, 74, 75] (by decide +kernel) (by decide +kernel)
set_option maxRecDepth 20000 in
theorem gX3_split_X1_enterChild : GoodIn wsX3_split (wsV RX3 116 RX1 yX1_enterChild wsX1_enterChild) := goodIn_app (goodIn_of _ (by decide +kernel)) ggX3_split_X1_enterChild
set_option maxRecDepth 20000 in
theorem ggX3_split_X3_addStream : GoodIn wsX3_split wsX3_addStream := goodIn_r _ [42, 1, 11, 43, 44, 45, 46, 47, 48, 49, 50, 51, 52, 53, 54, 55, 56, 57, 58, 59, 60, 61, 62, 63, 64, 65, 66, 67, 68, 69, 70] (by decide +kernel) (by decide +kernel)
set_option maxRecDepth 20000 in
theorem gX3_split_X3_addStream : GoodIn wsX3_split (wsV RX3 96 RX3 yX3_addStream wsX3_addStream) := goodIn_app (goodIn_of _ (by decide +kernel)) ggX3_split_X3_addStream
theorem dX3_split_0 : decode cX3_split 0 = .ok (.aload_n 0, 1) := by decide +kernel
theorem dX3_split_1 : decode cX3_split 1 = .ok (.iload_n 1, 1) := by decide +kernel
theorem dX3_split_2 : decode cX3_split 2 = .ok (.invokevirtual 100, 3) := by decide +kernel
theorem dX3_split_5 : decode cX3_split 5 = .ok (.astore_n 2, 1) := by decide +kernel
theorem dX3_split_6 : decode cX3_split 6 = .ok (.aload_n 2, 1) := by decide +kernel
theorem dX3_split_7 : decode cX3_split 7 = .ok (.ifnonnull 5, 3) := by decide +kernel
theorem dX3_split_10 : decode cX3_split 10 = .ok (.iconst (-1), 1) := by decide +kernel
theorem dX3_split_11 : decode cX3_split 11 = .ok (.ireturn, 1) := by decide +kernel
theorem dX3_split_12 : decode cX3_split 12 = .ok (.aload_n 0, 1) := by decide +kernel
theorem dX3_split_13 : decode cX3_split 13 = .ok (.getfield 37, 3) := by decide +kernel
theorem dX3_split_16 : decode cX3_split 16 = .ok (.bipush 8, 2) := by decide +kernel
theorem dX3_split_18 : decode cX3_split 18 = .ok (.if_icmp .lt 6, 3) := by decide +kernel
theorem dX3_split_21 : decode cX3_split 21 = .ok (.bipush (-2), 2) := by decide +kernel
theorem dX3_split_23 : decode cX3_split 23 = .ok (.ireturn, 1) := by decide +kernel
theorem dX3_split_24 : decode cX3_split 24 = .ok (.aload_n 0, 1) := by decide +kernel
theorem dX3_split_25 : decode cX3_split 25 = .ok (.getfield 20, 3) := by decide +kernel
theorem dX3_split_28 : decode cX3_split 28 = .ok (.aload_n 2, 1) := by decide +kernel
theorem dX3_split_29 : decode cX3_split 29 = .ok (.getfield 110, 3) := by decide +kernel
theorem dX3_split_32 : decode cX3_split 32 = .ok (.aload_n 2, 1) := by decide +kernel
theorem dX3_split_33 : decode cX3_split 33 = .ok (.getfield 113, 3) := by decide +kernel
theorem dX3_split_36 : decode cX3_split 36 = .ok (.i2l, 1) := by decide +kernel
theorem dX3_split_37 : decode cX3_split 37 = .ok (.invokevirtual 116, 3) := by decide +kernel
theorem dX3_split_40 : decode cX3_split 40 = .ok (.istore_n 3, 1) := by decide +kernel
theorem dX3_split_41 : decode cX3_split 41 = .ok (.iload_n 3, 1) := by decide +kernel
theorem dX3_split_42 : decode cX3_split 42 = .ok (.bipush (-2), 2) := by decide +kernel
theorem dX3_split_44 : decode cX3_split 44 = .ok (.if_icmp .ne 6, 3) := by decide +kernel
theorem dX3_split_47 : decode cX3_split 47 = .ok (.bipush (-2), 2) := by decide +kernel
theorem dX3_split_49 : decode cX3_split 49 = .ok (.ireturn, 1) := by decide +kernel
theorem dX3_split_50 : decode cX3_split 50 = .ok (.aload_n 2, 1) := by decide +kernel
theorem dX3_split_51 : decode cX3_split 51 = .ok (.dup, 1) := by decide +kernel
theorem dX3_split_52 : decode cX3_split 52 = .ok (.getfield 113, 3) := by decide +kernel
theorem dX3_split_55 : decode cX3_split 55 = .ok (.iconst 1, 1) := by decide +kernel
theorem dX3_split_56 : decode cX3_split 56 = .ok (.iadd, 1) := by decide +kernel
theorem dX3_split_57 : decode cX3_split 57 = .ok (.putfield 113, 3) := by decide +kernel
theorem dX3_split_60 : decode cX3_split 60 = .ok (.aload_n 0, 1) := by decide +kernel
theorem dX3_split_61 : decode cX3_split 61 = .ok (.aload_n 2, 1) := by decide +kernel
theorem dX3_split_62 : decode cX3_split 62 = .ok (.getfield 107, 3) := by decide +kernel
theorem dX3_split_65 : decode cX3_split 65 = .ok (.iload_n 3, 1) := by decide +kernel
theorem dX3_split_66 : decode cX3_split 66 = .ok (.invokevirtual 96, 3) := by decide +kernel
theorem dX3_split_69 : decode cX3_split 69 = .ok (.ireturn, 1) := by decide +kernel
set_option maxRecDepth 20000 in
theorem ggX3_skip_X3_streamAt : GoodIn wsX3_skip wsX3_streamAt := goodIn_r _ [8, 9, 10, 15, 16, 17, 18, 19, 20, 21, 22, 23, 24, 25] (by decide +kernel) (by decide +kernel)
set_option maxRecDepth 20000 in
theorem gX3_skip_X3_streamAt : GoodIn wsX3_skip (wsV RX3 100 RX3 yX3_streamAt wsX3_streamAt) := goodIn_app (goodIn_of _ (by decide +kernel)) ggX3_skip_X3_streamAt
theorem dX3_skip_0 : decode cX3_skip 0 = .ok (.aload_n 0, 1) := by decide +kernel
theorem dX3_skip_1 : decode cX3_skip 1 = .ok (.iload_n 1, 1) := by decide +kernel
theorem dX3_skip_2 : decode cX3_skip 2 = .ok (.invokevirtual 100, 3) := by decide +kernel
theorem dX3_skip_5 : decode cX3_skip 5 = .ok (.astore_n 3, 1) := by decide +kernel
theorem dX3_skip_6 : decode cX3_skip 6 = .ok (.aload_n 3, 1) := by decide +kernel
theorem dX3_skip_7 : decode cX3_skip 7 = .ok (.ifnull 24, 3) := by decide +kernel
theorem dX3_skip_10 : decode cX3_skip 10 = .ok (.iload_n 2, 1) := by decide +kernel
theorem dX3_skip_11 : decode cX3_skip 11 = .ok (.ifCond .lt 20, 3) := by decide +kernel
theorem dX3_skip_14 : decode cX3_skip 14 = .ok (.iload_n 2, 1) := by decide +kernel
theorem dX3_skip_15 : decode cX3_skip 15 = .ok (.ldc 120, 2) := by decide +kernel
theorem dX3_skip_17 : decode cX3_skip 17 = .ok (.if_icmp .gt 14, 3) := by decide +kernel
theorem dX3_skip_20 : decode cX3_skip 20 = .ok (.aload_n 3, 1) := by decide +kernel
theorem dX3_skip_21 : decode cX3_skip 21 = .ok (.getfield 104, 3) := by decide +kernel
theorem dX3_skip_24 : decode cX3_skip 24 = .ok (.ldc 91, 2) := by decide +kernel
theorem dX3_skip_26 : decode cX3_skip 26 = .ok (.iload_n 2, 1) := by decide +kernel
theorem dX3_skip_27 : decode cX3_skip 27 = .ok (.isub, 1) := by decide +kernel
theorem dX3_skip_28 : decode cX3_skip 28 = .ok (.if_icmp .le 5, 3) := by decide +kernel
theorem dX3_skip_31 : decode cX3_skip 31 = .ok (.iconst (-1), 1) := by decide +kernel
theorem dX3_skip_32 : decode cX3_skip 32 = .ok (.ireturn, 1) := by decide +kernel
theorem dX3_skip_33 : decode cX3_skip 33 = .ok (.aload_n 3, 1) := by decide +kernel
theorem dX3_skip_34 : decode cX3_skip 34 = .ok (.dup, 1) := by decide +kernel
theorem dX3_skip_35 : decode cX3_skip 35 = .ok (.getfield 104, 3) := by decide +kernel
theorem dX3_skip_38 : decode cX3_skip 38 = .ok (.iload_n 2, 1) := by decide +kernel
theorem dX3_skip_39 : decode cX3_skip 39 = .ok (.iadd, 1) := by decide +kernel
theorem dX3_skip_40 : decode cX3_skip 40 = .ok (.putfield 104, 3) := by decide +kernel
theorem dX3_skip_43 : decode cX3_skip 43 = .ok (.aload_n 3, 1) := by decide +kernel
theorem dX3_skip_44 : decode cX3_skip 44 = .ok (.getfield 104, 3) := by decide +kernel
theorem dX3_skip_47 : decode cX3_skip 47 = .ok (.ireturn, 1) := by decide +kernel
set_option maxRecDepth 20000 in
theorem ggX3_keep_X3_streamAt : GoodIn wsX3_keep wsX3_streamAt := goodIn_r _ [14, 15, 16, 25, 26, 27, 28, 29, 30, 31, 32, 33, 34, 35] (by decide +kernel) (by decide +kernel)
set_option maxRecDepth 20000 in
theorem gX3_keep_X3_streamAt : GoodIn wsX3_keep (wsV RX3 100 RX3 yX3_streamAt wsX3_streamAt) := goodIn_app (goodIn_of _ (by decide +kernel)) ggX3_keep_X3_streamAt
set_option maxRecDepth 20000 in
theorem ggX3_keep_X0_init : GoodIn wsX3_keep wsX0_init := goodIn_r _ [18, 19, 20, 21, 22, 23, 24, 36, 37, 38] (by decide +kernel) (by decide +kernel)
set_option maxRecDepth 20000 in
theorem gX3_keep_X0_init_n121 : GoodIn wsX3_keep (wsX0_init) := ggX3_keep_X0_init
theorem dX3_keep_0 : decode cX3_keep 0 = .ok (.aload_n 0, 1) := by decide +kernel
theorem dX3_keep_1 : decode cX3_keep 1 = .ok (.iload_n 2, 1) := by decide +kernel
theorem dX3_keep_2 : decode cX3_keep 2 = .ok (.invokevirtual 100, 3) := by decide +kernel
theorem dX3_keep_5 : decode cX3_keep 5 = .ok (.astore_n 3, 1) := by decide +kernel
theorem dX3_keep_6 : decode cX3_keep 6 = .ok (.iload_n 1, 1) := by decide +kernel
theorem dX3_keep_7 : decode cX3_keep 7 = .ok (.ifCond .lt 12, 3) := by decide +kernel
theorem dX3_keep_10 : decode cX3_keep 10 = .ok (.iload_n 1, 1) := by decide +kernel
theorem dX3_keep_11 : decode cX3_keep 11 = .ok (.iconst 4, 1) := by decide +kernel
theorem dX3_keep_12 : decode cX3_keep 12 = .ok (.if_icmp .ge 7, 3) := by decide +kernel
theorem dX3_keep_15 : decode cX3_keep 15 = .ok (.aload_n 3, 1) := by decide +kernel
theorem dX3_keep_16 : decode cX3_keep 16 = .ok (.ifnonnull 5, 3) := by decide +kernel
theorem dX3_keep_19 : decode cX3_keep 19 = .ok (.iconst (-1), 1) := by decide +kernel
theorem dX3_keep_20 : decode cX3_keep 20 = .ok (.ireturn, 1) := by decide +kernel
theorem dX3_keep_21 : decode cX3_keep 21 = .ok (.aload_n 0, 1) := by decide +kernel
theorem dX3_keep_22 : decode cX3_keep 22 = .ok (.getfield 42, 3) := by decide +kernel
theorem dX3_keep_25 : decode cX3_keep 25 = .ok (.iload_n 1, 1) := by decide +kernel
theorem dX3_keep_26 : decode cX3_keep 26 = .ok (.aaload, 1) := by decide +kernel
theorem dX3_keep_27 : decode cX3_keep 27 = .ok (.astore 4, 2) := by decide +kernel
theorem dX3_keep_29 : decode cX3_keep 29 = .ok (.aload 4, 2) := by decide +kernel
theorem dX3_keep_31 : decode cX3_keep 31 = .ok (.ifnonnull 20, 3) := by decide +kernel
theorem dX3_keep_34 : decode cX3_keep 34 = .ok (.new 40, 3) := by decide +kernel
theorem dX3_keep_37 : decode cX3_keep 37 = .ok (.dup, 1) := by decide +kernel
theorem dX3_keep_38 : decode cX3_keep 38 = .ok (.invokespecial 121, 3) := by decide +kernel
theorem dX3_keep_41 : decode cX3_keep 41 = .ok (.astore 4, 2) := by decide +kernel
theorem dX3_keep_43 : decode cX3_keep 43 = .ok (.aload_n 0, 1) := by decide +kernel
theorem dX3_keep_44 : decode cX3_keep 44 = .ok (.getfield 42, 3) := by decide +kernel
theorem dX3_keep_47 : decode cX3_keep 47 = .ok (.iload_n 1, 1) := by decide +kernel
theorem dX3_keep_48 : decode cX3_keep 48 = .ok (.aload 4, 2) := by decide +kernel
theorem dX3_keep_50 : decode cX3_keep 50 = .ok (.aastore, 1) := by decide +kernel
theorem dX3_keep_51 : decode cX3_keep 51 = .ok (.aload 4, 2) := by decide +kernel
theorem dX3_keep_53 : decode cX3_keep 53 = .ok (.iload_n 2, 1) := by decide +kernel
theorem dX3_keep_54 : decode cX3_keep 54 = .ok (.putfield 122, 3) := by decide +kernel
theorem dX3_keep_57 : decode cX3_keep 57 = .ok (.aload 4, 2) := by decide +kernel
theorem dX3_keep_59 : decode cX3_keep 59 = .ok (.aload_n 3, 1) := by decide +kernel
theorem dX3_keep_60 : decode cX3_keep 60 = .ok (.getfield 104, 3) := by decide +kernel
theorem dX3_keep_63 : decode cX3_keep 63 = .ok (.putfield 125, 3) := by decide +kernel
theorem dX3_keep_66 : decode cX3_keep 66 = .ok (.aload 4, 2) := by decide +kernel
theorem dX3_keep_68 : decode cX3_keep 68 = .ok (.aload_n 3, 1) := by decide +kernel
theorem dX3_keep_69 : decode cX3_keep 69 = .ok (.getfield 113, 3) := by decide +kernel
theorem dX3_keep_72 : decode cX3_keep 72 = .ok (.putfield 126, 3) := by decide +kernel
theorem dX3_keep_75 : decode cX3_keep 75 = .ok (.aload_n 3, 1) := by decide +kernel
theorem dX3_keep_76 : decode cX3_keep 76 = .ok (.getfield 104, 3) := by decide +kernel
theorem dX3_keep_79 : decode cX3_keep 79 = .ok (.ireturn, 1) := by decide +kernel
set_option maxRecDepth 20000 in
theorem ggX3_back_X3_streamAt : GoodIn wsX3_back wsX3_streamAt := goodIn_r _ [11, 12, 13, 14, 15, 16, 17, 18, 19, 20, 21, 22, 23, 24] (by decide +kernel) (by decide +kernel)
set_option maxRecDepth 20000 in
theorem gX3_back_X3_streamAt : GoodIn wsX3_back (wsV RX3 100 RX3 yX3_streamAt wsX3_streamAt) := goodIn_app (goodIn_of _ (by decide +kernel)) ggX3_back_X3_streamAt
theorem dX3_back_0 : decode cX3_back 0 = .ok (.iload_n 1, 1) := by decide +kernel
theorem dX3_back_1 : decode cX3_back 1 = .ok (.ifCond .lt 8, 3) := by decide +kernel
theorem dX3_back_4 : decode cX3_back 4 = .ok (.iload_n 1, 1) := by decide +kernel
theorem dX3_back_5 : decode cX3_back 5 = .ok (.iconst 4, 1) := by decide +kernel
theorem dX3_back_6 : decode cX3_back 6 = .ok (.if_icmp .lt 5, 3) := by decide +kernel
theorem dX3_back_9 : decode cX3_back 9 = .ok (.iconst (-1), 1) := by decide +kernel
theorem dX3_back_10 : decode cX3_back 10 = .ok (.ireturn, 1) := by decide +kernel
theorem dX3_back_11 : decode cX3_back 11 = .ok (.aload_n 0, 1) := by decide +kernel
theorem dX3_back_12 : decode cX3_back 12 = .ok (.getfield 42, 3) := by decide +kernel
theorem dX3_back_15 : decode cX3_back 15 = .ok (.iload_n 1, 1) := by decide +kernel
theorem dX3_back_16 : decode cX3_back 16 = .ok (.aaload, 1) := by decide +kernel
theorem dX3_back_17 : decode cX3_back 17 = .ok (.astore_n 2, 1) := by decide +kernel
theorem dX3_back_18 : decode cX3_back 18 = .ok (.aload_n 2, 1) := by decide +kernel
theorem dX3_back_19 : decode cX3_back 19 = .ok (.ifnonnull 6, 3) := by decide +kernel
theorem dX3_back_22 : decode cX3_back 22 = .ok (.bipush (-3), 2) := by decide +kernel
theorem dX3_back_24 : decode cX3_back 24 = .ok (.ireturn, 1) := by decide +kernel
theorem dX3_back_25 : decode cX3_back 25 = .ok (.aload_n 0, 1) := by decide +kernel
theorem dX3_back_26 : decode cX3_back 26 = .ok (.aload_n 2, 1) := by decide +kernel
theorem dX3_back_27 : decode cX3_back 27 = .ok (.getfield 122, 3) := by decide +kernel
theorem dX3_back_30 : decode cX3_back 30 = .ok (.invokevirtual 100, 3) := by decide +kernel
theorem dX3_back_33 : decode cX3_back 33 = .ok (.astore_n 3, 1) := by decide +kernel
theorem dX3_back_34 : decode cX3_back 34 = .ok (.aload_n 3, 1) := by decide +kernel
theorem dX3_back_35 : decode cX3_back 35 = .ok (.ifnonnull 6, 3) := by decide +kernel
theorem dX3_back_38 : decode cX3_back 38 = .ok (.bipush (-3), 2) := by decide +kernel
theorem dX3_back_40 : decode cX3_back 40 = .ok (.ireturn, 1) := by decide +kernel
theorem dX3_back_41 : decode cX3_back 41 = .ok (.aload_n 3, 1) := by decide +kernel
theorem dX3_back_42 : decode cX3_back 42 = .ok (.aload_n 2, 1) := by decide +kernel
theorem dX3_back_43 : decode cX3_back 43 = .ok (.getfield 125, 3) := by decide +kernel
theorem dX3_back_46 : decode cX3_back 46 = .ok (.putfield 104, 3) := by decide +kernel
theorem dX3_back_49 : decode cX3_back 49 = .ok (.aload_n 3, 1) := by decide +kernel
theorem dX3_back_50 : decode cX3_back 50 = .ok (.aload_n 2, 1) := by decide +kernel
theorem dX3_back_51 : decode cX3_back 51 = .ok (.getfield 126, 3) := by decide +kernel
theorem dX3_back_54 : decode cX3_back 54 = .ok (.putfield 113, 3) := by decide +kernel
theorem dX3_back_57 : decode cX3_back 57 = .ok (.aload_n 2, 1) := by decide +kernel
theorem dX3_back_58 : decode cX3_back 58 = .ok (.getfield 122, 3) := by decide +kernel
theorem dX3_back_61 : decode cX3_back 61 = .ok (.ireturn, 1) := by decide +kernel
set_option maxRecDepth 20000 in
theorem ggX3_told_X3_streamAt : GoodIn wsX3_told wsX3_streamAt := goodIn_r _ [8, 9, 10, 15, 16, 17, 18, 19, 20, 21, 22, 23, 24, 25] (by decide +kernel) (by decide +kernel)
set_option maxRecDepth 20000 in
theorem gX3_told_X3_streamAt : GoodIn wsX3_told (wsV RX3 100 RX3 yX3_streamAt wsX3_streamAt) := goodIn_app (goodIn_of _ (by decide +kernel)) ggX3_told_X3_streamAt
theorem dX3_told_0 : decode cX3_told 0 = .ok (.aload_n 0, 1) := by decide +kernel
theorem dX3_told_1 : decode cX3_told 1 = .ok (.iload_n 1, 1) := by decide +kernel
theorem dX3_told_2 : decode cX3_told 2 = .ok (.invokevirtual 100, 3) := by decide +kernel
theorem dX3_told_5 : decode cX3_told 5 = .ok (.astore_n 3, 1) := by decide +kernel
theorem dX3_told_6 : decode cX3_told 6 = .ok (.aload_n 3, 1) := by decide +kernel
theorem dX3_told_7 : decode cX3_told 7 = .ok (.ifnonnull 5, 3) := by decide +kernel
theorem dX3_told_10 : decode cX3_told 10 = .ok (.iconst (-1), 1) := by decide +kernel
theorem dX3_told_11 : decode cX3_told 11 = .ok (.ireturn, 1) := by decide +kernel
theorem dX3_told_12 : decode cX3_told 12 = .ok (.iload_n 2, 1) := by decide +kernel
theorem dX3_told_13 : decode cX3_told 13 = .ok (.tableswitch 42 0 2 #[27, 32, 37], 27) := by decide +kernel
theorem dX3_told_40 : decode cX3_told 40 = .ok (.aload_n 3, 1) := by decide +kernel
theorem dX3_told_41 : decode cX3_told 41 = .ok (.getfield 110, 3) := by decide +kernel
theorem dX3_told_44 : decode cX3_told 44 = .ok (.ireturn, 1) := by decide +kernel
theorem dX3_told_45 : decode cX3_told 45 = .ok (.aload_n 3, 1) := by decide +kernel
theorem dX3_told_46 : decode cX3_told 46 = .ok (.getfield 104, 3) := by decide +kernel
theorem dX3_told_49 : decode cX3_told 49 = .ok (.ireturn, 1) := by decide +kernel
theorem dX3_told_50 : decode cX3_told 50 = .ok (.aload_n 3, 1) := by decide +kernel
theorem dX3_told_51 : decode cX3_told 51 = .ok (.getfield 113, 3) := by decide +kernel
theorem dX3_told_54 : decode cX3_told 54 = .ok (.ireturn, 1) := by decide +kernel
theorem dX3_told_55 : decode cX3_told 55 = .ok (.iconst (-1), 1) := by decide +kernel
theorem dX3_told_56 : decode cX3_told 56 = .ok (.ireturn, 1) := by decide +kernel
theorem dX3_counted_0 : decode cX3_counted 0 = .ok (.iload_n 1, 1) := by decide +kernel
theorem dX3_counted_1 : decode cX3_counted 1 = .ok (.iconst 1, 1) := by decide +kernel
theorem dX3_counted_2 : decode cX3_counted 2 = .ok (.if_icmp .lt 29, 3) := by decide +kernel
theorem dX3_counted_5 : decode cX3_counted 5 = .ok (.iload_n 1, 1) := by decide +kernel
theorem dX3_counted_6 : decode cX3_counted 6 = .ok (.bipush 16, 2) := by decide +kernel
theorem dX3_counted_8 : decode cX3_counted 8 = .ok (.if_icmp .gt 23, 3) := by decide +kernel
theorem dX3_counted_11 : decode cX3_counted 11 = .ok (.iload_n 2, 1) := by decide +kernel
theorem dX3_counted_12 : decode cX3_counted 12 = .ok (.iconst 1, 1) := by decide +kernel
theorem dX3_counted_13 : decode cX3_counted 13 = .ok (.if_icmp .lt 18, 3) := by decide +kernel
theorem dX3_counted_16 : decode cX3_counted 16 = .ok (.iload_n 2, 1) := by decide +kernel
theorem dX3_counted_17 : decode cX3_counted 17 = .ok (.ldc 127, 2) := by decide +kernel
theorem dX3_counted_19 : decode cX3_counted 19 = .ok (.if_icmp .gt 12, 3) := by decide +kernel
theorem dX3_counted_22 : decode cX3_counted 22 = .ok (.iload_n 3, 1) := by decide +kernel
theorem dX3_counted_23 : decode cX3_counted 23 = .ok (.ifCond .lt 8, 3) := by decide +kernel
theorem dX3_counted_26 : decode cX3_counted 26 = .ok (.iload_n 3, 1) := by decide +kernel
theorem dX3_counted_27 : decode cX3_counted 27 = .ok (.iload_n 2, 1) := by decide +kernel
theorem dX3_counted_28 : decode cX3_counted 28 = .ok (.if_icmp .lt 5, 3) := by decide +kernel
theorem dX3_counted_31 : decode cX3_counted 31 = .ok (.iconst (-1), 1) := by decide +kernel
theorem dX3_counted_32 : decode cX3_counted 32 = .ok (.ireturn, 1) := by decide +kernel
theorem dX3_counted_33 : decode cX3_counted 33 = .ok (.iconst 1, 1) := by decide +kernel
theorem dX3_counted_34 : decode cX3_counted 34 = .ok (.iload_n 1, 1) := by decide +kernel
theorem dX3_counted_35 : decode cX3_counted 35 = .ok (.ishl, 1) := by decide +kernel
theorem dX3_counted_36 : decode cX3_counted 36 = .ok (.iload_n 2, 1) := by decide +kernel
theorem dX3_counted_37 : decode cX3_counted 37 = .ok (.idiv, 1) := by decide +kernel
theorem dX3_counted_38 : decode cX3_counted 38 = .ok (.ireturn, 1) := by decide +kernel
theorem dX3_count_0 : decode cX3_count 0 = .ok (.iload_n 1, 1) := by decide +kernel
theorem dX3_count_1 : decode cX3_count 1 = .ok (.tableswitch 45 0 2 #[27, 35, 40], 27) := by decide +kernel
theorem dX3_count_28 : decode cX3_count 28 = .ok (.aload_n 0, 1) := by decide +kernel
theorem dX3_count_29 : decode cX3_count 29 = .ok (.getfield 20, 3) := by decide +kernel
theorem dX3_count_32 : decode cX3_count 32 = .ok (.getfield 128, 3) := by decide +kernel
theorem dX3_count_35 : decode cX3_count 35 = .ok (.ireturn, 1) := by decide +kernel
theorem dX3_count_36 : decode cX3_count 36 = .ok (.aload_n 0, 1) := by decide +kernel
theorem dX3_count_37 : decode cX3_count 37 = .ok (.getfield 37, 3) := by decide +kernel
theorem dX3_count_40 : decode cX3_count 40 = .ok (.ireturn, 1) := by decide +kernel
theorem dX3_count_41 : decode cX3_count 41 = .ok (.aload_n 0, 1) := by decide +kernel
theorem dX3_count_42 : decode cX3_count 42 = .ok (.getfield 13, 3) := by decide +kernel
theorem dX3_count_45 : decode cX3_count 45 = .ok (.ireturn, 1) := by decide +kernel
theorem dX3_count_46 : decode cX3_count 46 = .ok (.iconst (-1), 1) := by decide +kernel
theorem dX3_count_47 : decode cX3_count 47 = .ok (.ireturn, 1) := by decide +kernel
theorem dX3_mix_0 : decode cX3_mix 0 = .ok (.lload_n 0, 1) := by decide +kernel
theorem dX3_mix_1 : decode cX3_mix 1 = .ok (.lstore_n 2, 1) := by decide +kernel
theorem dX3_mix_2 : decode cX3_mix 2 = .ok (.lload_n 2, 1) := by decide +kernel
theorem dX3_mix_3 : decode cX3_mix 3 = .ok (.lload_n 2, 1) := by decide +kernel
theorem dX3_mix_4 : decode cX3_mix 4 = .ok (.bipush 30, 2) := by decide +kernel
theorem dX3_mix_6 : decode cX3_mix 6 = .ok (.lushr, 1) := by decide +kernel
theorem dX3_mix_7 : decode cX3_mix 7 = .ok (.lxor, 1) := by decide +kernel
theorem dX3_mix_8 : decode cX3_mix 8 = .ok (.ldc2_w 131, 3) := by decide +kernel
theorem dX3_mix_11 : decode cX3_mix 11 = .ok (.lmul, 1) := by decide +kernel
theorem dX3_mix_12 : decode cX3_mix 12 = .ok (.lstore_n 2, 1) := by decide +kernel
theorem dX3_mix_13 : decode cX3_mix 13 = .ok (.lload_n 2, 1) := by decide +kernel
theorem dX3_mix_14 : decode cX3_mix 14 = .ok (.lload_n 2, 1) := by decide +kernel
theorem dX3_mix_15 : decode cX3_mix 15 = .ok (.bipush 27, 2) := by decide +kernel
theorem dX3_mix_17 : decode cX3_mix 17 = .ok (.lushr, 1) := by decide +kernel
theorem dX3_mix_18 : decode cX3_mix 18 = .ok (.lxor, 1) := by decide +kernel
theorem dX3_mix_19 : decode cX3_mix 19 = .ok (.ldc2_w 133, 3) := by decide +kernel
theorem dX3_mix_22 : decode cX3_mix 22 = .ok (.lmul, 1) := by decide +kernel
theorem dX3_mix_23 : decode cX3_mix 23 = .ok (.lstore_n 2, 1) := by decide +kernel
theorem dX3_mix_24 : decode cX3_mix 24 = .ok (.lload_n 2, 1) := by decide +kernel
theorem dX3_mix_25 : decode cX3_mix 25 = .ok (.lload_n 2, 1) := by decide +kernel
theorem dX3_mix_26 : decode cX3_mix 26 = .ok (.bipush 31, 2) := by decide +kernel
theorem dX3_mix_28 : decode cX3_mix 28 = .ok (.lushr, 1) := by decide +kernel
theorem dX3_mix_29 : decode cX3_mix 29 = .ok (.lxor, 1) := by decide +kernel
theorem dX3_mix_30 : decode cX3_mix 30 = .ok (.lreturn, 1) := by decide +kernel
set_option maxRecDepth 20000 in
theorem ggX3_baseOf_X3_mix : GoodIn wsX3_baseOf wsX3_mix := goodIn_r _ [8, 9, 10] (by decide +kernel) (by decide +kernel)
set_option maxRecDepth 20000 in
theorem gX3_baseOf_X3_mix : GoodIn wsX3_baseOf (va_wsS RX3 137 yX3_mix wsX3_mix) := goodIn_app (goodIn_of _ (by decide +kernel)) ggX3_baseOf_X3_mix
theorem dX3_baseOf_0 : decode cX3_baseOf 0 = .ok (.aload_n 0, 1) := by decide +kernel
theorem dX3_baseOf_1 : decode cX3_baseOf 1 = .ok (.getfield 52, 3) := by decide +kernel
theorem dX3_baseOf_4 : decode cX3_baseOf 4 = .ok (.ldc2_w 135, 3) := by decide +kernel
theorem dX3_baseOf_7 : decode cX3_baseOf 7 = .ok (.lload_n 1, 1) := by decide +kernel
theorem dX3_baseOf_8 : decode cX3_baseOf 8 = .ok (.lconst 1, 1) := by decide +kernel
theorem dX3_baseOf_9 : decode cX3_baseOf 9 = .ok (.ladd, 1) := by decide +kernel
theorem dX3_baseOf_10 : decode cX3_baseOf 10 = .ok (.lmul, 1) := by decide +kernel
theorem dX3_baseOf_11 : decode cX3_baseOf 11 = .ok (.ladd, 1) := by decide +kernel
theorem dX3_baseOf_12 : decode cX3_baseOf 12 = .ok (.aload_n 0, 1) := by decide +kernel
theorem dX3_baseOf_13 : decode cX3_baseOf 13 = .ok (.getfield 20, 3) := by decide +kernel
theorem dX3_baseOf_16 : decode cX3_baseOf 16 = .ok (.getfield 64, 3) := by decide +kernel
theorem dX3_baseOf_19 : decode cX3_baseOf 19 = .ok (.iload_n 3, 1) := by decide +kernel
theorem dX3_baseOf_20 : decode cX3_baseOf 20 = .ok (.laload, 1) := by decide +kernel
theorem dX3_baseOf_21 : decode cX3_baseOf 21 = .ok (.lxor, 1) := by decide +kernel
theorem dX3_baseOf_22 : decode cX3_baseOf 22 = .ok (.invokestatic 137, 3) := by decide +kernel
theorem dX3_baseOf_25 : decode cX3_baseOf 25 = .ok (.lreturn, 1) := by decide +kernel
set_option maxRecDepth 20000 in
theorem ggX3_wordAt_X3_mix : GoodIn wsX3_wordAt wsX3_mix := goodIn_r _ [5, 6, 7] (by decide +kernel) (by decide +kernel)
set_option maxRecDepth 20000 in
theorem gX3_wordAt_X3_mix : GoodIn wsX3_wordAt (va_wsS RX3 137 yX3_mix wsX3_mix) := goodIn_app (goodIn_of _ (by decide +kernel)) ggX3_wordAt_X3_mix
theorem dX3_wordAt_0 : decode cX3_wordAt 0 = .ok (.lload_n 0, 1) := by decide +kernel
theorem dX3_wordAt_1 : decode cX3_wordAt 1 = .ok (.ldc2_w 135, 3) := by decide +kernel
theorem dX3_wordAt_4 : decode cX3_wordAt 4 = .ok (.lload_n 2, 1) := by decide +kernel
theorem dX3_wordAt_5 : decode cX3_wordAt 5 = .ok (.lconst 1, 1) := by decide +kernel
theorem dX3_wordAt_6 : decode cX3_wordAt 6 = .ok (.ladd, 1) := by decide +kernel
theorem dX3_wordAt_7 : decode cX3_wordAt 7 = .ok (.lmul, 1) := by decide +kernel
theorem dX3_wordAt_8 : decode cX3_wordAt 8 = .ok (.ladd, 1) := by decide +kernel
theorem dX3_wordAt_9 : decode cX3_wordAt 9 = .ok (.invokestatic 137, 3) := by decide +kernel
theorem dX3_wordAt_12 : decode cX3_wordAt 12 = .ok (.lreturn, 1) := by decide +kernel
theorem dX3_firstCounter_0 : decode cX3_firstCounter 0 = .ok (.ldc2_w 141, 3) := by decide +kernel
theorem dX3_firstCounter_3 : decode cX3_firstCounter 3 = .ok (.iload_n 0, 1) := by decide +kernel
theorem dX3_firstCounter_4 : decode cX3_firstCounter 4 = .ok (.i2l, 1) := by decide +kernel
theorem dX3_firstCounter_5 : decode cX3_firstCounter 5 = .ok (.lmul, 1) := by decide +kernel
theorem dX3_firstCounter_6 : decode cX3_firstCounter 6 = .ok (.lreturn, 1) := by decide +kernel
theorem dX3_belowUnsigned_0 : decode cX3_belowUnsigned 0 = .ok (.lload_n 0, 1) := by decide +kernel
theorem dX3_belowUnsigned_1 : decode cX3_belowUnsigned 1 = .ok (.ldc2_w 143, 3) := by decide +kernel
theorem dX3_belowUnsigned_4 : decode cX3_belowUnsigned 4 = .ok (.lxor, 1) := by decide +kernel
theorem dX3_belowUnsigned_5 : decode cX3_belowUnsigned 5 = .ok (.lload_n 2, 1) := by decide +kernel
theorem dX3_belowUnsigned_6 : decode cX3_belowUnsigned 6 = .ok (.ldc2_w 143, 3) := by decide +kernel
theorem dX3_belowUnsigned_9 : decode cX3_belowUnsigned 9 = .ok (.lxor, 1) := by decide +kernel
theorem dX3_belowUnsigned_10 : decode cX3_belowUnsigned 10 = .ok (.lcmp, 1) := by decide +kernel
theorem dX3_belowUnsigned_11 : decode cX3_belowUnsigned 11 = .ok (.ifCond .ge 7, 3) := by decide +kernel
theorem dX3_belowUnsigned_14 : decode cX3_belowUnsigned 14 = .ok (.iconst 1, 1) := by decide +kernel
theorem dX3_belowUnsigned_15 : decode cX3_belowUnsigned 15 = .ok (.goto 4, 3) := by decide +kernel
theorem dX3_belowUnsigned_18 : decode cX3_belowUnsigned 18 = .ok (.iconst 0, 1) := by decide +kernel
theorem dX3_belowUnsigned_19 : decode cX3_belowUnsigned 19 = .ok (.ireturn, 1) := by decide +kernel
set_option maxRecDepth 20000 in
theorem ggX3_remainderUnsigned_X3_belowUnsigned : GoodIn wsX3_remainderUnsigned wsX3_belowUnsigned := goodIn_r _ [4, 5] (by decide +kernel) (by decide +kernel)
set_option maxRecDepth 20000 in
theorem gX3_remainderUnsigned_X3_belowUnsigned : GoodIn wsX3_remainderUnsigned (va_wsS RX3 145 yX3_belowUnsigned wsX3_belowUnsigned) := goodIn_app (goodIn_of _ (by decide +kernel)) ggX3_remainderUnsigned_X3_belowUnsigned
theorem dX3_remainderUnsigned_0 : decode cX3_remainderUnsigned 0 = .ok (.lload_n 0, 1) := by decide +kernel
theorem dX3_remainderUnsigned_1 : decode cX3_remainderUnsigned 1 = .ok (.iconst 1, 1) := by decide +kernel
theorem dX3_remainderUnsigned_2 : decode cX3_remainderUnsigned 2 = .ok (.lushr, 1) := by decide +kernel
theorem dX3_remainderUnsigned_3 : decode cX3_remainderUnsigned 3 = .ok (.lload_n 2, 1) := by decide +kernel
theorem dX3_remainderUnsigned_4 : decode cX3_remainderUnsigned 4 = .ok (.ldiv, 1) := by decide +kernel
theorem dX3_remainderUnsigned_5 : decode cX3_remainderUnsigned 5 = .ok (.iconst 1, 1) := by decide +kernel
theorem dX3_remainderUnsigned_6 : decode cX3_remainderUnsigned 6 = .ok (.lshl, 1) := by decide +kernel
theorem dX3_remainderUnsigned_7 : decode cX3_remainderUnsigned 7 = .ok (.lstore 4, 2) := by decide +kernel
theorem dX3_remainderUnsigned_9 : decode cX3_remainderUnsigned 9 = .ok (.lload_n 0, 1) := by decide +kernel
theorem dX3_remainderUnsigned_10 : decode cX3_remainderUnsigned 10 = .ok (.lload 4, 2) := by decide +kernel
theorem dX3_remainderUnsigned_12 : decode cX3_remainderUnsigned 12 = .ok (.lload_n 2, 1) := by decide +kernel
theorem dX3_remainderUnsigned_13 : decode cX3_remainderUnsigned 13 = .ok (.lmul, 1) := by decide +kernel
theorem dX3_remainderUnsigned_14 : decode cX3_remainderUnsigned 14 = .ok (.lsub, 1) := by decide +kernel
theorem dX3_remainderUnsigned_15 : decode cX3_remainderUnsigned 15 = .ok (.lstore 6, 2) := by decide +kernel
theorem dX3_remainderUnsigned_17 : decode cX3_remainderUnsigned 17 = .ok (.lload 6, 2) := by decide +kernel
theorem dX3_remainderUnsigned_19 : decode cX3_remainderUnsigned 19 = .ok (.lload_n 2, 1) := by decide +kernel
theorem dX3_remainderUnsigned_20 : decode cX3_remainderUnsigned 20 = .ok (.invokestatic 145, 3) := by decide +kernel
theorem dX3_remainderUnsigned_23 : decode cX3_remainderUnsigned 23 = .ok (.ifCond .eq 8, 3) := by decide +kernel
theorem dX3_remainderUnsigned_26 : decode cX3_remainderUnsigned 26 = .ok (.lload 6, 2) := by decide +kernel
theorem dX3_remainderUnsigned_28 : decode cX3_remainderUnsigned 28 = .ok (.goto 7, 3) := by decide +kernel
theorem dX3_remainderUnsigned_31 : decode cX3_remainderUnsigned 31 = .ok (.lload 6, 2) := by decide +kernel
theorem dX3_remainderUnsigned_33 : decode cX3_remainderUnsigned 33 = .ok (.lload_n 2, 1) := by decide +kernel
theorem dX3_remainderUnsigned_34 : decode cX3_remainderUnsigned 34 = .ok (.lsub, 1) := by decide +kernel
theorem dX3_remainderUnsigned_35 : decode cX3_remainderUnsigned 35 = .ok (.lreturn, 1) := by decide +kernel
set_option maxRecDepth 20000 in
theorem ggX3_drawSpan_X3_baseOf : GoodIn wsX3_drawSpan wsX3_baseOf := goodIn_r _ [7, 8, 9, 10, 11, 12, 13, 6, 14, 15, 16, 31, 32, 33, 34, 35, 36, 37, 38, 39, 40, 41, 42, 43, 44, 45, 46] (by decide +kernel) (by decide +kernel)
set_option maxRecDepth 20000 in
theorem gX3_drawSpan_X3_baseOf : GoodIn wsX3_drawSpan (wsV RX3 67 RX3 yX3_baseOf wsX3_baseOf) := goodIn_app (goodIn_of _ (by decide +kernel)) ggX3_drawSpan_X3_baseOf
set_option maxRecDepth 20000 in
theorem ggX3_drawSpan_X3_firstCounter : GoodIn wsX3_drawSpan wsX3_firstCounter := goodIn_r _ [19, 20] (by decide +kernel) (by decide +kernel)
set_option maxRecDepth 20000 in
theorem gX3_drawSpan_X3_firstCounter : GoodIn wsX3_drawSpan (va_wsS RX3 149 yX3_firstCounter wsX3_firstCounter) := goodIn_app (goodIn_of _ (by decide +kernel)) ggX3_drawSpan_X3_firstCounter
set_option maxRecDepth 20000 in
theorem ggX3_drawSpan_X3_remainderUnsigned : GoodIn wsX3_drawSpan wsX3_remainderUnsigned := goodIn_r _ [23, 24, 25, 6, 26, 27] (by decide +kernel) (by decide +kernel)
set_option maxRecDepth 20000 in
theorem gX3_drawSpan_X3_remainderUnsigned : GoodIn wsX3_drawSpan (va_wsS RX3 153 yX3_remainderUnsigned wsX3_remainderUnsigned) := goodIn_app (goodIn_of _ (by decide +kernel)) ggX3_drawSpan_X3_remainderUnsigned
set_option maxRecDepth 20000 in
theorem ggX3_drawSpan_X3_wordAt : GoodIn wsX3_drawSpan wsX3_wordAt := goodIn_r _ [30, 9, 12, 13, 6, 14, 15, 16] (by decide +kernel) (by decide +kernel)
set_option maxRecDepth 20000 in
theorem gX3_drawSpan_X3_wordAt : GoodIn wsX3_drawSpan (va_wsS RX3 71 yX3_wordAt wsX3_wordAt) := goodIn_app (goodIn_of _ (by decide +kernel)) ggX3_drawSpan_X3_wordAt
set_option maxRecDepth 20000 in
theorem ggX3_drawSpan_X3_belowUnsigned : GoodIn wsX3_drawSpan wsX3_belowUnsigned := goodIn_r _ [26, 27] (by decide +kernel) (by decide +kernel)
set_option maxRecDepth 20000 in
theorem gX3_drawSpan_X3_belowUnsigned : GoodIn wsX3_drawSpan (va_wsS RX3 145 yX3_belowUnsigned wsX3_belowUnsigned) := goodIn_app (goodIn_of _ (by decide +kernel)) ggX3_drawSpan_X3_belowUnsigned
theorem dX3_drawSpan_0 : decode cX3_drawSpan 0 = .ok (.aload_n 0, 1) := by decide +kernel
theorem dX3_drawSpan_1 : decode cX3_drawSpan 1 = .ok (.lload_n 1, 1) := by decide +kernel
theorem dX3_drawSpan_2 : decode cX3_drawSpan 2 = .ok (.iload_n 3, 1) := by decide +kernel
theorem dX3_drawSpan_3 : decode cX3_drawSpan 3 = .ok (.invokevirtual 67, 3) := by decide +kernel
theorem dX3_drawSpan_6 : decode cX3_drawSpan 6 = .ok (.lstore 7, 2) := by decide +kernel
theorem dX3_drawSpan_8 : decode cX3_drawSpan 8 = .ok (.iload 4, 2) := by decide +kernel
theorem dX3_drawSpan_10 : decode cX3_drawSpan 10 = .ok (.invokestatic 149, 3) := by decide +kernel
theorem dX3_drawSpan_13 : decode cX3_drawSpan 13 = .ok (.lstore 9, 2) := by decide +kernel
theorem dX3_drawSpan_15 : decode cX3_drawSpan 15 = .ok (.lload 5, 2) := by decide +kernel
theorem dX3_drawSpan_17 : decode cX3_drawSpan 17 = .ok (.lneg, 1) := by decide +kernel
theorem dX3_drawSpan_18 : decode cX3_drawSpan 18 = .ok (.lload 5, 2) := by decide +kernel
theorem dX3_drawSpan_20 : decode cX3_drawSpan 20 = .ok (.invokestatic 153, 3) := by decide +kernel
theorem dX3_drawSpan_23 : decode cX3_drawSpan 23 = .ok (.lstore 11, 2) := by decide +kernel
theorem dX3_drawSpan_25 : decode cX3_drawSpan 25 = .ok (.iconst 0, 1) := by decide +kernel
theorem dX3_drawSpan_26 : decode cX3_drawSpan 26 = .ok (.istore 13, 2) := by decide +kernel
theorem dX3_drawSpan_28 : decode cX3_drawSpan 28 = .ok (.iload 13, 2) := by decide +kernel
theorem dX3_drawSpan_30 : decode cX3_drawSpan 30 = .ok (.bipush 32, 2) := by decide +kernel
theorem dX3_drawSpan_32 : decode cX3_drawSpan 32 = .ok (.if_icmp .ge 56, 3) := by decide +kernel
theorem dX3_drawSpan_35 : decode cX3_drawSpan 35 = .ok (.lload 7, 2) := by decide +kernel
theorem dX3_drawSpan_37 : decode cX3_drawSpan 37 = .ok (.lload 9, 2) := by decide +kernel
theorem dX3_drawSpan_39 : decode cX3_drawSpan 39 = .ok (.iload 13, 2) := by decide +kernel
theorem dX3_drawSpan_41 : decode cX3_drawSpan 41 = .ok (.i2l, 1) := by decide +kernel
theorem dX3_drawSpan_42 : decode cX3_drawSpan 42 = .ok (.ladd, 1) := by decide +kernel
theorem dX3_drawSpan_43 : decode cX3_drawSpan 43 = .ok (.invokestatic 71, 3) := by decide +kernel
theorem dX3_drawSpan_46 : decode cX3_drawSpan 46 = .ok (.lstore 14, 2) := by decide +kernel
theorem dX3_drawSpan_48 : decode cX3_drawSpan 48 = .ok (.aload_n 0, 1) := by decide +kernel
theorem dX3_drawSpan_49 : decode cX3_drawSpan 49 = .ok (.iload 13, 2) := by decide +kernel
theorem dX3_drawSpan_51 : decode cX3_drawSpan 51 = .ok (.iconst 1, 1) := by decide +kernel
theorem dX3_drawSpan_52 : decode cX3_drawSpan 52 = .ok (.iadd, 1) := by decide +kernel
theorem dX3_drawSpan_53 : decode cX3_drawSpan 53 = .ok (.putfield 46, 3) := by decide +kernel
theorem dX3_drawSpan_56 : decode cX3_drawSpan 56 = .ok (.lload 11, 2) := by decide +kernel
theorem dX3_drawSpan_58 : decode cX3_drawSpan 58 = .ok (.lconst 0, 1) := by decide +kernel
theorem dX3_drawSpan_59 : decode cX3_drawSpan 59 = .ok (.lcmp, 1) := by decide +kernel
theorem dX3_drawSpan_60 : decode cX3_drawSpan 60 = .ok (.ifCond .eq 14, 3) := by decide +kernel
theorem dX3_drawSpan_63 : decode cX3_drawSpan 63 = .ok (.lload 14, 2) := by decide +kernel
theorem dX3_drawSpan_65 : decode cX3_drawSpan 65 = .ok (.lload 11, 2) := by decide +kernel
theorem dX3_drawSpan_67 : decode cX3_drawSpan 67 = .ok (.lneg, 1) := by decide +kernel
theorem dX3_drawSpan_68 : decode cX3_drawSpan 68 = .ok (.invokestatic 145, 3) := by decide +kernel
theorem dX3_drawSpan_71 : decode cX3_drawSpan 71 = .ok (.ifCond .eq 11, 3) := by decide +kernel
theorem dX3_drawSpan_74 : decode cX3_drawSpan 74 = .ok (.lload 14, 2) := by decide +kernel
theorem dX3_drawSpan_76 : decode cX3_drawSpan 76 = .ok (.lload 5, 2) := by decide +kernel
theorem dX3_drawSpan_78 : decode cX3_drawSpan 78 = .ok (.invokestatic 153, 3) := by decide +kernel
theorem dX3_drawSpan_81 : decode cX3_drawSpan 81 = .ok (.lreturn, 1) := by decide +kernel
theorem dX3_drawSpan_82 : decode cX3_drawSpan 82 = .ok (.iinc 13 1, 3) := by decide +kernel
theorem dX3_drawSpan_85 : decode cX3_drawSpan 85 = .ok (.goto (-57), 3) := by decide +kernel
theorem dX3_drawSpan_88 : decode cX3_drawSpan 88 = .ok (.ldc2_w 156, 3) := by decide +kernel
theorem dX3_drawSpan_91 : decode cX3_drawSpan 91 = .ok (.lreturn, 1) := by decide +kernel
set_option maxRecDepth 20000 in
theorem ggX3_drawFraction_X3_baseOf : GoodIn wsX3_drawFraction wsX3_baseOf := goodIn_r _ [6, 7, 8, 9, 10, 11, 12, 5, 13, 14, 15, 23, 24, 25, 26, 27, 28, 29, 30, 31, 32, 33, 34, 35, 36, 37, 38] (by decide +kernel) (by decide +kernel)
set_option maxRecDepth 20000 in
theorem gX3_drawFraction_X3_baseOf : GoodIn wsX3_drawFraction (wsV RX3 67 RX3 yX3_baseOf wsX3_baseOf) := goodIn_app (goodIn_of _ (by decide +kernel)) ggX3_drawFraction_X3_baseOf
set_option maxRecDepth 20000 in
theorem ggX3_drawFraction_X3_firstCounter : GoodIn wsX3_drawFraction wsX3_firstCounter := goodIn_r _ [18, 19] (by decide +kernel) (by decide +kernel)
set_option maxRecDepth 20000 in
theorem gX3_drawFraction_X3_firstCounter : GoodIn wsX3_drawFraction (va_wsS RX3 149 yX3_firstCounter wsX3_firstCounter) := goodIn_app (goodIn_of _ (by decide +kernel)) ggX3_drawFraction_X3_firstCounter
set_option maxRecDepth 20000 in
theorem ggX3_drawFraction_X3_wordAt : GoodIn wsX3_drawFraction wsX3_wordAt := goodIn_r _ [22, 8, 11, 12, 5, 13, 14, 15] (by decide +kernel) (by decide +kernel)
set_option maxRecDepth 20000 in
theorem gX3_drawFraction_X3_wordAt : GoodIn wsX3_drawFraction (va_wsS RX3 71 yX3_wordAt wsX3_wordAt) := goodIn_app (goodIn_of _ (by decide +kernel)) ggX3_drawFraction_X3_wordAt
theorem dX3_drawFraction_0 : decode cX3_drawFraction 0 = .ok (.aload_n 0, 1) := by decide +kernel
theorem dX3_drawFraction_1 : decode cX3_drawFraction 1 = .ok (.iconst 0, 1) := by decide +kernel
theorem dX3_drawFraction_2 : decode cX3_drawFraction 2 = .ok (.putfield 46, 3) := by decide +kernel
end
section
theorem dX3_drawFraction_5 : decode cX3_drawFraction 5 = .ok (.lload 5, 2) := by decide +kernel
theorem dX3_drawFraction_7 : decode cX3_drawFraction 7 = .ok (.lload 7, 2) := by decide +kernel
theorem dX3_drawFraction_9 : decode cX3_drawFraction 9 = .ok (.lcmp, 1) := by decide +kernel
theorem dX3_drawFraction_10 : decode cX3_drawFraction 10 = .ok (.ifCond .ne 5, 3) := by decide +kernel
theorem dX3_drawFraction_13 : decode cX3_drawFraction 13 = .ok (.iconst 1, 1) := by decide +kernel
theorem dX3_drawFraction_14 : decode cX3_drawFraction 14 = .ok (.ireturn, 1) := by decide +kernel
theorem dX3_drawFraction_15 : decode cX3_drawFraction 15 = .ok (.lload 5, 2) := by decide +kernel
theorem dX3_drawFraction_17 : decode cX3_drawFraction 17 = .ok (.lconst 0, 1) := by decide +kernel
theorem dX3_drawFraction_18 : decode cX3_drawFraction 18 = .ok (.lcmp, 1) := by decide +kernel
theorem dX3_drawFraction_19 : decode cX3_drawFraction 19 = .ok (.ifCond .ne 5, 3) := by decide +kernel
theorem dX3_drawFraction_22 : decode cX3_drawFraction 22 = .ok (.iconst 0, 1) := by decide +kernel
theorem dX3_drawFraction_23 : decode cX3_drawFraction 23 = .ok (.ireturn, 1) := by decide +kernel
theorem dX3_drawFraction_24 : decode cX3_drawFraction 24 = .ok (.aload_n 0, 1) := by decide +kernel
theorem dX3_drawFraction_25 : decode cX3_drawFraction 25 = .ok (.lload_n 1, 1) := by decide +kernel
theorem dX3_drawFraction_26 : decode cX3_drawFraction 26 = .ok (.iload_n 3, 1) := by decide +kernel
theorem dX3_drawFraction_27 : decode cX3_drawFraction 27 = .ok (.invokevirtual 67, 3) := by decide +kernel
theorem dX3_drawFraction_30 : decode cX3_drawFraction 30 = .ok (.lstore 9, 2) := by decide +kernel
theorem dX3_drawFraction_32 : decode cX3_drawFraction 32 = .ok (.iload 4, 2) := by decide +kernel
theorem dX3_drawFraction_34 : decode cX3_drawFraction 34 = .ok (.invokestatic 149, 3) := by decide +kernel
theorem dX3_drawFraction_37 : decode cX3_drawFraction 37 = .ok (.lstore 11, 2) := by decide +kernel
theorem dX3_drawFraction_39 : decode cX3_drawFraction 39 = .ok (.lload 5, 2) := by decide +kernel
theorem dX3_drawFraction_41 : decode cX3_drawFraction 41 = .ok (.lstore 13, 2) := by decide +kernel
theorem dX3_drawFraction_43 : decode cX3_drawFraction 43 = .ok (.iconst 0, 1) := by decide +kernel
theorem dX3_drawFraction_44 : decode cX3_drawFraction 44 = .ok (.istore 15, 2) := by decide +kernel
theorem dX3_drawFraction_46 : decode cX3_drawFraction 46 = .ok (.iload 15, 2) := by decide +kernel
theorem dX3_drawFraction_48 : decode cX3_drawFraction 48 = .ok (.bipush 32, 2) := by decide +kernel
theorem dX3_drawFraction_50 : decode cX3_drawFraction 50 = .ok (.if_icmp .ge 134, 3) := by decide +kernel
theorem dX3_drawFraction_53 : decode cX3_drawFraction 53 = .ok (.lload 9, 2) := by decide +kernel
theorem dX3_drawFraction_55 : decode cX3_drawFraction 55 = .ok (.lload 11, 2) := by decide +kernel
theorem dX3_drawFraction_57 : decode cX3_drawFraction 57 = .ok (.iload 15, 2) := by decide +kernel
theorem dX3_drawFraction_59 : decode cX3_drawFraction 59 = .ok (.i2l, 1) := by decide +kernel
theorem dX3_drawFraction_60 : decode cX3_drawFraction 60 = .ok (.ladd, 1) := by decide +kernel
theorem dX3_drawFraction_61 : decode cX3_drawFraction 61 = .ok (.invokestatic 71, 3) := by decide +kernel
theorem dX3_drawFraction_64 : decode cX3_drawFraction 64 = .ok (.lstore 16, 2) := by decide +kernel
theorem dX3_drawFraction_66 : decode cX3_drawFraction 66 = .ok (.bipush 63, 2) := by decide +kernel
theorem dX3_drawFraction_68 : decode cX3_drawFraction 68 = .ok (.istore 18, 2) := by decide +kernel
theorem dX3_drawFraction_70 : decode cX3_drawFraction 70 = .ok (.iload 18, 2) := by decide +kernel
theorem dX3_drawFraction_72 : decode cX3_drawFraction 72 = .ok (.ifCond .lt 106, 3) := by decide +kernel
theorem dX3_drawFraction_75 : decode cX3_drawFraction 75 = .ok (.lload 13, 2) := by decide +kernel
theorem dX3_drawFraction_77 : decode cX3_drawFraction 77 = .ok (.lload 7, 2) := by decide +kernel
theorem dX3_drawFraction_79 : decode cX3_drawFraction 79 = .ok (.lload 13, 2) := by decide +kernel
theorem dX3_drawFraction_81 : decode cX3_drawFraction 81 = .ok (.lsub, 1) := by decide +kernel
theorem dX3_drawFraction_82 : decode cX3_drawFraction 82 = .ok (.lcmp, 1) := by decide +kernel
theorem dX3_drawFraction_83 : decode cX3_drawFraction 83 = .ok (.ifCond .lt 7, 3) := by decide +kernel
theorem dX3_drawFraction_86 : decode cX3_drawFraction 86 = .ok (.iconst 1, 1) := by decide +kernel
theorem dX3_drawFraction_87 : decode cX3_drawFraction 87 = .ok (.goto 4, 3) := by decide +kernel
theorem dX3_drawFraction_90 : decode cX3_drawFraction 90 = .ok (.iconst 0, 1) := by decide +kernel
theorem dX3_drawFraction_91 : decode cX3_drawFraction 91 = .ok (.istore 19, 2) := by decide +kernel
theorem dX3_drawFraction_93 : decode cX3_drawFraction 93 = .ok (.iload 19, 2) := by decide +kernel
theorem dX3_drawFraction_95 : decode cX3_drawFraction 95 = .ok (.ifCond .eq 14, 3) := by decide +kernel
theorem dX3_drawFraction_98 : decode cX3_drawFraction 98 = .ok (.lload 13, 2) := by decide +kernel
theorem dX3_drawFraction_100 : decode cX3_drawFraction 100 = .ok (.lload 7, 2) := by decide +kernel
theorem dX3_drawFraction_102 : decode cX3_drawFraction 102 = .ok (.lload 13, 2) := by decide +kernel
theorem dX3_drawFraction_104 : decode cX3_drawFraction 104 = .ok (.lsub, 1) := by decide +kernel
theorem dX3_drawFraction_105 : decode cX3_drawFraction 105 = .ok (.lsub, 1) := by decide +kernel
theorem dX3_drawFraction_106 : decode cX3_drawFraction 106 = .ok (.goto 8, 3) := by decide +kernel
theorem dX3_drawFraction_109 : decode cX3_drawFraction 109 = .ok (.lload 13, 2) := by decide +kernel
theorem dX3_drawFraction_111 : decode cX3_drawFraction 111 = .ok (.lload 13, 2) := by decide +kernel
theorem dX3_drawFraction_113 : decode cX3_drawFraction 113 = .ok (.ladd, 1) := by decide +kernel
theorem dX3_drawFraction_114 : decode cX3_drawFraction 114 = .ok (.lstore 13, 2) := by decide +kernel
theorem dX3_drawFraction_116 : decode cX3_drawFraction 116 = .ok (.lload 16, 2) := by decide +kernel
theorem dX3_drawFraction_118 : decode cX3_drawFraction 118 = .ok (.iload 18, 2) := by decide +kernel
theorem dX3_drawFraction_120 : decode cX3_drawFraction 120 = .ok (.lushr, 1) := by decide +kernel
theorem dX3_drawFraction_121 : decode cX3_drawFraction 121 = .ok (.lconst 1, 1) := by decide +kernel
theorem dX3_drawFraction_122 : decode cX3_drawFraction 122 = .ok (.land, 1) := by decide +kernel
theorem dX3_drawFraction_123 : decode cX3_drawFraction 123 = .ok (.lconst 1, 1) := by decide +kernel
theorem dX3_drawFraction_124 : decode cX3_drawFraction 124 = .ok (.lcmp, 1) := by decide +kernel
theorem dX3_drawFraction_125 : decode cX3_drawFraction 125 = .ok (.ifCond .ne 7, 3) := by decide +kernel
theorem dX3_drawFraction_128 : decode cX3_drawFraction 128 = .ok (.iconst 1, 1) := by decide +kernel
theorem dX3_drawFraction_129 : decode cX3_drawFraction 129 = .ok (.goto 4, 3) := by decide +kernel
theorem dX3_drawFraction_132 : decode cX3_drawFraction 132 = .ok (.iconst 0, 1) := by decide +kernel
theorem dX3_drawFraction_133 : decode cX3_drawFraction 133 = .ok (.istore 20, 2) := by decide +kernel
theorem dX3_drawFraction_135 : decode cX3_drawFraction 135 = .ok (.aload_n 0, 1) := by decide +kernel
theorem dX3_drawFraction_136 : decode cX3_drawFraction 136 = .ok (.dup, 1) := by decide +kernel
theorem dX3_drawFraction_137 : decode cX3_drawFraction 137 = .ok (.getfield 46, 3) := by decide +kernel
theorem dX3_drawFraction_140 : decode cX3_drawFraction 140 = .ok (.iconst 1, 1) := by decide +kernel
theorem dX3_drawFraction_141 : decode cX3_drawFraction 141 = .ok (.iadd, 1) := by decide +kernel
theorem dX3_drawFraction_142 : decode cX3_drawFraction 142 = .ok (.putfield 46, 3) := by decide +kernel
theorem dX3_drawFraction_145 : decode cX3_drawFraction 145 = .ok (.iload 20, 2) := by decide +kernel
theorem dX3_drawFraction_147 : decode cX3_drawFraction 147 = .ok (.iload 19, 2) := by decide +kernel
theorem dX3_drawFraction_149 : decode cX3_drawFraction 149 = .ok (.if_icmp .eq 14, 3) := by decide +kernel
theorem dX3_drawFraction_152 : decode cX3_drawFraction 152 = .ok (.iload 20, 2) := by decide +kernel
theorem dX3_drawFraction_154 : decode cX3_drawFraction 154 = .ok (.ifCond .eq 7, 3) := by decide +kernel
theorem dX3_drawFraction_157 : decode cX3_drawFraction 157 = .ok (.iconst 0, 1) := by decide +kernel
theorem dX3_drawFraction_158 : decode cX3_drawFraction 158 = .ok (.goto 4, 3) := by decide +kernel
theorem dX3_drawFraction_161 : decode cX3_drawFraction 161 = .ok (.iconst 1, 1) := by decide +kernel
theorem dX3_drawFraction_162 : decode cX3_drawFraction 162 = .ok (.ireturn, 1) := by decide +kernel
theorem dX3_drawFraction_163 : decode cX3_drawFraction 163 = .ok (.lload 13, 2) := by decide +kernel
theorem dX3_drawFraction_165 : decode cX3_drawFraction 165 = .ok (.lconst 0, 1) := by decide +kernel
theorem dX3_drawFraction_166 : decode cX3_drawFraction 166 = .ok (.lcmp, 1) := by decide +kernel
theorem dX3_drawFraction_167 : decode cX3_drawFraction 167 = .ok (.ifCond .ne 5, 3) := by decide +kernel
theorem dX3_drawFraction_170 : decode cX3_drawFraction 170 = .ok (.iconst 0, 1) := by decide +kernel
theorem dX3_drawFraction_171 : decode cX3_drawFraction 171 = .ok (.ireturn, 1) := by decide +kernel
theorem dX3_drawFraction_172 : decode cX3_drawFraction 172 = .ok (.iinc 18 (-1), 3) := by decide +kernel
theorem dX3_drawFraction_175 : decode cX3_drawFraction 175 = .ok (.goto (-105), 3) := by decide +kernel
theorem dX3_drawFraction_178 : decode cX3_drawFraction 178 = .ok (.iinc 15 1, 3) := by decide +kernel
theorem dX3_drawFraction_181 : decode cX3_drawFraction 181 = .ok (.goto (-135), 3) := by decide +kernel
theorem dX3_drawFraction_184 : decode cX3_drawFraction 184 = .ok (.bipush (-3), 2) := by decide +kernel
theorem dX3_drawFraction_186 : decode cX3_drawFraction 186 = .ok (.ireturn, 1) := by decide +kernel
theorem dX3_sumOfWeights_0 : decode cX3_sumOfWeights 0 = .ok (.lconst 0, 1) := by decide +kernel
theorem dX3_sumOfWeights_1 : decode cX3_sumOfWeights 1 = .ok (.lstore_n 1, 1) := by decide +kernel
theorem dX3_sumOfWeights_2 : decode cX3_sumOfWeights 2 = .ok (.iconst 0, 1) := by decide +kernel
theorem dX3_sumOfWeights_3 : decode cX3_sumOfWeights 3 = .ok (.istore_n 3, 1) := by decide +kernel
theorem dX3_sumOfWeights_4 : decode cX3_sumOfWeights 4 = .ok (.iload_n 3, 1) := by decide +kernel
theorem dX3_sumOfWeights_5 : decode cX3_sumOfWeights 5 = .ok (.bipush 10, 2) := by decide +kernel
theorem dX3_sumOfWeights_7 : decode cX3_sumOfWeights 7 = .ok (.if_icmp .ge 28, 3) := by decide +kernel
theorem dX3_sumOfWeights_10 : decode cX3_sumOfWeights 10 = .ok (.lload_n 1, 1) := by decide +kernel
theorem dX3_sumOfWeights_11 : decode cX3_sumOfWeights 11 = .ok (.aload_n 0, 1) := by decide +kernel
theorem dX3_sumOfWeights_12 : decode cX3_sumOfWeights 12 = .ok (.getfield 24, 3) := by decide +kernel
theorem dX3_sumOfWeights_15 : decode cX3_sumOfWeights 15 = .ok (.iload_n 3, 1) := by decide +kernel
theorem dX3_sumOfWeights_16 : decode cX3_sumOfWeights 16 = .ok (.laload, 1) := by decide +kernel
theorem dX3_sumOfWeights_17 : decode cX3_sumOfWeights 17 = .ok (.ladd, 1) := by decide +kernel
theorem dX3_sumOfWeights_18 : decode cX3_sumOfWeights 18 = .ok (.lstore_n 1, 1) := by decide +kernel
theorem dX3_sumOfWeights_19 : decode cX3_sumOfWeights 19 = .ok (.lload_n 1, 1) := by decide +kernel
theorem dX3_sumOfWeights_20 : decode cX3_sumOfWeights 20 = .ok (.lconst 0, 1) := by decide +kernel
theorem dX3_sumOfWeights_21 : decode cX3_sumOfWeights 21 = .ok (.lcmp, 1) := by decide +kernel
theorem dX3_sumOfWeights_22 : decode cX3_sumOfWeights 22 = .ok (.ifCond .ge 7, 3) := by decide +kernel
theorem dX3_sumOfWeights_25 : decode cX3_sumOfWeights 25 = .ok (.ldc2_w 158, 3) := by decide +kernel
theorem dX3_sumOfWeights_28 : decode cX3_sumOfWeights 28 = .ok (.lreturn, 1) := by decide +kernel
theorem dX3_sumOfWeights_29 : decode cX3_sumOfWeights 29 = .ok (.iinc 3 1, 3) := by decide +kernel
theorem dX3_sumOfWeights_32 : decode cX3_sumOfWeights 32 = .ok (.goto (-28), 3) := by decide +kernel
theorem dX3_sumOfWeights_35 : decode cX3_sumOfWeights 35 = .ok (.lload_n 1, 1) := by decide +kernel
theorem dX3_sumOfWeights_36 : decode cX3_sumOfWeights 36 = .ok (.lreturn, 1) := by decide +kernel
set_option maxRecDepth 20000 in
theorem ggX3_drawPick_X3_sumOfWeights : GoodIn wsX3_drawPick wsX3_sumOfWeights := goodIn_r _ [5, 6, 7, 45, 46, 47, 48, 49, 50, 51, 52, 53, 54, 55] (by decide +kernel) (by decide +kernel)
set_option maxRecDepth 20000 in
theorem gX3_drawPick_X3_sumOfWeights : GoodIn wsX3_drawPick (wsV RX3 160 RX3 yX3_sumOfWeights wsX3_sumOfWeights) := goodIn_app (goodIn_of _ (by decide +kernel)) ggX3_drawPick_X3_sumOfWeights
set_option maxRecDepth 20000 in
theorem ggX3_drawPick_X3_drawSpan : GoodIn wsX3_drawPick wsX3_drawSpan := goodIn_r _ [11, 12, 13, 14, 15, 16, 4, 17, 18, 19, 20, 21, 22, 23, 24, 25, 26, 27, 28, 29, 30, 31, 32, 33, 34, 35, 36, 37, 38, 39, 40, 45, 46, 47, 48, 49, 50, 51, 52, 53, 54, 55, 56, 57, 58, 59, 60] (by decide +kernel) (by decide +kernel)
set_option maxRecDepth 20000 in
theorem gX3_drawPick_X3_drawSpan : GoodIn wsX3_drawPick (wsV RX3 79 RX3 yX3_drawSpan wsX3_drawSpan) := goodIn_app (goodIn_of _ (by decide +kernel)) ggX3_drawPick_X3_drawSpan
set_option maxRecDepth 20000 in
theorem ggX3_drawPick_X3_weightReaching : GoodIn wsX3_drawPick wsX3_weightReaching := goodIn_r _ [44, 6, 45, 46, 47, 48, 49, 50, 51, 52, 53, 54, 55] (by decide +kernel) (by decide +kernel)
set_option maxRecDepth 20000 in
theorem gX3_drawPick_X3_weightReaching : GoodIn wsX3_drawPick (wsV RX3 164 RX3 yX3_weightReaching wsX3_weightReaching) := goodIn_app (goodIn_of _ (by decide +kernel)) ggX3_drawPick_X3_weightReaching
theorem dX3_drawPick_0 : decode cX3_drawPick 0 = .ok (.aload_n 0, 1) := by decide +kernel
theorem dX3_drawPick_1 : decode cX3_drawPick 1 = .ok (.invokevirtual 160, 3) := by decide +kernel
theorem dX3_drawPick_4 : decode cX3_drawPick 4 = .ok (.lstore 5, 2) := by decide +kernel
theorem dX3_drawPick_6 : decode cX3_drawPick 6 = .ok (.lload 5, 2) := by decide +kernel
theorem dX3_drawPick_8 : decode cX3_drawPick 8 = .ok (.lconst 0, 1) := by decide +kernel
theorem dX3_drawPick_9 : decode cX3_drawPick 9 = .ok (.lcmp, 1) := by decide +kernel
theorem dX3_drawPick_10 : decode cX3_drawPick 10 = .ok (.ifCond .ne 6, 3) := by decide +kernel
theorem dX3_drawPick_13 : decode cX3_drawPick 13 = .ok (.bipush (-4), 2) := by decide +kernel
theorem dX3_drawPick_15 : decode cX3_drawPick 15 = .ok (.ireturn, 1) := by decide +kernel
theorem dX3_drawPick_16 : decode cX3_drawPick 16 = .ok (.lload 5, 2) := by decide +kernel
theorem dX3_drawPick_18 : decode cX3_drawPick 18 = .ok (.lconst 0, 1) := by decide +kernel
theorem dX3_drawPick_19 : decode cX3_drawPick 19 = .ok (.lcmp, 1) := by decide +kernel
theorem dX3_drawPick_20 : decode cX3_drawPick 20 = .ok (.ifCond .ge 6, 3) := by decide +kernel
theorem dX3_drawPick_23 : decode cX3_drawPick 23 = .ok (.bipush (-5), 2) := by decide +kernel
theorem dX3_drawPick_25 : decode cX3_drawPick 25 = .ok (.ireturn, 1) := by decide +kernel
theorem dX3_drawPick_26 : decode cX3_drawPick 26 = .ok (.aload_n 0, 1) := by decide +kernel
theorem dX3_drawPick_27 : decode cX3_drawPick 27 = .ok (.lload_n 1, 1) := by decide +kernel
theorem dX3_drawPick_28 : decode cX3_drawPick 28 = .ok (.iload_n 3, 1) := by decide +kernel
theorem dX3_drawPick_29 : decode cX3_drawPick 29 = .ok (.iload 4, 2) := by decide +kernel
theorem dX3_drawPick_31 : decode cX3_drawPick 31 = .ok (.lload 5, 2) := by decide +kernel
theorem dX3_drawPick_33 : decode cX3_drawPick 33 = .ok (.invokevirtual 79, 3) := by decide +kernel
theorem dX3_drawPick_36 : decode cX3_drawPick 36 = .ok (.lstore 7, 2) := by decide +kernel
theorem dX3_drawPick_38 : decode cX3_drawPick 38 = .ok (.lload 7, 2) := by decide +kernel
theorem dX3_drawPick_40 : decode cX3_drawPick 40 = .ok (.lconst 0, 1) := by decide +kernel
theorem dX3_drawPick_41 : decode cX3_drawPick 41 = .ok (.lcmp, 1) := by decide +kernel
theorem dX3_drawPick_42 : decode cX3_drawPick 42 = .ok (.ifCond .ge 8, 3) := by decide +kernel
theorem dX3_drawPick_45 : decode cX3_drawPick 45 = .ok (.bipush (-3), 2) := by decide +kernel
theorem dX3_drawPick_47 : decode cX3_drawPick 47 = .ok (.goto 9, 3) := by decide +kernel
theorem dX3_drawPick_50 : decode cX3_drawPick 50 = .ok (.aload_n 0, 1) := by decide +kernel
theorem dX3_drawPick_51 : decode cX3_drawPick 51 = .ok (.lload 7, 2) := by decide +kernel
theorem dX3_drawPick_53 : decode cX3_drawPick 53 = .ok (.invokevirtual 164, 3) := by decide +kernel
theorem dX3_drawPick_56 : decode cX3_drawPick 56 = .ok (.ireturn, 1) := by decide +kernel
theorem dX3_weightReaching_0 : decode cX3_weightReaching 0 = .ok (.lload_n 1, 1) := by decide +kernel
theorem dX3_weightReaching_1 : decode cX3_weightReaching 1 = .ok (.lstore_n 3, 1) := by decide +kernel
theorem dX3_weightReaching_2 : decode cX3_weightReaching 2 = .ok (.iconst 0, 1) := by decide +kernel
theorem dX3_weightReaching_3 : decode cX3_weightReaching 3 = .ok (.istore 5, 2) := by decide +kernel
theorem dX3_weightReaching_5 : decode cX3_weightReaching 5 = .ok (.iload 5, 2) := by decide +kernel
theorem dX3_weightReaching_7 : decode cX3_weightReaching 7 = .ok (.bipush 9, 2) := by decide +kernel
theorem dX3_weightReaching_9 : decode cX3_weightReaching 9 = .ok (.if_icmp .ge 31, 3) := by decide +kernel
theorem dX3_weightReaching_12 : decode cX3_weightReaching 12 = .ok (.lload_n 3, 1) := by decide +kernel
theorem dX3_weightReaching_13 : decode cX3_weightReaching 13 = .ok (.aload_n 0, 1) := by decide +kernel
theorem dX3_weightReaching_14 : decode cX3_weightReaching 14 = .ok (.getfield 24, 3) := by decide +kernel
theorem dX3_weightReaching_17 : decode cX3_weightReaching 17 = .ok (.iload 5, 2) := by decide +kernel
theorem dX3_weightReaching_19 : decode cX3_weightReaching 19 = .ok (.laload, 1) := by decide +kernel
theorem dX3_weightReaching_20 : decode cX3_weightReaching 20 = .ok (.lcmp, 1) := by decide +kernel
theorem dX3_weightReaching_21 : decode cX3_weightReaching 21 = .ok (.ifCond .lt 19, 3) := by decide +kernel
theorem dX3_weightReaching_24 : decode cX3_weightReaching 24 = .ok (.lload_n 3, 1) := by decide +kernel
theorem dX3_weightReaching_25 : decode cX3_weightReaching 25 = .ok (.aload_n 0, 1) := by decide +kernel
theorem dX3_weightReaching_26 : decode cX3_weightReaching 26 = .ok (.getfield 24, 3) := by decide +kernel
theorem dX3_weightReaching_29 : decode cX3_weightReaching 29 = .ok (.iload 5, 2) := by decide +kernel
theorem dX3_weightReaching_31 : decode cX3_weightReaching 31 = .ok (.laload, 1) := by decide +kernel
theorem dX3_weightReaching_32 : decode cX3_weightReaching 32 = .ok (.lsub, 1) := by decide +kernel
theorem dX3_weightReaching_33 : decode cX3_weightReaching 33 = .ok (.lstore_n 3, 1) := by decide +kernel
theorem dX3_weightReaching_34 : decode cX3_weightReaching 34 = .ok (.iinc 5 1, 3) := by decide +kernel
theorem dX3_weightReaching_37 : decode cX3_weightReaching 37 = .ok (.goto (-32), 3) := by decide +kernel
theorem dX3_weightReaching_40 : decode cX3_weightReaching 40 = .ok (.iload 5, 2) := by decide +kernel
theorem dX3_weightReaching_42 : decode cX3_weightReaching 42 = .ok (.ireturn, 1) := by decide +kernel
set_option maxRecDepth 20000 in
theorem ggX3_drawPermutation_X3_drawSpan : GoodIn wsX3_drawPermutation wsX3_drawSpan := goodIn_r _ [6, 7, 8, 9, 10, 11, 5, 12, 13, 14, 15, 16, 17, 18, 19, 20, 21, 22, 23, 24, 25, 26, 27, 28, 29, 30, 31, 32, 33, 34, 35, 36, 37, 38, 39, 40, 41, 42, 43, 44, 45, 46, 47, 48, 49, 50, 51] (by decide +kernel) (by decide +kernel)
set_option maxRecDepth 20000 in
theorem gX3_drawPermutation_X3_drawSpan : GoodIn wsX3_drawPermutation (wsV RX3 79 RX3 yX3_drawSpan wsX3_drawSpan) := goodIn_app (goodIn_of _ (by decide +kernel)) ggX3_drawPermutation_X3_drawSpan
theorem dX3_drawPermutation_0 : decode cX3_drawPermutation 0 = .ok (.iconst 0, 1) := by decide +kernel
theorem dX3_drawPermutation_1 : decode cX3_drawPermutation 1 = .ok (.istore 6, 2) := by decide +kernel
theorem dX3_drawPermutation_3 : decode cX3_drawPermutation 3 = .ok (.iload 6, 2) := by decide +kernel
theorem dX3_drawPermutation_5 : decode cX3_drawPermutation 5 = .ok (.iload 5, 2) := by decide +kernel
theorem dX3_drawPermutation_7 : decode cX3_drawPermutation 7 = .ok (.if_icmp .ge 18, 3) := by decide +kernel
theorem dX3_drawPermutation_10 : decode cX3_drawPermutation 10 = .ok (.aload_n 0, 1) := by decide +kernel
theorem dX3_drawPermutation_11 : decode cX3_drawPermutation 11 = .ok (.getfield 27, 3) := by decide +kernel
theorem dX3_drawPermutation_14 : decode cX3_drawPermutation 14 = .ok (.iload 6, 2) := by decide +kernel
theorem dX3_drawPermutation_16 : decode cX3_drawPermutation 16 = .ok (.iload 6, 2) := by decide +kernel
theorem dX3_drawPermutation_18 : decode cX3_drawPermutation 18 = .ok (.iastore, 1) := by decide +kernel
theorem dX3_drawPermutation_19 : decode cX3_drawPermutation 19 = .ok (.iinc 6 1, 3) := by decide +kernel
theorem dX3_drawPermutation_22 : decode cX3_drawPermutation 22 = .ok (.goto (-19), 3) := by decide +kernel
theorem dX3_drawPermutation_25 : decode cX3_drawPermutation 25 = .ok (.iload 5, 2) := by decide +kernel
theorem dX3_drawPermutation_27 : decode cX3_drawPermutation 27 = .ok (.iconst 1, 1) := by decide +kernel
theorem dX3_drawPermutation_28 : decode cX3_drawPermutation 28 = .ok (.isub, 1) := by decide +kernel
theorem dX3_drawPermutation_29 : decode cX3_drawPermutation 29 = .ok (.istore 6, 2) := by decide +kernel
theorem dX3_drawPermutation_31 : decode cX3_drawPermutation 31 = .ok (.iload 6, 2) := by decide +kernel
theorem dX3_drawPermutation_33 : decode cX3_drawPermutation 33 = .ok (.iconst 1, 1) := by decide +kernel
theorem dX3_drawPermutation_34 : decode cX3_drawPermutation 34 = .ok (.if_icmp .lt 73, 3) := by decide +kernel
theorem dX3_drawPermutation_37 : decode cX3_drawPermutation 37 = .ok (.aload_n 0, 1) := by decide +kernel
theorem dX3_drawPermutation_38 : decode cX3_drawPermutation 38 = .ok (.lload_n 1, 1) := by decide +kernel
theorem dX3_drawPermutation_39 : decode cX3_drawPermutation 39 = .ok (.iload_n 3, 1) := by decide +kernel
theorem dX3_drawPermutation_40 : decode cX3_drawPermutation 40 = .ok (.iload 4, 2) := by decide +kernel
theorem dX3_drawPermutation_42 : decode cX3_drawPermutation 42 = .ok (.iload 6, 2) := by decide +kernel
theorem dX3_drawPermutation_44 : decode cX3_drawPermutation 44 = .ok (.iadd, 1) := by decide +kernel
theorem dX3_drawPermutation_45 : decode cX3_drawPermutation 45 = .ok (.iload 6, 2) := by decide +kernel
theorem dX3_drawPermutation_47 : decode cX3_drawPermutation 47 = .ok (.iconst 1, 1) := by decide +kernel
theorem dX3_drawPermutation_48 : decode cX3_drawPermutation 48 = .ok (.iadd, 1) := by decide +kernel
theorem dX3_drawPermutation_49 : decode cX3_drawPermutation 49 = .ok (.i2l, 1) := by decide +kernel
theorem dX3_drawPermutation_50 : decode cX3_drawPermutation 50 = .ok (.invokevirtual 79, 3) := by decide +kernel
theorem dX3_drawPermutation_53 : decode cX3_drawPermutation 53 = .ok (.lstore 7, 2) := by decide +kernel
theorem dX3_drawPermutation_55 : decode cX3_drawPermutation 55 = .ok (.lload 7, 2) := by decide +kernel
theorem dX3_drawPermutation_57 : decode cX3_drawPermutation 57 = .ok (.lconst 0, 1) := by decide +kernel
theorem dX3_drawPermutation_58 : decode cX3_drawPermutation 58 = .ok (.lcmp, 1) := by decide +kernel
theorem dX3_drawPermutation_59 : decode cX3_drawPermutation 59 = .ok (.ifCond .ge 5, 3) := by decide +kernel
theorem dX3_drawPermutation_62 : decode cX3_drawPermutation 62 = .ok (.iconst 0, 1) := by decide +kernel
theorem dX3_drawPermutation_63 : decode cX3_drawPermutation 63 = .ok (.ireturn, 1) := by decide +kernel
theorem dX3_drawPermutation_64 : decode cX3_drawPermutation 64 = .ok (.lload 7, 2) := by decide +kernel
theorem dX3_drawPermutation_66 : decode cX3_drawPermutation 66 = .ok (.l2i, 1) := by decide +kernel
theorem dX3_drawPermutation_67 : decode cX3_drawPermutation 67 = .ok (.istore 9, 2) := by decide +kernel
theorem dX3_drawPermutation_69 : decode cX3_drawPermutation 69 = .ok (.aload_n 0, 1) := by decide +kernel
theorem dX3_drawPermutation_70 : decode cX3_drawPermutation 70 = .ok (.getfield 27, 3) := by decide +kernel
theorem dX3_drawPermutation_73 : decode cX3_drawPermutation 73 = .ok (.iload 6, 2) := by decide +kernel
theorem dX3_drawPermutation_75 : decode cX3_drawPermutation 75 = .ok (.iaload, 1) := by decide +kernel
theorem dX3_drawPermutation_76 : decode cX3_drawPermutation 76 = .ok (.istore 10, 2) := by decide +kernel
theorem dX3_drawPermutation_78 : decode cX3_drawPermutation 78 = .ok (.aload_n 0, 1) := by decide +kernel
theorem dX3_drawPermutation_79 : decode cX3_drawPermutation 79 = .ok (.getfield 27, 3) := by decide +kernel
theorem dX3_drawPermutation_82 : decode cX3_drawPermutation 82 = .ok (.iload 6, 2) := by decide +kernel
theorem dX3_drawPermutation_84 : decode cX3_drawPermutation 84 = .ok (.aload_n 0, 1) := by decide +kernel
theorem dX3_drawPermutation_85 : decode cX3_drawPermutation 85 = .ok (.getfield 27, 3) := by decide +kernel
theorem dX3_drawPermutation_88 : decode cX3_drawPermutation 88 = .ok (.iload 9, 2) := by decide +kernel
theorem dX3_drawPermutation_90 : decode cX3_drawPermutation 90 = .ok (.iaload, 1) := by decide +kernel
theorem dX3_drawPermutation_91 : decode cX3_drawPermutation 91 = .ok (.iastore, 1) := by decide +kernel
theorem dX3_drawPermutation_92 : decode cX3_drawPermutation 92 = .ok (.aload_n 0, 1) := by decide +kernel
theorem dX3_drawPermutation_93 : decode cX3_drawPermutation 93 = .ok (.getfield 27, 3) := by decide +kernel
theorem dX3_drawPermutation_96 : decode cX3_drawPermutation 96 = .ok (.iload 9, 2) := by decide +kernel
theorem dX3_drawPermutation_98 : decode cX3_drawPermutation 98 = .ok (.iload 10, 2) := by decide +kernel
theorem dX3_drawPermutation_100 : decode cX3_drawPermutation 100 = .ok (.iastore, 1) := by decide +kernel
theorem dX3_drawPermutation_101 : decode cX3_drawPermutation 101 = .ok (.iinc 6 (-1), 3) := by decide +kernel
theorem dX3_drawPermutation_104 : decode cX3_drawPermutation 104 = .ok (.goto (-73), 3) := by decide +kernel
theorem dX3_drawPermutation_107 : decode cX3_drawPermutation 107 = .ok (.iconst 1, 1) := by decide +kernel
theorem dX3_drawPermutation_108 : decode cX3_drawPermutation 108 = .ok (.ireturn, 1) := by decide +kernel
theorem dX3_streamAt_0 : decode cX3_streamAt 0 = .ok (.iload_n 1, 1) := by decide +kernel
theorem dX3_streamAt_1 : decode cX3_streamAt 1 = .ok (.ifCond .lt 11, 3) := by decide +kernel
theorem dX3_streamAt_4 : decode cX3_streamAt 4 = .ok (.iload_n 1, 1) := by decide +kernel
theorem dX3_streamAt_5 : decode cX3_streamAt 5 = .ok (.aload_n 0, 1) := by decide +kernel
theorem dX3_streamAt_6 : decode cX3_streamAt 6 = .ok (.getfield 37, 3) := by decide +kernel
theorem dX3_streamAt_9 : decode cX3_streamAt 9 = .ok (.if_icmp .lt 7, 3) := by decide +kernel
theorem dX3_streamAt_12 : decode cX3_streamAt 12 = .ok (.aconst_null, 1) := by decide +kernel
theorem dX3_streamAt_13 : decode cX3_streamAt 13 = .ok (.goto 9, 3) := by decide +kernel
theorem dX3_streamAt_16 : decode cX3_streamAt 16 = .ok (.aload_n 0, 1) := by decide +kernel
theorem dX3_streamAt_17 : decode cX3_streamAt 17 = .ok (.getfield 33, 3) := by decide +kernel
theorem dX3_streamAt_20 : decode cX3_streamAt 20 = .ok (.iload_n 1, 1) := by decide +kernel
theorem dX3_streamAt_21 : decode cX3_streamAt 21 = .ok (.aaload, 1) := by decide +kernel
theorem dX3_streamAt_22 : decode cX3_streamAt 22 = .ok (.areturn, 1) := by decide +kernel
set_option maxRecDepth 20000 in
theorem ggX3_addStream_X2_init : GoodIn wsX3_addStream wsX2_init := goodIn_r _ [8, 9, 10, 11, 12, 13, 14, 15, 27, 28, 29, 30] (by decide +kernel) (by decide +kernel)
set_option maxRecDepth 20000 in
theorem gX3_addStream_X2_init : GoodIn wsX3_addStream (wsX2_init) := ggX3_addStream_X2_init
theorem dX3_addStream_0 : decode cX3_addStream 0 = .ok (.aload_n 0, 1) := by decide +kernel
theorem dX3_addStream_1 : decode cX3_addStream 1 = .ok (.getfield 37, 3) := by decide +kernel
theorem dX3_addStream_4 : decode cX3_addStream 4 = .ok (.istore 4, 2) := by decide +kernel
theorem dX3_addStream_6 : decode cX3_addStream 6 = .ok (.aload_n 0, 1) := by decide +kernel
theorem dX3_addStream_7 : decode cX3_addStream 7 = .ok (.getfield 33, 3) := by decide +kernel
theorem dX3_addStream_10 : decode cX3_addStream 10 = .ok (.iload 4, 2) := by decide +kernel
theorem dX3_addStream_12 : decode cX3_addStream 12 = .ok (.new 31, 3) := by decide +kernel
theorem dX3_addStream_15 : decode cX3_addStream 15 = .ok (.dup, 1) := by decide +kernel
theorem dX3_addStream_16 : decode cX3_addStream 16 = .ok (.lload_n 1, 1) := by decide +kernel
theorem dX3_addStream_17 : decode cX3_addStream 17 = .ok (.iload_n 3, 1) := by decide +kernel
theorem dX3_addStream_18 : decode cX3_addStream 18 = .ok (.invokespecial 168, 3) := by decide +kernel
theorem dX3_addStream_21 : decode cX3_addStream 21 = .ok (.aastore, 1) := by decide +kernel
theorem dX3_addStream_22 : decode cX3_addStream 22 = .ok (.aload_n 0, 1) := by decide +kernel
theorem dX3_addStream_23 : decode cX3_addStream 23 = .ok (.dup, 1) := by decide +kernel
theorem dX3_addStream_24 : decode cX3_addStream 24 = .ok (.getfield 37, 3) := by decide +kernel
theorem dX3_addStream_27 : decode cX3_addStream 27 = .ok (.iconst 1, 1) := by decide +kernel
theorem dX3_addStream_28 : decode cX3_addStream 28 = .ok (.iadd, 1) := by decide +kernel
theorem dX3_addStream_29 : decode cX3_addStream 29 = .ok (.putfield 37, 3) := by decide +kernel
theorem dX3_addStream_32 : decode cX3_addStream 32 = .ok (.iload 4, 2) := by decide +kernel
theorem dX3_addStream_34 : decode cX3_addStream 34 = .ok (.ireturn, 1) := by decide +kernel
end
section
theorem dX4_init_0 : decode cX4_init 0 = .ok (.aload_n 0, 1) := by decide +kernel
theorem dX4_init_1 : decode cX4_init 1 = .ok (.invokespecial 1, 3) := by decide +kernel
theorem dX4_init_4 : decode cX4_init 4 = .ok (.aload_n 0, 1) := by decide +kernel
theorem dX4_init_5 : decode cX4_init 5 = .ok (.bipush 96, 2) := by decide +kernel
theorem dX4_init_7 : decode cX4_init 7 = .ok (.newarray .long, 2) := by decide +kernel
theorem dX4_init_9 : decode cX4_init 9 = .ok (.putfield 7, 3) := by decide +kernel
theorem dX4_init_12 : decode cX4_init 12 = .ok (.aload_n 0, 1) := by decide +kernel
theorem dX4_init_13 : decode cX4_init 13 = .ok (.bipush 24, 2) := by decide +kernel
theorem dX4_init_15 : decode cX4_init 15 = .ok (.newarray .int, 2) := by decide +kernel
theorem dX4_init_17 : decode cX4_init 17 = .ok (.putfield 13, 3) := by decide +kernel
theorem dX4_init_20 : decode cX4_init 20 = .ok (.aload_n 0, 1) := by decide +kernel
theorem dX4_init_21 : decode cX4_init 21 = .ok (.iconst 4, 1) := by decide +kernel
theorem dX4_init_22 : decode cX4_init 22 = .ok (.newarray .long, 2) := by decide +kernel
theorem dX4_init_24 : decode cX4_init 24 = .ok (.putfield 17, 3) := by decide +kernel
theorem dX4_init_27 : decode cX4_init 27 = .ok (.aload_n 0, 1) := by decide +kernel
theorem dX4_init_28 : decode cX4_init 28 = .ok (.bipush 10, 2) := by decide +kernel
theorem dX4_init_30 : decode cX4_init 30 = .ok (.newarray .long, 2) := by decide +kernel
theorem dX4_init_32 : decode cX4_init 32 = .ok (.putfield 20, 3) := by decide +kernel
theorem dX4_init_35 : decode cX4_init 35 = .ok (.aload_n 0, 1) := by decide +kernel
theorem dX4_init_36 : decode cX4_init 36 = .ok (.bipush 8, 2) := by decide +kernel
theorem dX4_init_38 : decode cX4_init 38 = .ok (.newarray .long, 2) := by decide +kernel
theorem dX4_init_40 : decode cX4_init 40 = .ok (.putfield 23, 3) := by decide +kernel
theorem dX4_init_43 : decode cX4_init 43 = .ok (.aload_n 0, 1) := by decide +kernel
theorem dX4_init_44 : decode cX4_init 44 = .ok (.bipush 8, 2) := by decide +kernel
theorem dX4_init_46 : decode cX4_init 46 = .ok (.newarray .int, 2) := by decide +kernel
theorem dX4_init_48 : decode cX4_init 48 = .ok (.putfield 26, 3) := by decide +kernel
theorem dX4_init_51 : decode cX4_init 51 = .ok (.aload_n 0, 1) := by decide +kernel
theorem dX4_init_52 : decode cX4_init 52 = .ok (.bipush 8, 2) := by decide +kernel
theorem dX4_init_54 : decode cX4_init 54 = .ok (.newarray .int, 2) := by decide +kernel
theorem dX4_init_56 : decode cX4_init 56 = .ok (.putfield 29, 3) := by decide +kernel
theorem dX4_init_59 : decode cX4_init 59 = .ok (.aload_n 0, 1) := by decide +kernel
theorem dX4_init_60 : decode cX4_init 60 = .ok (.bipush 8, 2) := by decide +kernel
theorem dX4_init_62 : decode cX4_init 62 = .ok (.newarray .int, 2) := by decide +kernel
theorem dX4_init_64 : decode cX4_init 64 = .ok (.putfield 32, 3) := by decide +kernel
theorem dX4_init_67 : decode cX4_init 67 = .ok (.aload_n 0, 1) := by decide +kernel
theorem dX4_init_68 : decode cX4_init 68 = .ok (.iconst 4, 1) := by decide +kernel
theorem dX4_init_69 : decode cX4_init 69 = .ok (.newarray .int, 2) := by decide +kernel
theorem dX4_init_71 : decode cX4_init 71 = .ok (.putfield 35, 3) := by decide +kernel
theorem dX4_init_74 : decode cX4_init 74 = .ok (.aload_n 0, 1) := by decide +kernel
theorem dX4_init_75 : decode cX4_init 75 = .ok (.iconst 4, 1) := by decide +kernel
theorem dX4_init_76 : decode cX4_init 76 = .ok (.newarray .int, 2) := by decide +kernel
theorem dX4_init_78 : decode cX4_init 78 = .ok (.putfield 38, 3) := by decide +kernel
theorem dX4_init_81 : decode cX4_init 81 = .ok (.aload_n 0, 1) := by decide +kernel
theorem dX4_init_82 : decode cX4_init 82 = .ok (.iconst 4, 1) := by decide +kernel
theorem dX4_init_83 : decode cX4_init 83 = .ok (.newarray .int, 2) := by decide +kernel
theorem dX4_init_85 : decode cX4_init 85 = .ok (.putfield 41, 3) := by decide +kernel
theorem dX4_init_88 : decode cX4_init 88 = .ok (.aload_n 0, 1) := by decide +kernel
theorem dX4_init_89 : decode cX4_init 89 = .ok (.iconst 4, 1) := by decide +kernel
theorem dX4_init_90 : decode cX4_init 90 = .ok (.newarray .boolean, 2) := by decide +kernel
theorem dX4_init_92 : decode cX4_init 92 = .ok (.putfield 44, 3) := by decide +kernel
theorem dX4_init_95 : decode cX4_init 95 = .ok (.aload_n 0, 1) := by decide +kernel
theorem dX4_init_96 : decode cX4_init 96 = .ok (.bipush 40, 2) := by decide +kernel
theorem dX4_init_98 : decode cX4_init 98 = .ok (.newarray .int, 2) := by decide +kernel
theorem dX4_init_100 : decode cX4_init 100 = .ok (.putfield 48, 3) := by decide +kernel
theorem dX4_init_103 : decode cX4_init 103 = .ok (.aload_n 0, 1) := by decide +kernel
theorem dX4_init_104 : decode cX4_init 104 = .ok (.iconst 4, 1) := by decide +kernel
theorem dX4_init_105 : decode cX4_init 105 = .ok (.newarray .long, 2) := by decide +kernel
theorem dX4_init_107 : decode cX4_init 107 = .ok (.putfield 51, 3) := by decide +kernel
theorem dX4_init_110 : decode cX4_init 110 = .ok (.aload_n 0, 1) := by decide +kernel
theorem dX4_init_111 : decode cX4_init 111 = .ok (.lload_n 1, 1) := by decide +kernel
theorem dX4_init_112 : decode cX4_init 112 = .ok (.putfield 54, 3) := by decide +kernel
theorem dX4_init_115 : decode cX4_init 115 = .ok (.return_, 1) := by decide +kernel
theorem dX4_in_0 : decode cX4_in 0 = .ok (.lload_n 0, 1) := by decide +kernel
theorem dX4_in_1 : decode cX4_in 1 = .ok (.lload_n 2, 1) := by decide +kernel
theorem dX4_in_2 : decode cX4_in 2 = .ok (.lcmp, 1) := by decide +kernel
theorem dX4_in_3 : decode cX4_in 3 = .ok (.ifCond .lt 14, 3) := by decide +kernel
theorem dX4_in_6 : decode cX4_in 6 = .ok (.lload_n 0, 1) := by decide +kernel
theorem dX4_in_7 : decode cX4_in 7 = .ok (.lload 4, 2) := by decide +kernel
theorem dX4_in_9 : decode cX4_in 9 = .ok (.lcmp, 1) := by decide +kernel
theorem dX4_in_10 : decode cX4_in 10 = .ok (.ifCond .gt 7, 3) := by decide +kernel
theorem dX4_in_13 : decode cX4_in 13 = .ok (.iconst 1, 1) := by decide +kernel
theorem dX4_in_14 : decode cX4_in 14 = .ok (.goto 4, 3) := by decide +kernel
theorem dX4_in_17 : decode cX4_in 17 = .ok (.iconst 0, 1) := by decide +kernel
theorem dX4_in_18 : decode cX4_in 18 = .ok (.ireturn, 1) := by decide +kernel
theorem dX4_mix_0 : decode cX4_mix 0 = .ok (.lload_n 0, 1) := by decide +kernel
theorem dX4_mix_1 : decode cX4_mix 1 = .ok (.lstore_n 2, 1) := by decide +kernel
theorem dX4_mix_2 : decode cX4_mix 2 = .ok (.lload_n 2, 1) := by decide +kernel
theorem dX4_mix_3 : decode cX4_mix 3 = .ok (.lload_n 2, 1) := by decide +kernel
theorem dX4_mix_4 : decode cX4_mix 4 = .ok (.bipush 30, 2) := by decide +kernel
theorem dX4_mix_6 : decode cX4_mix 6 = .ok (.lushr, 1) := by decide +kernel
theorem dX4_mix_7 : decode cX4_mix 7 = .ok (.lxor, 1) := by decide +kernel
theorem dX4_mix_8 : decode cX4_mix 8 = .ok (.ldc2_w 58, 3) := by decide +kernel
theorem dX4_mix_11 : decode cX4_mix 11 = .ok (.lmul, 1) := by decide +kernel
theorem dX4_mix_12 : decode cX4_mix 12 = .ok (.lstore_n 2, 1) := by decide +kernel
theorem dX4_mix_13 : decode cX4_mix 13 = .ok (.lload_n 2, 1) := by decide +kernel
theorem dX4_mix_14 : decode cX4_mix 14 = .ok (.lload_n 2, 1) := by decide +kernel
theorem dX4_mix_15 : decode cX4_mix 15 = .ok (.bipush 27, 2) := by decide +kernel
theorem dX4_mix_17 : decode cX4_mix 17 = .ok (.lushr, 1) := by decide +kernel
theorem dX4_mix_18 : decode cX4_mix 18 = .ok (.lxor, 1) := by decide +kernel
theorem dX4_mix_19 : decode cX4_mix 19 = .ok (.ldc2_w 60, 3) := by decide +kernel
theorem dX4_mix_22 : decode cX4_mix 22 = .ok (.lmul, 1) := by decide +kernel
theorem dX4_mix_23 : decode cX4_mix 23 = .ok (.lstore_n 2, 1) := by decide +kernel
theorem dX4_mix_24 : decode cX4_mix 24 = .ok (.lload_n 2, 1) := by decide +kernel
theorem dX4_mix_25 : decode cX4_mix 25 = .ok (.lload_n 2, 1) := by decide +kernel
theorem dX4_mix_26 : decode cX4_mix 26 = .ok (.bipush 31, 2) := by decide +kernel
theorem dX4_mix_28 : decode cX4_mix 28 = .ok (.lushr, 1) := by decide +kernel
theorem dX4_mix_29 : decode cX4_mix 29 = .ok (.lxor, 1) := by decide +kernel
theorem dX4_mix_30 : decode cX4_mix 30 = .ok (.lreturn, 1) := by decide +kernel
theorem dX4_isBelow_0 : decode cX4_isBelow 0 = .ok (.lload_n 0, 1) := by decide +kernel
theorem dX4_isBelow_1 : decode cX4_isBelow 1 = .ok (.ldc2_w 62, 3) := by decide +kernel
theorem dX4_isBelow_4 : decode cX4_isBelow 4 = .ok (.lxor, 1) := by decide +kernel
theorem dX4_isBelow_5 : decode cX4_isBelow 5 = .ok (.lload_n 2, 1) := by decide +kernel
theorem dX4_isBelow_6 : decode cX4_isBelow 6 = .ok (.ldc2_w 62, 3) := by decide +kernel
theorem dX4_isBelow_9 : decode cX4_isBelow 9 = .ok (.lxor, 1) := by decide +kernel
theorem dX4_isBelow_10 : decode cX4_isBelow 10 = .ok (.lcmp, 1) := by decide +kernel
theorem dX4_isBelow_11 : decode cX4_isBelow 11 = .ok (.ifCond .ge 7, 3) := by decide +kernel
theorem dX4_isBelow_14 : decode cX4_isBelow 14 = .ok (.iconst 1, 1) := by decide +kernel
theorem dX4_isBelow_15 : decode cX4_isBelow 15 = .ok (.goto 4, 3) := by decide +kernel
theorem dX4_isBelow_18 : decode cX4_isBelow 18 = .ok (.iconst 0, 1) := by decide +kernel
theorem dX4_isBelow_19 : decode cX4_isBelow 19 = .ok (.ireturn, 1) := by decide +kernel
set_option maxRecDepth 20000 in
theorem ggX4_rest_X4_isBelow : GoodIn wsX4_rest wsX4_isBelow := goodIn_r _ [4, 5] (by decide +kernel) (by decide +kernel)
set_option maxRecDepth 20000 in
theorem gX4_rest_X4_isBelow : GoodIn wsX4_rest (va_wsS RX4 64 yX4_isBelow wsX4_isBelow) := goodIn_app (goodIn_of _ (by decide +kernel)) ggX4_rest_X4_isBelow
theorem dX4_rest_0 : decode cX4_rest 0 = .ok (.lload_n 0, 1) := by decide +kernel
theorem dX4_rest_1 : decode cX4_rest 1 = .ok (.lconst 0, 1) := by decide +kernel
theorem dX4_rest_2 : decode cX4_rest 2 = .ok (.lcmp, 1) := by decide +kernel
theorem dX4_rest_3 : decode cX4_rest 3 = .ok (.ifCond .lt 7, 3) := by decide +kernel
theorem dX4_rest_6 : decode cX4_rest 6 = .ok (.lload_n 0, 1) := by decide +kernel
theorem dX4_rest_7 : decode cX4_rest 7 = .ok (.lload_n 2, 1) := by decide +kernel
theorem dX4_rest_8 : decode cX4_rest 8 = .ok (.lrem, 1) := by decide +kernel
theorem dX4_rest_9 : decode cX4_rest 9 = .ok (.lreturn, 1) := by decide +kernel
theorem dX4_rest_10 : decode cX4_rest 10 = .ok (.lload_n 0, 1) := by decide +kernel
theorem dX4_rest_11 : decode cX4_rest 11 = .ok (.iconst 1, 1) := by decide +kernel
theorem dX4_rest_12 : decode cX4_rest 12 = .ok (.lushr, 1) := by decide +kernel
theorem dX4_rest_13 : decode cX4_rest 13 = .ok (.lload_n 2, 1) := by decide +kernel
theorem dX4_rest_14 : decode cX4_rest 14 = .ok (.ldiv, 1) := by decide +kernel
theorem dX4_rest_15 : decode cX4_rest 15 = .ok (.iconst 1, 1) := by decide +kernel
theorem dX4_rest_16 : decode cX4_rest 16 = .ok (.lshl, 1) := by decide +kernel
theorem dX4_rest_17 : decode cX4_rest 17 = .ok (.lstore 4, 2) := by decide +kernel
theorem dX4_rest_19 : decode cX4_rest 19 = .ok (.lload_n 0, 1) := by decide +kernel
theorem dX4_rest_20 : decode cX4_rest 20 = .ok (.lload 4, 2) := by decide +kernel
theorem dX4_rest_22 : decode cX4_rest 22 = .ok (.lload_n 2, 1) := by decide +kernel
theorem dX4_rest_23 : decode cX4_rest 23 = .ok (.lmul, 1) := by decide +kernel
theorem dX4_rest_24 : decode cX4_rest 24 = .ok (.lsub, 1) := by decide +kernel
theorem dX4_rest_25 : decode cX4_rest 25 = .ok (.lstore 6, 2) := by decide +kernel
theorem dX4_rest_27 : decode cX4_rest 27 = .ok (.lload 6, 2) := by decide +kernel
theorem dX4_rest_29 : decode cX4_rest 29 = .ok (.lload_n 2, 1) := by decide +kernel
theorem dX4_rest_30 : decode cX4_rest 30 = .ok (.invokestatic 64, 3) := by decide +kernel
theorem dX4_rest_33 : decode cX4_rest 33 = .ok (.ifCond .eq 8, 3) := by decide +kernel
theorem dX4_rest_36 : decode cX4_rest 36 = .ok (.lload 6, 2) := by decide +kernel
theorem dX4_rest_38 : decode cX4_rest 38 = .ok (.goto 7, 3) := by decide +kernel
theorem dX4_rest_41 : decode cX4_rest 41 = .ok (.lload 6, 2) := by decide +kernel
theorem dX4_rest_43 : decode cX4_rest 43 = .ok (.lload_n 2, 1) := by decide +kernel
theorem dX4_rest_44 : decode cX4_rest 44 = .ok (.lsub, 1) := by decide +kernel
theorem dX4_rest_45 : decode cX4_rest 45 = .ok (.lreturn, 1) := by decide +kernel
theorem dX4_part_0 : decode cX4_part 0 = .ok (.aload_n 0, 1) := by decide +kernel
theorem dX4_part_1 : decode cX4_part 1 = .ok (.getfield 68, 3) := by decide +kernel
theorem dX4_part_4 : decode cX4_part 4 = .ok (.iconst 4, 1) := by decide +kernel
theorem dX4_part_5 : decode cX4_part 5 = .ok (.if_icmp .ne 6, 3) := by decide +kernel
theorem dX4_part_8 : decode cX4_part 8 = .ok (.bipush (-2), 2) := by decide +kernel
theorem dX4_part_10 : decode cX4_part 10 = .ok (.ireturn, 1) := by decide +kernel
theorem dX4_part_11 : decode cX4_part 11 = .ok (.aload_n 0, 1) := by decide +kernel
theorem dX4_part_12 : decode cX4_part 12 = .ok (.getfield 17, 3) := by decide +kernel
theorem dX4_part_15 : decode cX4_part 15 = .ok (.aload_n 0, 1) := by decide +kernel
theorem dX4_part_16 : decode cX4_part 16 = .ok (.getfield 68, 3) := by decide +kernel
theorem dX4_part_19 : decode cX4_part 19 = .ok (.lload_n 1, 1) := by decide +kernel
theorem dX4_part_20 : decode cX4_part 20 = .ok (.lastore, 1) := by decide +kernel
theorem dX4_part_21 : decode cX4_part 21 = .ok (.aload_n 0, 1) := by decide +kernel
theorem dX4_part_22 : decode cX4_part 22 = .ok (.dup, 1) := by decide +kernel
theorem dX4_part_23 : decode cX4_part 23 = .ok (.getfield 68, 3) := by decide +kernel
theorem dX4_part_26 : decode cX4_part 26 = .ok (.iconst 1, 1) := by decide +kernel
theorem dX4_part_27 : decode cX4_part 27 = .ok (.iadd, 1) := by decide +kernel
theorem dX4_part_28 : decode cX4_part 28 = .ok (.putfield 68, 3) := by decide +kernel
theorem dX4_part_31 : decode cX4_part 31 = .ok (.aload_n 0, 1) := by decide +kernel
theorem dX4_part_32 : decode cX4_part 32 = .ok (.getfield 68, 3) := by decide +kernel
theorem dX4_part_35 : decode cX4_part 35 = .ok (.ireturn, 1) := by decide +kernel
theorem dX4_likePath_0 : decode cX4_likePath 0 = .ok (.iconst 0, 1) := by decide +kernel
theorem dX4_likePath_1 : decode cX4_likePath 1 = .ok (.istore_n 1, 1) := by decide +kernel
theorem dX4_likePath_2 : decode cX4_likePath 2 = .ok (.iload_n 1, 1) := by decide +kernel
theorem dX4_likePath_3 : decode cX4_likePath 3 = .ok (.aload_n 0, 1) := by decide +kernel
theorem dX4_likePath_4 : decode cX4_likePath 4 = .ok (.getfield 72, 3) := by decide +kernel
theorem dX4_likePath_7 : decode cX4_likePath 7 = .ok (.if_icmp .ge 80, 3) := by decide +kernel
theorem dX4_likePath_10 : decode cX4_likePath 10 = .ok (.aload_n 0, 1) := by decide +kernel
theorem dX4_likePath_11 : decode cX4_likePath 11 = .ok (.getfield 13, 3) := by decide +kernel
theorem dX4_likePath_14 : decode cX4_likePath 14 = .ok (.iload_n 1, 1) := by decide +kernel
theorem dX4_likePath_15 : decode cX4_likePath 15 = .ok (.iaload, 1) := by decide +kernel
theorem dX4_likePath_16 : decode cX4_likePath 16 = .ok (.aload_n 0, 1) := by decide +kernel
theorem dX4_likePath_17 : decode cX4_likePath 17 = .ok (.getfield 68, 3) := by decide +kernel
theorem dX4_likePath_20 : decode cX4_likePath 20 = .ok (.if_icmp .ne 7, 3) := by decide +kernel
theorem dX4_likePath_23 : decode cX4_likePath 23 = .ok (.iconst 1, 1) := by decide +kernel
theorem dX4_likePath_24 : decode cX4_likePath 24 = .ok (.goto 4, 3) := by decide +kernel
theorem dX4_likePath_27 : decode cX4_likePath 27 = .ok (.iconst 0, 1) := by decide +kernel
theorem dX4_likePath_28 : decode cX4_likePath 28 = .ok (.istore_n 2, 1) := by decide +kernel
theorem dX4_likePath_29 : decode cX4_likePath 29 = .ok (.iconst 0, 1) := by decide +kernel
theorem dX4_likePath_30 : decode cX4_likePath 30 = .ok (.istore_n 3, 1) := by decide +kernel
theorem dX4_likePath_31 : decode cX4_likePath 31 = .ok (.iload_n 3, 1) := by decide +kernel
theorem dX4_likePath_32 : decode cX4_likePath 32 = .ok (.aload_n 0, 1) := by decide +kernel
theorem dX4_likePath_33 : decode cX4_likePath 33 = .ok (.getfield 68, 3) := by decide +kernel
theorem dX4_likePath_36 : decode cX4_likePath 36 = .ok (.if_icmp .ge 39, 3) := by decide +kernel
theorem dX4_likePath_39 : decode cX4_likePath 39 = .ok (.iload_n 2, 1) := by decide +kernel
theorem dX4_likePath_40 : decode cX4_likePath 40 = .ok (.ifCond .eq 27, 3) := by decide +kernel
theorem dX4_likePath_43 : decode cX4_likePath 43 = .ok (.aload_n 0, 1) := by decide +kernel
theorem dX4_likePath_44 : decode cX4_likePath 44 = .ok (.getfield 7, 3) := by decide +kernel
theorem dX4_likePath_47 : decode cX4_likePath 47 = .ok (.iconst 4, 1) := by decide +kernel
theorem dX4_likePath_48 : decode cX4_likePath 48 = .ok (.iload_n 1, 1) := by decide +kernel
theorem dX4_likePath_49 : decode cX4_likePath 49 = .ok (.imul, 1) := by decide +kernel
theorem dX4_likePath_50 : decode cX4_likePath 50 = .ok (.iload_n 3, 1) := by decide +kernel
theorem dX4_likePath_51 : decode cX4_likePath 51 = .ok (.iadd, 1) := by decide +kernel
theorem dX4_likePath_52 : decode cX4_likePath 52 = .ok (.laload, 1) := by decide +kernel
theorem dX4_likePath_53 : decode cX4_likePath 53 = .ok (.aload_n 0, 1) := by decide +kernel
theorem dX4_likePath_54 : decode cX4_likePath 54 = .ok (.getfield 17, 3) := by decide +kernel
theorem dX4_likePath_57 : decode cX4_likePath 57 = .ok (.iload_n 3, 1) := by decide +kernel
theorem dX4_likePath_58 : decode cX4_likePath 58 = .ok (.laload, 1) := by decide +kernel
theorem dX4_likePath_59 : decode cX4_likePath 59 = .ok (.lcmp, 1) := by decide +kernel
theorem dX4_likePath_60 : decode cX4_likePath 60 = .ok (.ifCond .ne 7, 3) := by decide +kernel
theorem dX4_likePath_63 : decode cX4_likePath 63 = .ok (.iconst 1, 1) := by decide +kernel
theorem dX4_likePath_64 : decode cX4_likePath 64 = .ok (.goto 4, 3) := by decide +kernel
theorem dX4_likePath_67 : decode cX4_likePath 67 = .ok (.iconst 0, 1) := by decide +kernel
theorem dX4_likePath_68 : decode cX4_likePath 68 = .ok (.istore_n 2, 1) := by decide +kernel
theorem dX4_likePath_69 : decode cX4_likePath 69 = .ok (.iinc 3 1, 3) := by decide +kernel
theorem dX4_likePath_72 : decode cX4_likePath 72 = .ok (.goto (-41), 3) := by decide +kernel
theorem dX4_likePath_75 : decode cX4_likePath 75 = .ok (.iload_n 2, 1) := by decide +kernel
theorem dX4_likePath_76 : decode cX4_likePath 76 = .ok (.ifCond .eq 5, 3) := by decide +kernel
theorem dX4_likePath_79 : decode cX4_likePath 79 = .ok (.iload_n 1, 1) := by decide +kernel
theorem dX4_likePath_80 : decode cX4_likePath 80 = .ok (.ireturn, 1) := by decide +kernel
theorem dX4_likePath_81 : decode cX4_likePath 81 = .ok (.iinc 1 1, 3) := by decide +kernel
theorem dX4_likePath_84 : decode cX4_likePath 84 = .ok (.goto (-82), 3) := by decide +kernel
theorem dX4_likePath_87 : decode cX4_likePath 87 = .ok (.aload_n 0, 1) := by decide +kernel
theorem dX4_likePath_88 : decode cX4_likePath 88 = .ok (.getfield 72, 3) := by decide +kernel
theorem dX4_likePath_91 : decode cX4_likePath 91 = .ok (.ireturn, 1) := by decide +kernel
set_option maxRecDepth 20000 in
theorem ggX4_takePath_X4_likePath : GoodIn wsX4_takePath wsX4_likePath := goodIn_r _ [10, 1, 2, 3, 4, 5, 11, 12, 13, 14, 15, 16, 17, 18, 19, 20, 21, 22, 23, 24, 25, 26, 27, 28, 29, 30, 31] (by decide +kernel) (by decide +kernel)
set_option maxRecDepth 20000 in
theorem gX4_takePath_X4_likePath : GoodIn wsX4_takePath (wsV RX4 75 RX4 yX4_likePath wsX4_likePath) := goodIn_app (goodIn_of _ (by decide +kernel)) ggX4_takePath_X4_likePath
theorem dX4_takePath_0 : decode cX4_takePath 0 = .ok (.aload_n 0, 1) := by decide +kernel
theorem dX4_takePath_1 : decode cX4_takePath 1 = .ok (.invokevirtual 75, 3) := by decide +kernel
theorem dX4_takePath_4 : decode cX4_takePath 4 = .ok (.istore_n 1, 1) := by decide +kernel
theorem dX4_takePath_5 : decode cX4_takePath 5 = .ok (.iload_n 1, 1) := by decide +kernel
theorem dX4_takePath_6 : decode cX4_takePath 6 = .ok (.bipush 24, 2) := by decide +kernel
theorem dX4_takePath_8 : decode cX4_takePath 8 = .ok (.if_icmp .ne 6, 3) := by decide +kernel
theorem dX4_takePath_11 : decode cX4_takePath 11 = .ok (.bipush (-2), 2) := by decide +kernel
theorem dX4_takePath_13 : decode cX4_takePath 13 = .ok (.ireturn, 1) := by decide +kernel
theorem dX4_takePath_14 : decode cX4_takePath 14 = .ok (.iload_n 1, 1) := by decide +kernel
theorem dX4_takePath_15 : decode cX4_takePath 15 = .ok (.aload_n 0, 1) := by decide +kernel
theorem dX4_takePath_16 : decode cX4_takePath 16 = .ok (.getfield 72, 3) := by decide +kernel
theorem dX4_takePath_19 : decode cX4_takePath 19 = .ok (.if_icmp .ne 55, 3) := by decide +kernel
theorem dX4_takePath_22 : decode cX4_takePath 22 = .ok (.aload_n 0, 1) := by decide +kernel
theorem dX4_takePath_23 : decode cX4_takePath 23 = .ok (.getfield 13, 3) := by decide +kernel
theorem dX4_takePath_26 : decode cX4_takePath 26 = .ok (.iload_n 1, 1) := by decide +kernel
theorem dX4_takePath_27 : decode cX4_takePath 27 = .ok (.aload_n 0, 1) := by decide +kernel
theorem dX4_takePath_28 : decode cX4_takePath 28 = .ok (.getfield 68, 3) := by decide +kernel
theorem dX4_takePath_31 : decode cX4_takePath 31 = .ok (.iastore, 1) := by decide +kernel
theorem dX4_takePath_32 : decode cX4_takePath 32 = .ok (.iconst 0, 1) := by decide +kernel
theorem dX4_takePath_33 : decode cX4_takePath 33 = .ok (.istore_n 2, 1) := by decide +kernel
theorem dX4_takePath_34 : decode cX4_takePath 34 = .ok (.iload_n 2, 1) := by decide +kernel
theorem dX4_takePath_35 : decode cX4_takePath 35 = .ok (.aload_n 0, 1) := by decide +kernel
theorem dX4_takePath_36 : decode cX4_takePath 36 = .ok (.getfield 68, 3) := by decide +kernel
theorem dX4_takePath_39 : decode cX4_takePath 39 = .ok (.if_icmp .ge 25, 3) := by decide +kernel
theorem dX4_takePath_42 : decode cX4_takePath 42 = .ok (.aload_n 0, 1) := by decide +kernel
theorem dX4_takePath_43 : decode cX4_takePath 43 = .ok (.getfield 7, 3) := by decide +kernel
theorem dX4_takePath_46 : decode cX4_takePath 46 = .ok (.iconst 4, 1) := by decide +kernel
theorem dX4_takePath_47 : decode cX4_takePath 47 = .ok (.iload_n 1, 1) := by decide +kernel
theorem dX4_takePath_48 : decode cX4_takePath 48 = .ok (.imul, 1) := by decide +kernel
theorem dX4_takePath_49 : decode cX4_takePath 49 = .ok (.iload_n 2, 1) := by decide +kernel
theorem dX4_takePath_50 : decode cX4_takePath 50 = .ok (.iadd, 1) := by decide +kernel
theorem dX4_takePath_51 : decode cX4_takePath 51 = .ok (.aload_n 0, 1) := by decide +kernel
theorem dX4_takePath_52 : decode cX4_takePath 52 = .ok (.getfield 17, 3) := by decide +kernel
theorem dX4_takePath_55 : decode cX4_takePath 55 = .ok (.iload_n 2, 1) := by decide +kernel
theorem dX4_takePath_56 : decode cX4_takePath 56 = .ok (.laload, 1) := by decide +kernel
theorem dX4_takePath_57 : decode cX4_takePath 57 = .ok (.lastore, 1) := by decide +kernel
theorem dX4_takePath_58 : decode cX4_takePath 58 = .ok (.iinc 2 1, 3) := by decide +kernel
theorem dX4_takePath_61 : decode cX4_takePath 61 = .ok (.goto (-27), 3) := by decide +kernel
theorem dX4_takePath_64 : decode cX4_takePath 64 = .ok (.aload_n 0, 1) := by decide +kernel
theorem dX4_takePath_65 : decode cX4_takePath 65 = .ok (.dup, 1) := by decide +kernel
theorem dX4_takePath_66 : decode cX4_takePath 66 = .ok (.getfield 72, 3) := by decide +kernel
theorem dX4_takePath_69 : decode cX4_takePath 69 = .ok (.iconst 1, 1) := by decide +kernel
theorem dX4_takePath_70 : decode cX4_takePath 70 = .ok (.iadd, 1) := by decide +kernel
theorem dX4_takePath_71 : decode cX4_takePath 71 = .ok (.putfield 72, 3) := by decide +kernel
theorem dX4_takePath_74 : decode cX4_takePath 74 = .ok (.iload_n 1, 1) := by decide +kernel
theorem dX4_takePath_75 : decode cX4_takePath 75 = .ok (.ireturn, 1) := by decide +kernel
set_option maxRecDepth 20000 in
theorem ggX4_path_X4_takePath : GoodIn wsX4_path wsX4_takePath := goodIn_r _ [6, 7, 8, 1, 9, 10, 11, 12, 13, 5, 14, 15, 16, 17, 18, 19, 20, 21, 22, 23, 24, 25, 26, 27, 28, 29, 30, 31, 32, 33, 34, 35] (by decide +kernel) (by decide +kernel)
set_option maxRecDepth 20000 in
theorem gX4_path_X4_takePath : GoodIn wsX4_path (wsV RX4 79 RX4 yX4_takePath wsX4_takePath) := goodIn_app (goodIn_of _ (by decide +kernel)) ggX4_path_X4_takePath
theorem dX4_path_0 : decode cX4_path 0 = .ok (.aload_n 0, 1) := by decide +kernel
theorem dX4_path_1 : decode cX4_path 1 = .ok (.getfield 68, 3) := by decide +kernel
theorem dX4_path_4 : decode cX4_path 4 = .ok (.ifCond .ne 5, 3) := by decide +kernel
theorem dX4_path_7 : decode cX4_path 7 = .ok (.iconst (-1), 1) := by decide +kernel
theorem dX4_path_8 : decode cX4_path 8 = .ok (.ireturn, 1) := by decide +kernel
theorem dX4_path_9 : decode cX4_path 9 = .ok (.aload_n 0, 1) := by decide +kernel
theorem dX4_path_10 : decode cX4_path 10 = .ok (.invokevirtual 79, 3) := by decide +kernel
theorem dX4_path_13 : decode cX4_path 13 = .ok (.istore_n 1, 1) := by decide +kernel
theorem dX4_path_14 : decode cX4_path 14 = .ok (.aload_n 0, 1) := by decide +kernel
theorem dX4_path_15 : decode cX4_path 15 = .ok (.iload_n 1, 1) := by decide +kernel
theorem dX4_path_16 : decode cX4_path 16 = .ok (.ifCond .ge 10, 3) := by decide +kernel
theorem dX4_path_19 : decode cX4_path 19 = .ok (.aload_n 0, 1) := by decide +kernel
theorem dX4_path_20 : decode cX4_path 20 = .ok (.getfield 68, 3) := by decide +kernel
theorem dX4_path_23 : decode cX4_path 23 = .ok (.goto 4, 3) := by decide +kernel
theorem dX4_path_26 : decode cX4_path 26 = .ok (.iconst 0, 1) := by decide +kernel
theorem dX4_path_27 : decode cX4_path 27 = .ok (.putfield 68, 3) := by decide +kernel
theorem dX4_path_30 : decode cX4_path 30 = .ok (.iload_n 1, 1) := by decide +kernel
theorem dX4_path_31 : decode cX4_path 31 = .ok (.ireturn, 1) := by decide +kernel
set_option maxRecDepth 20000 in
theorem ggX4_isPath_X4_in : GoodIn wsX4_isPath wsX4_in := goodIn_r _ [5] (by decide +kernel) (by decide +kernel)
set_option maxRecDepth 20000 in
theorem gX4_isPath_X4_in : GoodIn wsX4_isPath (va_wsS RX4 82 yX4_in wsX4_in) := goodIn_app (goodIn_of _ (by decide +kernel)) ggX4_isPath_X4_in
theorem dX4_isPath_0 : decode cX4_isPath 0 = .ok (.iload_n 1, 1) := by decide +kernel
theorem dX4_isPath_1 : decode cX4_isPath 1 = .ok (.i2l, 1) := by decide +kernel
theorem dX4_isPath_2 : decode cX4_isPath 2 = .ok (.lconst 0, 1) := by decide +kernel
theorem dX4_isPath_3 : decode cX4_isPath 3 = .ok (.aload_n 0, 1) := by decide +kernel
theorem dX4_isPath_4 : decode cX4_isPath 4 = .ok (.getfield 72, 3) := by decide +kernel
theorem dX4_isPath_7 : decode cX4_isPath 7 = .ok (.iconst 1, 1) := by decide +kernel
theorem dX4_isPath_8 : decode cX4_isPath 8 = .ok (.isub, 1) := by decide +kernel
theorem dX4_isPath_9 : decode cX4_isPath 9 = .ok (.i2l, 1) := by decide +kernel
theorem dX4_isPath_10 : decode cX4_isPath 10 = .ok (.invokestatic 82, 3) := by decide +kernel
theorem dX4_isPath_13 : decode cX4_isPath 13 = .ok (.ireturn, 1) := by decide +kernel
set_option maxRecDepth 20000 in
theorem ggX4_keyOf_X4_mix : GoodIn wsX4_keyOf wsX4_mix := goodIn_r _ [7, 8, 9] (by decide +kernel) (by decide +kernel)
set_option maxRecDepth 20000 in
theorem gX4_keyOf_X4_mix : GoodIn wsX4_keyOf (va_wsS RX4 88 yX4_mix wsX4_mix) := goodIn_app (goodIn_of _ (by decide +kernel)) ggX4_keyOf_X4_mix
theorem dX4_keyOf_0 : decode cX4_keyOf 0 = .ok (.lconst 0, 1) := by decide +kernel
theorem dX4_keyOf_1 : decode cX4_keyOf 1 = .ok (.lstore_n 2, 1) := by decide +kernel
theorem dX4_keyOf_2 : decode cX4_keyOf 2 = .ok (.iconst 0, 1) := by decide +kernel
theorem dX4_keyOf_3 : decode cX4_keyOf 3 = .ok (.istore 4, 2) := by decide +kernel
theorem dX4_keyOf_5 : decode cX4_keyOf 5 = .ok (.iload 4, 2) := by decide +kernel
theorem dX4_keyOf_7 : decode cX4_keyOf 7 = .ok (.aload_n 0, 1) := by decide +kernel
theorem dX4_keyOf_8 : decode cX4_keyOf 8 = .ok (.getfield 13, 3) := by decide +kernel
theorem dX4_keyOf_11 : decode cX4_keyOf 11 = .ok (.iload_n 1, 1) := by decide +kernel
theorem dX4_keyOf_12 : decode cX4_keyOf 12 = .ok (.iaload, 1) := by decide +kernel
theorem dX4_keyOf_13 : decode cX4_keyOf 13 = .ok (.if_icmp .ge 30, 3) := by decide +kernel
theorem dX4_keyOf_16 : decode cX4_keyOf 16 = .ok (.lload_n 2, 1) := by decide +kernel
theorem dX4_keyOf_17 : decode cX4_keyOf 17 = .ok (.ldc2_w 86, 3) := by decide +kernel
theorem dX4_keyOf_20 : decode cX4_keyOf 20 = .ok (.ladd, 1) := by decide +kernel
theorem dX4_keyOf_21 : decode cX4_keyOf 21 = .ok (.aload_n 0, 1) := by decide +kernel
theorem dX4_keyOf_22 : decode cX4_keyOf 22 = .ok (.getfield 7, 3) := by decide +kernel
theorem dX4_keyOf_25 : decode cX4_keyOf 25 = .ok (.iconst 4, 1) := by decide +kernel
theorem dX4_keyOf_26 : decode cX4_keyOf 26 = .ok (.iload_n 1, 1) := by decide +kernel
theorem dX4_keyOf_27 : decode cX4_keyOf 27 = .ok (.imul, 1) := by decide +kernel
theorem dX4_keyOf_28 : decode cX4_keyOf 28 = .ok (.iload 4, 2) := by decide +kernel
theorem dX4_keyOf_30 : decode cX4_keyOf 30 = .ok (.iadd, 1) := by decide +kernel
theorem dX4_keyOf_31 : decode cX4_keyOf 31 = .ok (.laload, 1) := by decide +kernel
theorem dX4_keyOf_32 : decode cX4_keyOf 32 = .ok (.lxor, 1) := by decide +kernel
theorem dX4_keyOf_33 : decode cX4_keyOf 33 = .ok (.invokestatic 88, 3) := by decide +kernel
theorem dX4_keyOf_36 : decode cX4_keyOf 36 = .ok (.lstore_n 2, 1) := by decide +kernel
theorem dX4_keyOf_37 : decode cX4_keyOf 37 = .ok (.iinc 4 1, 3) := by decide +kernel
theorem dX4_keyOf_40 : decode cX4_keyOf 40 = .ok (.goto (-35), 3) := by decide +kernel
theorem dX4_keyOf_43 : decode cX4_keyOf 43 = .ok (.lload_n 2, 1) := by decide +kernel
theorem dX4_keyOf_44 : decode cX4_keyOf 44 = .ok (.lreturn, 1) := by decide +kernel
set_option maxRecDepth 20000 in
theorem ggX4_key_X4_isPath : GoodIn wsX4_key wsX4_isPath := goodIn_r _ [6, 7, 8, 9, 5, 10, 23, 24, 25, 26, 27, 28, 29, 30, 31, 32, 33, 34, 35, 36, 37, 38, 39, 40, 41, 42, 43] (by decide +kernel) (by decide +kernel)
set_option maxRecDepth 20000 in
theorem gX4_key_X4_isPath : GoodIn wsX4_key (wsV RX4 92 RX4 yX4_isPath wsX4_isPath) := goodIn_app (goodIn_of _ (by decide +kernel)) ggX4_key_X4_isPath
set_option maxRecDepth 20000 in
theorem ggX4_key_X4_keyOf : GoodIn wsX4_key wsX4_keyOf := goodIn_r _ [14, 15, 16, 17, 18, 19, 5, 20, 21, 22, 23, 24, 25, 26, 27, 28, 29, 30, 31, 32, 33, 34, 35, 36, 37, 38, 39, 40, 41, 42, 43] (by decide +kernel) (by decide +kernel)
set_option maxRecDepth 20000 in
theorem gX4_key_X4_keyOf : GoodIn wsX4_key (wsV RX4 99 RX4 yX4_keyOf wsX4_keyOf) := goodIn_app (goodIn_of _ (by decide +kernel)) ggX4_key_X4_keyOf
theorem dX4_key_0 : decode cX4_key 0 = .ok (.aload_n 0, 1) := by decide +kernel
theorem dX4_key_1 : decode cX4_key 1 = .ok (.aload_n 0, 1) := by decide +kernel
theorem dX4_key_2 : decode cX4_key 2 = .ok (.iload_n 1, 1) := by decide +kernel
theorem dX4_key_3 : decode cX4_key 3 = .ok (.invokevirtual 92, 3) := by decide +kernel
theorem dX4_key_6 : decode cX4_key 6 = .ok (.ifCond .eq 7, 3) := by decide +kernel
theorem dX4_key_9 : decode cX4_key 9 = .ok (.iconst 0, 1) := by decide +kernel
theorem dX4_key_10 : decode cX4_key 10 = .ok (.goto 4, 3) := by decide +kernel
theorem dX4_key_13 : decode cX4_key 13 = .ok (.iconst (-1), 1) := by decide +kernel
theorem dX4_key_14 : decode cX4_key 14 = .ok (.putfield 96, 3) := by decide +kernel
theorem dX4_key_17 : decode cX4_key 17 = .ok (.aload_n 0, 1) := by decide +kernel
theorem dX4_key_18 : decode cX4_key 18 = .ok (.getfield 96, 3) := by decide +kernel
theorem dX4_key_21 : decode cX4_key 21 = .ok (.ifCond .ge 7, 3) := by decide +kernel
theorem dX4_key_24 : decode cX4_key 24 = .ok (.lconst 0, 1) := by decide +kernel
theorem dX4_key_25 : decode cX4_key 25 = .ok (.goto 8, 3) := by decide +kernel
theorem dX4_key_28 : decode cX4_key 28 = .ok (.aload_n 0, 1) := by decide +kernel
theorem dX4_key_29 : decode cX4_key 29 = .ok (.iload_n 1, 1) := by decide +kernel
theorem dX4_key_30 : decode cX4_key 30 = .ok (.invokevirtual 99, 3) := by decide +kernel
theorem dX4_key_33 : decode cX4_key 33 = .ok (.lreturn, 1) := by decide +kernel
set_option maxRecDepth 20000 in
theorem ggX4_wordOf_X4_keyOf : GoodIn wsX4_wordOf wsX4_keyOf := goodIn_r _ [7, 8, 2, 9, 10, 11, 6, 12, 13, 14, 15, 16, 17, 18, 19, 20, 21, 22, 23, 24, 25, 26, 27, 28, 29, 30, 31, 32, 33, 34, 35] (by decide +kernel) (by decide +kernel)
set_option maxRecDepth 20000 in
theorem gX4_wordOf_X4_keyOf : GoodIn wsX4_wordOf (wsV RX4 99 RX4 yX4_keyOf wsX4_keyOf) := goodIn_app (goodIn_of _ (by decide +kernel)) ggX4_wordOf_X4_keyOf
set_option maxRecDepth 20000 in
theorem ggX4_wordOf_X4_mix : GoodIn wsX4_wordOf wsX4_mix := goodIn_r _ [12, 13, 14] (by decide +kernel) (by decide +kernel)
set_option maxRecDepth 20000 in
theorem gX4_wordOf_X4_mix : GoodIn wsX4_wordOf (va_wsS RX4 88 yX4_mix wsX4_mix) := goodIn_app (goodIn_of _ (by decide +kernel)) ggX4_wordOf_X4_mix
theorem dX4_wordOf_0 : decode cX4_wordOf 0 = .ok (.aload_n 0, 1) := by decide +kernel
theorem dX4_wordOf_1 : decode cX4_wordOf 1 = .ok (.getfield 54, 3) := by decide +kernel
theorem dX4_wordOf_4 : decode cX4_wordOf 4 = .ok (.ldc2_w 86, 3) := by decide +kernel
theorem dX4_wordOf_7 : decode cX4_wordOf 7 = .ok (.lload_n 1, 1) := by decide +kernel
theorem dX4_wordOf_8 : decode cX4_wordOf 8 = .ok (.lconst 1, 1) := by decide +kernel
theorem dX4_wordOf_9 : decode cX4_wordOf 9 = .ok (.ladd, 1) := by decide +kernel
theorem dX4_wordOf_10 : decode cX4_wordOf 10 = .ok (.lmul, 1) := by decide +kernel
theorem dX4_wordOf_11 : decode cX4_wordOf 11 = .ok (.ladd, 1) := by decide +kernel
theorem dX4_wordOf_12 : decode cX4_wordOf 12 = .ok (.aload_n 0, 1) := by decide +kernel
theorem dX4_wordOf_13 : decode cX4_wordOf 13 = .ok (.iload_n 3, 1) := by decide +kernel
theorem dX4_wordOf_14 : decode cX4_wordOf 14 = .ok (.invokevirtual 99, 3) := by decide +kernel
theorem dX4_wordOf_17 : decode cX4_wordOf 17 = .ok (.lxor, 1) := by decide +kernel
theorem dX4_wordOf_18 : decode cX4_wordOf 18 = .ok (.invokestatic 88, 3) := by decide +kernel
theorem dX4_wordOf_21 : decode cX4_wordOf 21 = .ok (.lstore 6, 2) := by decide +kernel
theorem dX4_wordOf_23 : decode cX4_wordOf 23 = .ok (.lload 6, 2) := by decide +kernel
theorem dX4_wordOf_25 : decode cX4_wordOf 25 = .ok (.ldc2_w 86, 3) := by decide +kernel
theorem dX4_wordOf_28 : decode cX4_wordOf 28 = .ok (.lload 4, 2) := by decide +kernel
theorem dX4_wordOf_30 : decode cX4_wordOf 30 = .ok (.lconst 1, 1) := by decide +kernel
theorem dX4_wordOf_31 : decode cX4_wordOf 31 = .ok (.ladd, 1) := by decide +kernel
theorem dX4_wordOf_32 : decode cX4_wordOf 32 = .ok (.lmul, 1) := by decide +kernel
theorem dX4_wordOf_33 : decode cX4_wordOf 33 = .ok (.ladd, 1) := by decide +kernel
theorem dX4_wordOf_34 : decode cX4_wordOf 34 = .ok (.invokestatic 88, 3) := by decide +kernel
theorem dX4_wordOf_37 : decode cX4_wordOf 37 = .ok (.lreturn, 1) := by decide +kernel
set_option maxRecDepth 20000 in
theorem ggX4_word_X4_isPath : GoodIn wsX4_word wsX4_isPath := goodIn_r _ [6, 7, 8, 9, 5, 10, 28, 29, 30, 31, 32, 33, 34, 35, 36, 37, 38, 39, 40, 41, 42, 43, 44, 45, 46, 47, 48] (by decide +kernel) (by decide +kernel)
set_option maxRecDepth 20000 in
theorem gX4_word_X4_isPath : GoodIn wsX4_word (wsV RX4 92 RX4 yX4_isPath wsX4_isPath) := goodIn_app (goodIn_of _ (by decide +kernel)) ggX4_word_X4_isPath
set_option maxRecDepth 20000 in
theorem ggX4_word_X4_wordOf : GoodIn wsX4_word wsX4_wordOf := goodIn_r _ [14, 15, 16, 17, 18, 19, 5, 20, 21, 22, 23, 24, 25, 26, 27, 28, 29, 30, 31, 32, 33, 34, 35, 36, 37, 38, 39, 40, 41, 42, 43, 44, 45, 46, 47, 48] (by decide +kernel) (by decide +kernel)
set_option maxRecDepth 20000 in
theorem gX4_word_X4_wordOf : GoodIn wsX4_word (wsV RX4 103 RX4 yX4_wordOf wsX4_wordOf) := goodIn_app (goodIn_of _ (by decide +kernel)) ggX4_word_X4_wordOf
theorem dX4_word_0 : decode cX4_word 0 = .ok (.aload_n 0, 1) := by decide +kernel
theorem dX4_word_1 : decode cX4_word 1 = .ok (.aload_n 0, 1) := by decide +kernel
theorem dX4_word_2 : decode cX4_word 2 = .ok (.iload_n 3, 1) := by decide +kernel
theorem dX4_word_3 : decode cX4_word 3 = .ok (.invokevirtual 92, 3) := by decide +kernel
theorem dX4_word_6 : decode cX4_word 6 = .ok (.ifCond .eq 7, 3) := by decide +kernel
theorem dX4_word_9 : decode cX4_word 9 = .ok (.iconst 0, 1) := by decide +kernel
theorem dX4_word_10 : decode cX4_word 10 = .ok (.goto 4, 3) := by decide +kernel
theorem dX4_word_13 : decode cX4_word 13 = .ok (.iconst (-1), 1) := by decide +kernel
theorem dX4_word_14 : decode cX4_word 14 = .ok (.putfield 96, 3) := by decide +kernel
theorem dX4_word_17 : decode cX4_word 17 = .ok (.aload_n 0, 1) := by decide +kernel
theorem dX4_word_18 : decode cX4_word 18 = .ok (.getfield 96, 3) := by decide +kernel
theorem dX4_word_21 : decode cX4_word 21 = .ok (.ifCond .ge 7, 3) := by decide +kernel
theorem dX4_word_24 : decode cX4_word 24 = .ok (.lconst 0, 1) := by decide +kernel
theorem dX4_word_25 : decode cX4_word 25 = .ok (.goto 11, 3) := by decide +kernel
theorem dX4_word_28 : decode cX4_word 28 = .ok (.aload_n 0, 1) := by decide +kernel
theorem dX4_word_29 : decode cX4_word 29 = .ok (.lload_n 1, 1) := by decide +kernel
theorem dX4_word_30 : decode cX4_word 30 = .ok (.iload_n 3, 1) := by decide +kernel
theorem dX4_word_31 : decode cX4_word 31 = .ok (.lload 4, 2) := by decide +kernel
theorem dX4_word_33 : decode cX4_word 33 = .ok (.invokevirtual 103, 3) := by decide +kernel
theorem dX4_word_36 : decode cX4_word 36 = .ok (.lreturn, 1) := by decide +kernel
set_option maxRecDepth 20000 in
theorem ggX4_draw_X4_rest : GoodIn wsX4_draw wsX4_rest := goodIn_r _ [7, 8, 9, 6, 10, 11] (by decide +kernel) (by decide +kernel)
set_option maxRecDepth 20000 in
theorem gX4_draw_X4_rest : GoodIn wsX4_draw (va_wsS RX4 107 yX4_rest wsX4_rest) := goodIn_app (goodIn_of _ (by decide +kernel)) ggX4_draw_X4_rest
set_option maxRecDepth 20000 in
theorem ggX4_draw_X4_wordOf : GoodIn wsX4_draw wsX4_wordOf := goodIn_r _ [15, 16, 17, 18, 19, 20, 6, 21, 22, 23, 24, 25, 26, 27, 28, 29, 30, 31, 32, 33, 34, 35, 36, 37, 38, 39, 40, 41, 42, 43, 44, 45, 46, 47, 48, 49] (by decide +kernel) (by decide +kernel)
set_option maxRecDepth 20000 in
theorem gX4_draw_X4_wordOf : GoodIn wsX4_draw (wsV RX4 103 RX4 yX4_wordOf wsX4_wordOf) := goodIn_app (goodIn_of _ (by decide +kernel)) ggX4_draw_X4_wordOf
set_option maxRecDepth 20000 in
theorem ggX4_draw_X4_isBelow : GoodIn wsX4_draw wsX4_isBelow := goodIn_r _ [10, 11] (by decide +kernel) (by decide +kernel)
set_option maxRecDepth 20000 in
theorem gX4_draw_X4_isBelow : GoodIn wsX4_draw (va_wsS RX4 64 yX4_isBelow wsX4_isBelow) := goodIn_app (goodIn_of _ (by decide +kernel)) ggX4_draw_X4_isBelow
theorem dX4_draw_0 : decode cX4_draw 0 = .ok (.lload 5, 2) := by decide +kernel
theorem dX4_draw_2 : decode cX4_draw 2 = .ok (.lneg, 1) := by decide +kernel
theorem dX4_draw_3 : decode cX4_draw 3 = .ok (.lload 5, 2) := by decide +kernel
theorem dX4_draw_5 : decode cX4_draw 5 = .ok (.invokestatic 107, 3) := by decide +kernel
theorem dX4_draw_8 : decode cX4_draw 8 = .ok (.lstore 7, 2) := by decide +kernel
theorem dX4_draw_10 : decode cX4_draw 10 = .ok (.iconst 0, 1) := by decide +kernel
theorem dX4_draw_11 : decode cX4_draw 11 = .ok (.istore 9, 2) := by decide +kernel
theorem dX4_draw_13 : decode cX4_draw 13 = .ok (.iload 9, 2) := by decide +kernel
theorem dX4_draw_15 : decode cX4_draw 15 = .ok (.bipush 32, 2) := by decide +kernel
theorem dX4_draw_17 : decode cX4_draw 17 = .ok (.if_icmp .ge 62, 3) := by decide +kernel
theorem dX4_draw_20 : decode cX4_draw 20 = .ok (.aload_n 0, 1) := by decide +kernel
theorem dX4_draw_21 : decode cX4_draw 21 = .ok (.lload_n 1, 1) := by decide +kernel
theorem dX4_draw_22 : decode cX4_draw 22 = .ok (.iload_n 3, 1) := by decide +kernel
theorem dX4_draw_23 : decode cX4_draw 23 = .ok (.ldc2_w 111, 3) := by decide +kernel
theorem dX4_draw_26 : decode cX4_draw 26 = .ok (.iload 4, 2) := by decide +kernel
theorem dX4_draw_28 : decode cX4_draw 28 = .ok (.i2l, 1) := by decide +kernel
theorem dX4_draw_29 : decode cX4_draw 29 = .ok (.lmul, 1) := by decide +kernel
theorem dX4_draw_30 : decode cX4_draw 30 = .ok (.iload 9, 2) := by decide +kernel
theorem dX4_draw_32 : decode cX4_draw 32 = .ok (.i2l, 1) := by decide +kernel
theorem dX4_draw_33 : decode cX4_draw 33 = .ok (.ladd, 1) := by decide +kernel
theorem dX4_draw_34 : decode cX4_draw 34 = .ok (.invokevirtual 103, 3) := by decide +kernel
theorem dX4_draw_37 : decode cX4_draw 37 = .ok (.lstore 10, 2) := by decide +kernel
theorem dX4_draw_39 : decode cX4_draw 39 = .ok (.aload_n 0, 1) := by decide +kernel
theorem dX4_draw_40 : decode cX4_draw 40 = .ok (.iload 9, 2) := by decide +kernel
theorem dX4_draw_42 : decode cX4_draw 42 = .ok (.iconst 1, 1) := by decide +kernel
theorem dX4_draw_43 : decode cX4_draw 43 = .ok (.iadd, 1) := by decide +kernel
theorem dX4_draw_44 : decode cX4_draw 44 = .ok (.putfield 113, 3) := by decide +kernel
theorem dX4_draw_47 : decode cX4_draw 47 = .ok (.lload 7, 2) := by decide +kernel
theorem dX4_draw_49 : decode cX4_draw 49 = .ok (.lconst 0, 1) := by decide +kernel
theorem dX4_draw_50 : decode cX4_draw 50 = .ok (.lcmp, 1) := by decide +kernel
theorem dX4_draw_51 : decode cX4_draw 51 = .ok (.ifCond .eq 14, 3) := by decide +kernel
theorem dX4_draw_54 : decode cX4_draw 54 = .ok (.lload 10, 2) := by decide +kernel
theorem dX4_draw_56 : decode cX4_draw 56 = .ok (.lload 7, 2) := by decide +kernel
theorem dX4_draw_58 : decode cX4_draw 58 = .ok (.lneg, 1) := by decide +kernel
theorem dX4_draw_59 : decode cX4_draw 59 = .ok (.invokestatic 64, 3) := by decide +kernel
theorem dX4_draw_62 : decode cX4_draw 62 = .ok (.ifCond .eq 11, 3) := by decide +kernel
theorem dX4_draw_65 : decode cX4_draw 65 = .ok (.lload 10, 2) := by decide +kernel
theorem dX4_draw_67 : decode cX4_draw 67 = .ok (.lload 5, 2) := by decide +kernel
theorem dX4_draw_69 : decode cX4_draw 69 = .ok (.invokestatic 107, 3) := by decide +kernel
theorem dX4_draw_72 : decode cX4_draw 72 = .ok (.lreturn, 1) := by decide +kernel
theorem dX4_draw_73 : decode cX4_draw 73 = .ok (.iinc 9 1, 3) := by decide +kernel
theorem dX4_draw_76 : decode cX4_draw 76 = .ok (.goto (-63), 3) := by decide +kernel
theorem dX4_draw_79 : decode cX4_draw 79 = .ok (.ldc2_w 116, 3) := by decide +kernel
theorem dX4_draw_82 : decode cX4_draw 82 = .ok (.lreturn, 1) := by decide +kernel
set_option maxRecDepth 20000 in
theorem ggX4_span_X4_isPath : GoodIn wsX4_span wsX4_isPath := goodIn_r _ [7, 8, 9, 10, 6, 11, 43, 44, 45, 46, 47, 48, 49, 50, 51, 52, 53, 54, 55, 56, 57, 58, 59, 60, 61, 62, 63] (by decide +kernel) (by decide +kernel)
set_option maxRecDepth 20000 in
theorem gX4_span_X4_isPath : GoodIn wsX4_span (wsV RX4 92 RX4 yX4_isPath wsX4_isPath) := goodIn_app (goodIn_of _ (by decide +kernel)) ggX4_span_X4_isPath
set_option maxRecDepth 20000 in
theorem ggX4_span_X4_draw : GoodIn wsX4_span wsX4_draw := goodIn_r _ [15, 16, 17, 18, 19, 20, 6, 21, 22, 23, 24, 25, 26, 27, 28, 29, 30, 31, 32, 33, 34, 35, 36, 37, 38, 39, 40, 41, 42, 43, 44, 45, 46, 47, 48, 49, 50, 51, 52, 53, 54, 55, 56, 57, 58, 59, 60, 61, 62, 63] (by decide +kernel) (by decide +kernel)
set_option maxRecDepth 20000 in
theorem gX4_span_X4_draw : GoodIn wsX4_span (wsV RX4 122 RX4 yX4_draw wsX4_draw) := goodIn_app (goodIn_of _ (by decide +kernel)) ggX4_span_X4_draw
theorem dX4_span_0 : decode cX4_span 0 = .ok (.aload_n 0, 1) := by decide +kernel
theorem dX4_span_1 : decode cX4_span 1 = .ok (.iload_n 3, 1) := by decide +kernel
theorem dX4_span_2 : decode cX4_span 2 = .ok (.invokevirtual 92, 3) := by decide +kernel
theorem dX4_span_5 : decode cX4_span 5 = .ok (.ifCond .eq 15, 3) := by decide +kernel
theorem dX4_span_8 : decode cX4_span 8 = .ok (.iload 4, 2) := by decide +kernel
theorem dX4_span_10 : decode cX4_span 10 = .ok (.ifCond .lt 10, 3) := by decide +kernel
theorem dX4_span_13 : decode cX4_span 13 = .ok (.lload 5, 2) := by decide +kernel
theorem dX4_span_15 : decode cX4_span 15 = .ok (.lconst 0, 1) := by decide +kernel
theorem dX4_span_16 : decode cX4_span 16 = .ok (.lcmp, 1) := by decide +kernel
theorem dX4_span_17 : decode cX4_span 17 = .ok (.ifCond .ge 7, 3) := by decide +kernel
theorem dX4_span_20 : decode cX4_span 20 = .ok (.ldc2_w 118, 3) := by decide +kernel
theorem dX4_span_23 : decode cX4_span 23 = .ok (.lreturn, 1) := by decide +kernel
theorem dX4_span_24 : decode cX4_span 24 = .ok (.lload 5, 2) := by decide +kernel
theorem dX4_span_26 : decode cX4_span 26 = .ok (.lconst 0, 1) := by decide +kernel
theorem dX4_span_27 : decode cX4_span 27 = .ok (.lcmp, 1) := by decide +kernel
theorem dX4_span_28 : decode cX4_span 28 = .ok (.ifCond .ne 9, 3) := by decide +kernel
theorem dX4_span_31 : decode cX4_span 31 = .ok (.ldc2_w 120, 3) := by decide +kernel
theorem dX4_span_34 : decode cX4_span 34 = .ok (.goto 13, 3) := by decide +kernel
theorem dX4_span_37 : decode cX4_span 37 = .ok (.aload_n 0, 1) := by decide +kernel
theorem dX4_span_38 : decode cX4_span 38 = .ok (.lload_n 1, 1) := by decide +kernel
theorem dX4_span_39 : decode cX4_span 39 = .ok (.iload_n 3, 1) := by decide +kernel
theorem dX4_span_40 : decode cX4_span 40 = .ok (.iload 4, 2) := by decide +kernel
theorem dX4_span_42 : decode cX4_span 42 = .ok (.lload 5, 2) := by decide +kernel
theorem dX4_span_44 : decode cX4_span 44 = .ok (.invokevirtual 122, 3) := by decide +kernel
theorem dX4_span_47 : decode cX4_span 47 = .ok (.lreturn, 1) := by decide +kernel
set_option maxRecDepth 20000 in
theorem ggX4_fraction_X4_isPath : GoodIn wsX4_fraction wsX4_isPath := goodIn_r _ [8, 9, 10, 11, 7, 12, 30, 31, 32, 33, 34, 35, 36, 37, 38, 39, 40, 41, 42, 43, 44, 45, 46, 47, 48, 49, 50] (by decide +kernel) (by decide +kernel)
set_option maxRecDepth 20000 in
theorem gX4_fraction_X4_isPath : GoodIn wsX4_fraction (wsV RX4 92 RX4 yX4_isPath wsX4_isPath) := goodIn_app (goodIn_of _ (by decide +kernel)) ggX4_fraction_X4_isPath
set_option maxRecDepth 20000 in
theorem ggX4_fraction_X4_in : GoodIn wsX4_fraction wsX4_in := goodIn_r _ [12] (by decide +kernel) (by decide +kernel)
set_option maxRecDepth 20000 in
theorem gX4_fraction_X4_in : GoodIn wsX4_fraction (va_wsS RX4 82 yX4_in wsX4_in) := goodIn_app (goodIn_of _ (by decide +kernel)) ggX4_fraction_X4_in
set_option maxRecDepth 20000 in
theorem ggX4_fraction_X4_wordOf : GoodIn wsX4_fraction wsX4_wordOf := goodIn_r _ [16, 17, 18, 19, 20, 21, 7, 22, 23, 24, 25, 26, 27, 28, 29, 30, 31, 32, 33, 34, 35, 36, 37, 38, 39, 40, 41, 42, 43, 44, 45, 46, 47, 48, 49, 50] (by decide +kernel) (by decide +kernel)
set_option maxRecDepth 20000 in
theorem gX4_fraction_X4_wordOf : GoodIn wsX4_fraction (wsV RX4 103 RX4 yX4_wordOf wsX4_wordOf) := goodIn_app (goodIn_of _ (by decide +kernel)) ggX4_fraction_X4_wordOf
theorem dX4_fraction_0 : decode cX4_fraction 0 = .ok (.aload_n 0, 1) := by decide +kernel
theorem dX4_fraction_1 : decode cX4_fraction 1 = .ok (.iload_n 3, 1) := by decide +kernel
theorem dX4_fraction_2 : decode cX4_fraction 2 = .ok (.invokevirtual 92, 3) := by decide +kernel
theorem dX4_fraction_5 : decode cX4_fraction 5 = .ok (.ifCond .eq 26, 3) := by decide +kernel
theorem dX4_fraction_8 : decode cX4_fraction 8 = .ok (.iload 4, 2) := by decide +kernel
theorem dX4_fraction_10 : decode cX4_fraction 10 = .ok (.ifCond .lt 21, 3) := by decide +kernel
theorem dX4_fraction_13 : decode cX4_fraction 13 = .ok (.lload 7, 2) := by decide +kernel
theorem dX4_fraction_15 : decode cX4_fraction 15 = .ok (.lconst 0, 1) := by decide +kernel
theorem dX4_fraction_16 : decode cX4_fraction 16 = .ok (.lcmp, 1) := by decide +kernel
theorem dX4_fraction_17 : decode cX4_fraction 17 = .ok (.ifCond .lt 14, 3) := by decide +kernel
theorem dX4_fraction_20 : decode cX4_fraction 20 = .ok (.lload 5, 2) := by decide +kernel
theorem dX4_fraction_22 : decode cX4_fraction 22 = .ok (.lconst 0, 1) := by decide +kernel
theorem dX4_fraction_23 : decode cX4_fraction 23 = .ok (.lload 7, 2) := by decide +kernel
end
section
theorem dX4_fraction_25 : decode cX4_fraction 25 = .ok (.invokestatic 82, 3) := by decide +kernel
theorem dX4_fraction_28 : decode cX4_fraction 28 = .ok (.ifCond .ne 5, 3) := by decide +kernel
theorem dX4_fraction_31 : decode cX4_fraction 31 = .ok (.iconst (-1), 1) := by decide +kernel
theorem dX4_fraction_32 : decode cX4_fraction 32 = .ok (.ireturn, 1) := by decide +kernel
theorem dX4_fraction_33 : decode cX4_fraction 33 = .ok (.lload 7, 2) := by decide +kernel
theorem dX4_fraction_35 : decode cX4_fraction 35 = .ok (.lconst 0, 1) := by decide +kernel
theorem dX4_fraction_36 : decode cX4_fraction 36 = .ok (.lcmp, 1) := by decide +kernel
theorem dX4_fraction_37 : decode cX4_fraction 37 = .ok (.ifCond .ne 6, 3) := by decide +kernel
theorem dX4_fraction_40 : decode cX4_fraction 40 = .ok (.bipush (-4), 2) := by decide +kernel
theorem dX4_fraction_42 : decode cX4_fraction 42 = .ok (.ireturn, 1) := by decide +kernel
theorem dX4_fraction_43 : decode cX4_fraction 43 = .ok (.aload_n 0, 1) := by decide +kernel
theorem dX4_fraction_44 : decode cX4_fraction 44 = .ok (.iconst 0, 1) := by decide +kernel
theorem dX4_fraction_45 : decode cX4_fraction 45 = .ok (.putfield 113, 3) := by decide +kernel
theorem dX4_fraction_48 : decode cX4_fraction 48 = .ok (.lload 5, 2) := by decide +kernel
theorem dX4_fraction_50 : decode cX4_fraction 50 = .ok (.lconst 0, 1) := by decide +kernel
theorem dX4_fraction_51 : decode cX4_fraction 51 = .ok (.lcmp, 1) := by decide +kernel
theorem dX4_fraction_52 : decode cX4_fraction 52 = .ok (.ifCond .eq 11, 3) := by decide +kernel
theorem dX4_fraction_55 : decode cX4_fraction 55 = .ok (.lload 5, 2) := by decide +kernel
theorem dX4_fraction_57 : decode cX4_fraction 57 = .ok (.lload 7, 2) := by decide +kernel
theorem dX4_fraction_59 : decode cX4_fraction 59 = .ok (.lcmp, 1) := by decide +kernel
theorem dX4_fraction_60 : decode cX4_fraction 60 = .ok (.ifCond .ne 16, 3) := by decide +kernel
theorem dX4_fraction_63 : decode cX4_fraction 63 = .ok (.lload 5, 2) := by decide +kernel
theorem dX4_fraction_65 : decode cX4_fraction 65 = .ok (.lconst 0, 1) := by decide +kernel
theorem dX4_fraction_66 : decode cX4_fraction 66 = .ok (.lcmp, 1) := by decide +kernel
theorem dX4_fraction_67 : decode cX4_fraction 67 = .ok (.ifCond .ne 7, 3) := by decide +kernel
theorem dX4_fraction_70 : decode cX4_fraction 70 = .ok (.iconst 0, 1) := by decide +kernel
theorem dX4_fraction_71 : decode cX4_fraction 71 = .ok (.goto 4, 3) := by decide +kernel
theorem dX4_fraction_74 : decode cX4_fraction 74 = .ok (.iconst 1, 1) := by decide +kernel
theorem dX4_fraction_75 : decode cX4_fraction 75 = .ok (.ireturn, 1) := by decide +kernel
theorem dX4_fraction_76 : decode cX4_fraction 76 = .ok (.lload 5, 2) := by decide +kernel
theorem dX4_fraction_78 : decode cX4_fraction 78 = .ok (.lstore 9, 2) := by decide +kernel
theorem dX4_fraction_80 : decode cX4_fraction 80 = .ok (.lconst 0, 1) := by decide +kernel
theorem dX4_fraction_81 : decode cX4_fraction 81 = .ok (.lstore 11, 2) := by decide +kernel
theorem dX4_fraction_83 : decode cX4_fraction 83 = .ok (.aload_n 0, 1) := by decide +kernel
theorem dX4_fraction_84 : decode cX4_fraction 84 = .ok (.getfield 113, 3) := by decide +kernel
theorem dX4_fraction_87 : decode cX4_fraction 87 = .ok (.sipush 2048, 3) := by decide +kernel
theorem dX4_fraction_90 : decode cX4_fraction 90 = .ok (.if_icmp .ge 139, 3) := by decide +kernel
theorem dX4_fraction_93 : decode cX4_fraction 93 = .ok (.aload_n 0, 1) := by decide +kernel
theorem dX4_fraction_94 : decode cX4_fraction 94 = .ok (.getfield 113, 3) := by decide +kernel
theorem dX4_fraction_97 : decode cX4_fraction 97 = .ok (.bipush 64, 2) := by decide +kernel
theorem dX4_fraction_99 : decode cX4_fraction 99 = .ok (.irem, 1) := by decide +kernel
theorem dX4_fraction_100 : decode cX4_fraction 100 = .ok (.ifCond .ne 27, 3) := by decide +kernel
theorem dX4_fraction_103 : decode cX4_fraction 103 = .ok (.aload_n 0, 1) := by decide +kernel
theorem dX4_fraction_104 : decode cX4_fraction 104 = .ok (.lload_n 1, 1) := by decide +kernel
theorem dX4_fraction_105 : decode cX4_fraction 105 = .ok (.iload_n 3, 1) := by decide +kernel
theorem dX4_fraction_106 : decode cX4_fraction 106 = .ok (.ldc2_w 111, 3) := by decide +kernel
theorem dX4_fraction_109 : decode cX4_fraction 109 = .ok (.iload 4, 2) := by decide +kernel
theorem dX4_fraction_111 : decode cX4_fraction 111 = .ok (.i2l, 1) := by decide +kernel
theorem dX4_fraction_112 : decode cX4_fraction 112 = .ok (.lmul, 1) := by decide +kernel
theorem dX4_fraction_113 : decode cX4_fraction 113 = .ok (.aload_n 0, 1) := by decide +kernel
theorem dX4_fraction_114 : decode cX4_fraction 114 = .ok (.getfield 113, 3) := by decide +kernel
theorem dX4_fraction_117 : decode cX4_fraction 117 = .ok (.bipush 64, 2) := by decide +kernel
theorem dX4_fraction_119 : decode cX4_fraction 119 = .ok (.idiv, 1) := by decide +kernel
theorem dX4_fraction_120 : decode cX4_fraction 120 = .ok (.i2l, 1) := by decide +kernel
theorem dX4_fraction_121 : decode cX4_fraction 121 = .ok (.ladd, 1) := by decide +kernel
theorem dX4_fraction_122 : decode cX4_fraction 122 = .ok (.invokevirtual 103, 3) := by decide +kernel
theorem dX4_fraction_125 : decode cX4_fraction 125 = .ok (.lstore 11, 2) := by decide +kernel
theorem dX4_fraction_127 : decode cX4_fraction 127 = .ok (.lload 11, 2) := by decide +kernel
theorem dX4_fraction_129 : decode cX4_fraction 129 = .ok (.lconst 0, 1) := by decide +kernel
theorem dX4_fraction_130 : decode cX4_fraction 130 = .ok (.lcmp, 1) := by decide +kernel
theorem dX4_fraction_131 : decode cX4_fraction 131 = .ok (.ifCond .ge 7, 3) := by decide +kernel
theorem dX4_fraction_134 : decode cX4_fraction 134 = .ok (.iconst 1, 1) := by decide +kernel
theorem dX4_fraction_135 : decode cX4_fraction 135 = .ok (.goto 4, 3) := by decide +kernel
theorem dX4_fraction_138 : decode cX4_fraction 138 = .ok (.iconst 0, 1) := by decide +kernel
theorem dX4_fraction_139 : decode cX4_fraction 139 = .ok (.istore 13, 2) := by decide +kernel
theorem dX4_fraction_141 : decode cX4_fraction 141 = .ok (.lload 11, 2) := by decide +kernel
theorem dX4_fraction_143 : decode cX4_fraction 143 = .ok (.iconst 1, 1) := by decide +kernel
theorem dX4_fraction_144 : decode cX4_fraction 144 = .ok (.lshl, 1) := by decide +kernel
theorem dX4_fraction_145 : decode cX4_fraction 145 = .ok (.lstore 11, 2) := by decide +kernel
theorem dX4_fraction_147 : decode cX4_fraction 147 = .ok (.aload_n 0, 1) := by decide +kernel
theorem dX4_fraction_148 : decode cX4_fraction 148 = .ok (.dup, 1) := by decide +kernel
theorem dX4_fraction_149 : decode cX4_fraction 149 = .ok (.getfield 113, 3) := by decide +kernel
theorem dX4_fraction_152 : decode cX4_fraction 152 = .ok (.iconst 1, 1) := by decide +kernel
theorem dX4_fraction_153 : decode cX4_fraction 153 = .ok (.iadd, 1) := by decide +kernel
theorem dX4_fraction_154 : decode cX4_fraction 154 = .ok (.putfield 113, 3) := by decide +kernel
theorem dX4_fraction_157 : decode cX4_fraction 157 = .ok (.lload 9, 2) := by decide +kernel
theorem dX4_fraction_159 : decode cX4_fraction 159 = .ok (.lload 7, 2) := by decide +kernel
theorem dX4_fraction_161 : decode cX4_fraction 161 = .ok (.lload 9, 2) := by decide +kernel
theorem dX4_fraction_163 : decode cX4_fraction 163 = .ok (.lsub, 1) := by decide +kernel
theorem dX4_fraction_164 : decode cX4_fraction 164 = .ok (.lcmp, 1) := by decide +kernel
theorem dX4_fraction_165 : decode cX4_fraction 165 = .ok (.ifCond .lt 7, 3) := by decide +kernel
theorem dX4_fraction_168 : decode cX4_fraction 168 = .ok (.iconst 1, 1) := by decide +kernel
theorem dX4_fraction_169 : decode cX4_fraction 169 = .ok (.goto 4, 3) := by decide +kernel
theorem dX4_fraction_172 : decode cX4_fraction 172 = .ok (.iconst 0, 1) := by decide +kernel
theorem dX4_fraction_173 : decode cX4_fraction 173 = .ok (.istore 14, 2) := by decide +kernel
theorem dX4_fraction_175 : decode cX4_fraction 175 = .ok (.iload 14, 2) := by decide +kernel
theorem dX4_fraction_177 : decode cX4_fraction 177 = .ok (.ifCond .eq 14, 3) := by decide +kernel
theorem dX4_fraction_180 : decode cX4_fraction 180 = .ok (.lload 9, 2) := by decide +kernel
theorem dX4_fraction_182 : decode cX4_fraction 182 = .ok (.lload 7, 2) := by decide +kernel
theorem dX4_fraction_184 : decode cX4_fraction 184 = .ok (.lload 9, 2) := by decide +kernel
theorem dX4_fraction_186 : decode cX4_fraction 186 = .ok (.lsub, 1) := by decide +kernel
theorem dX4_fraction_187 : decode cX4_fraction 187 = .ok (.lsub, 1) := by decide +kernel
theorem dX4_fraction_188 : decode cX4_fraction 188 = .ok (.goto 9, 3) := by decide +kernel
theorem dX4_fraction_191 : decode cX4_fraction 191 = .ok (.ldc2_w 126, 3) := by decide +kernel
theorem dX4_fraction_194 : decode cX4_fraction 194 = .ok (.lload 9, 2) := by decide +kernel
theorem dX4_fraction_196 : decode cX4_fraction 196 = .ok (.lmul, 1) := by decide +kernel
theorem dX4_fraction_197 : decode cX4_fraction 197 = .ok (.lstore 9, 2) := by decide +kernel
theorem dX4_fraction_199 : decode cX4_fraction 199 = .ok (.iload 13, 2) := by decide +kernel
theorem dX4_fraction_201 : decode cX4_fraction 201 = .ok (.iload 14, 2) := by decide +kernel
theorem dX4_fraction_203 : decode cX4_fraction 203 = .ok (.if_icmp .eq 14, 3) := by decide +kernel
theorem dX4_fraction_206 : decode cX4_fraction 206 = .ok (.iload 14, 2) := by decide +kernel
theorem dX4_fraction_208 : decode cX4_fraction 208 = .ok (.ifCond .eq 7, 3) := by decide +kernel
theorem dX4_fraction_211 : decode cX4_fraction 211 = .ok (.iconst 1, 1) := by decide +kernel
theorem dX4_fraction_212 : decode cX4_fraction 212 = .ok (.goto 4, 3) := by decide +kernel
theorem dX4_fraction_215 : decode cX4_fraction 215 = .ok (.iconst 0, 1) := by decide +kernel
theorem dX4_fraction_216 : decode cX4_fraction 216 = .ok (.ireturn, 1) := by decide +kernel
theorem dX4_fraction_217 : decode cX4_fraction 217 = .ok (.lload 9, 2) := by decide +kernel
theorem dX4_fraction_219 : decode cX4_fraction 219 = .ok (.lconst 0, 1) := by decide +kernel
theorem dX4_fraction_220 : decode cX4_fraction 220 = .ok (.lcmp, 1) := by decide +kernel
theorem dX4_fraction_221 : decode cX4_fraction 221 = .ok (.ifCond .ne 5, 3) := by decide +kernel
theorem dX4_fraction_224 : decode cX4_fraction 224 = .ok (.iconst 0, 1) := by decide +kernel
theorem dX4_fraction_225 : decode cX4_fraction 225 = .ok (.ireturn, 1) := by decide +kernel
theorem dX4_fraction_226 : decode cX4_fraction 226 = .ok (.goto (-143), 3) := by decide +kernel
theorem dX4_fraction_229 : decode cX4_fraction 229 = .ok (.bipush (-3), 2) := by decide +kernel
theorem dX4_fraction_231 : decode cX4_fraction 231 = .ok (.ireturn, 1) := by decide +kernel
set_option maxRecDepth 20000 in
theorem ggX4_weight_X4_in : GoodIn wsX4_weight wsX4_in := goodIn_r _ [6] (by decide +kernel) (by decide +kernel)
set_option maxRecDepth 20000 in
theorem gX4_weight_X4_in : GoodIn wsX4_weight (va_wsS RX4 82 yX4_in wsX4_in) := goodIn_app (goodIn_of _ (by decide +kernel)) ggX4_weight_X4_in
theorem dX4_weight_0 : decode cX4_weight 0 = .ok (.iload_n 1, 1) := by decide +kernel
theorem dX4_weight_1 : decode cX4_weight 1 = .ok (.i2l, 1) := by decide +kernel
theorem dX4_weight_2 : decode cX4_weight 2 = .ok (.lconst 0, 1) := by decide +kernel
theorem dX4_weight_3 : decode cX4_weight 3 = .ok (.ldc2_w 128, 3) := by decide +kernel
theorem dX4_weight_6 : decode cX4_weight 6 = .ok (.invokestatic 82, 3) := by decide +kernel
theorem dX4_weight_9 : decode cX4_weight 9 = .ok (.ifCond .eq 9, 3) := by decide +kernel
theorem dX4_weight_12 : decode cX4_weight 12 = .ok (.lload_n 2, 1) := by decide +kernel
theorem dX4_weight_13 : decode cX4_weight 13 = .ok (.lconst 0, 1) := by decide +kernel
theorem dX4_weight_14 : decode cX4_weight 14 = .ok (.lcmp, 1) := by decide +kernel
theorem dX4_weight_15 : decode cX4_weight 15 = .ok (.ifCond .ge 5, 3) := by decide +kernel
theorem dX4_weight_18 : decode cX4_weight 18 = .ok (.iconst (-1), 1) := by decide +kernel
theorem dX4_weight_19 : decode cX4_weight 19 = .ok (.ireturn, 1) := by decide +kernel
theorem dX4_weight_20 : decode cX4_weight 20 = .ok (.aload_n 0, 1) := by decide +kernel
theorem dX4_weight_21 : decode cX4_weight 21 = .ok (.getfield 20, 3) := by decide +kernel
theorem dX4_weight_24 : decode cX4_weight 24 = .ok (.iload_n 1, 1) := by decide +kernel
theorem dX4_weight_25 : decode cX4_weight 25 = .ok (.lload_n 2, 1) := by decide +kernel
theorem dX4_weight_26 : decode cX4_weight 26 = .ok (.lastore, 1) := by decide +kernel
theorem dX4_weight_27 : decode cX4_weight 27 = .ok (.iconst 1, 1) := by decide +kernel
theorem dX4_weight_28 : decode cX4_weight 28 = .ok (.ireturn, 1) := by decide +kernel
theorem dX4_sum_0 : decode cX4_sum 0 = .ok (.lconst 0, 1) := by decide +kernel
theorem dX4_sum_1 : decode cX4_sum 1 = .ok (.lstore_n 1, 1) := by decide +kernel
theorem dX4_sum_2 : decode cX4_sum 2 = .ok (.aload_n 0, 1) := by decide +kernel
theorem dX4_sum_3 : decode cX4_sum 3 = .ok (.iconst 0, 1) := by decide +kernel
theorem dX4_sum_4 : decode cX4_sum 4 = .ok (.putfield 130, 3) := by decide +kernel
theorem dX4_sum_7 : decode cX4_sum 7 = .ok (.iconst 0, 1) := by decide +kernel
theorem dX4_sum_8 : decode cX4_sum 8 = .ok (.istore_n 3, 1) := by decide +kernel
theorem dX4_sum_9 : decode cX4_sum 9 = .ok (.iload_n 3, 1) := by decide +kernel
theorem dX4_sum_10 : decode cX4_sum 10 = .ok (.bipush 10, 2) := by decide +kernel
theorem dX4_sum_12 : decode cX4_sum 12 = .ok (.if_icmp .ge 58, 3) := by decide +kernel
theorem dX4_sum_15 : decode cX4_sum 15 = .ok (.aload_n 0, 1) := by decide +kernel
theorem dX4_sum_16 : decode cX4_sum 16 = .ok (.aload_n 0, 1) := by decide +kernel
theorem dX4_sum_17 : decode cX4_sum 17 = .ok (.getfield 130, 3) := by decide +kernel
theorem dX4_sum_20 : decode cX4_sum 20 = .ok (.ifCond .ne 16, 3) := by decide +kernel
theorem dX4_sum_23 : decode cX4_sum 23 = .ok (.lload_n 1, 1) := by decide +kernel
theorem dX4_sum_24 : decode cX4_sum 24 = .ok (.aload_n 0, 1) := by decide +kernel
theorem dX4_sum_25 : decode cX4_sum 25 = .ok (.getfield 20, 3) := by decide +kernel
theorem dX4_sum_28 : decode cX4_sum 28 = .ok (.iload_n 3, 1) := by decide +kernel
theorem dX4_sum_29 : decode cX4_sum 29 = .ok (.laload, 1) := by decide +kernel
theorem dX4_sum_30 : decode cX4_sum 30 = .ok (.ladd, 1) := by decide +kernel
theorem dX4_sum_31 : decode cX4_sum 31 = .ok (.lconst 0, 1) := by decide +kernel
theorem dX4_sum_32 : decode cX4_sum 32 = .ok (.lcmp, 1) := by decide +kernel
theorem dX4_sum_33 : decode cX4_sum 33 = .ok (.ifCond .ge 7, 3) := by decide +kernel
theorem dX4_sum_36 : decode cX4_sum 36 = .ok (.iconst 1, 1) := by decide +kernel
theorem dX4_sum_37 : decode cX4_sum 37 = .ok (.goto 4, 3) := by decide +kernel
theorem dX4_sum_40 : decode cX4_sum 40 = .ok (.iconst 0, 1) := by decide +kernel
theorem dX4_sum_41 : decode cX4_sum 41 = .ok (.putfield 130, 3) := by decide +kernel
theorem dX4_sum_44 : decode cX4_sum 44 = .ok (.aload_n 0, 1) := by decide +kernel
theorem dX4_sum_45 : decode cX4_sum 45 = .ok (.getfield 130, 3) := by decide +kernel
theorem dX4_sum_48 : decode cX4_sum 48 = .ok (.ifCond .eq 7, 3) := by decide +kernel
theorem dX4_sum_51 : decode cX4_sum 51 = .ok (.lconst 0, 1) := by decide +kernel
theorem dX4_sum_52 : decode cX4_sum 52 = .ok (.goto 11, 3) := by decide +kernel
theorem dX4_sum_55 : decode cX4_sum 55 = .ok (.lload_n 1, 1) := by decide +kernel
theorem dX4_sum_56 : decode cX4_sum 56 = .ok (.aload_n 0, 1) := by decide +kernel
theorem dX4_sum_57 : decode cX4_sum 57 = .ok (.getfield 20, 3) := by decide +kernel
theorem dX4_sum_60 : decode cX4_sum 60 = .ok (.iload_n 3, 1) := by decide +kernel
theorem dX4_sum_61 : decode cX4_sum 61 = .ok (.laload, 1) := by decide +kernel
theorem dX4_sum_62 : decode cX4_sum 62 = .ok (.ladd, 1) := by decide +kernel
theorem dX4_sum_63 : decode cX4_sum 63 = .ok (.lstore_n 1, 1) := by decide +kernel
theorem dX4_sum_64 : decode cX4_sum 64 = .ok (.iinc 3 1, 3) := by decide +kernel
theorem dX4_sum_67 : decode cX4_sum 67 = .ok (.goto (-58), 3) := by decide +kernel
theorem dX4_sum_70 : decode cX4_sum 70 = .ok (.lload_n 1, 1) := by decide +kernel
theorem dX4_sum_71 : decode cX4_sum 71 = .ok (.lreturn, 1) := by decide +kernel
set_option maxRecDepth 20000 in
theorem ggX4_picked_X4_draw : GoodIn wsX4_picked wsX4_draw := goodIn_r _ [6, 7, 8, 9, 10, 11, 5, 12, 13, 14, 15, 16, 17, 18, 19, 20, 21, 22, 23, 24, 25, 26, 27, 28, 29, 30, 31, 32, 33, 34, 35, 36, 37, 38, 39, 40, 41, 42, 43, 44, 45, 46, 47, 48, 49, 50, 51, 52, 53, 54] (by decide +kernel) (by decide +kernel)
set_option maxRecDepth 20000 in
theorem gX4_picked_X4_draw : GoodIn wsX4_picked (wsV RX4 122 RX4 yX4_draw wsX4_draw) := goodIn_app (goodIn_of _ (by decide +kernel)) ggX4_picked_X4_draw
theorem dX4_picked_0 : decode cX4_picked 0 = .ok (.aload_n 0, 1) := by decide +kernel
theorem dX4_picked_1 : decode cX4_picked 1 = .ok (.lload_n 1, 1) := by decide +kernel
theorem dX4_picked_2 : decode cX4_picked 2 = .ok (.iload_n 3, 1) := by decide +kernel
theorem dX4_picked_3 : decode cX4_picked 3 = .ok (.iload 4, 2) := by decide +kernel
theorem dX4_picked_5 : decode cX4_picked 5 = .ok (.lload 5, 2) := by decide +kernel
theorem dX4_picked_7 : decode cX4_picked 7 = .ok (.invokevirtual 122, 3) := by decide +kernel
theorem dX4_picked_10 : decode cX4_picked 10 = .ok (.lstore 7, 2) := by decide +kernel
theorem dX4_picked_12 : decode cX4_picked 12 = .ok (.lload 7, 2) := by decide +kernel
theorem dX4_picked_14 : decode cX4_picked 14 = .ok (.lconst 0, 1) := by decide +kernel
theorem dX4_picked_15 : decode cX4_picked 15 = .ok (.lcmp, 1) := by decide +kernel
theorem dX4_picked_16 : decode cX4_picked 16 = .ok (.ifCond .ge 6, 3) := by decide +kernel
theorem dX4_picked_19 : decode cX4_picked 19 = .ok (.bipush (-3), 2) := by decide +kernel
theorem dX4_picked_21 : decode cX4_picked 21 = .ok (.ireturn, 1) := by decide +kernel
theorem dX4_picked_22 : decode cX4_picked 22 = .ok (.iconst 0, 1) := by decide +kernel
theorem dX4_picked_23 : decode cX4_picked 23 = .ok (.istore 9, 2) := by decide +kernel
theorem dX4_picked_25 : decode cX4_picked 25 = .ok (.aload_n 0, 1) := by decide +kernel
theorem dX4_picked_26 : decode cX4_picked 26 = .ok (.getfield 20, 3) := by decide +kernel
theorem dX4_picked_29 : decode cX4_picked 29 = .ok (.iconst 0, 1) := by decide +kernel
theorem dX4_picked_30 : decode cX4_picked 30 = .ok (.laload, 1) := by decide +kernel
theorem dX4_picked_31 : decode cX4_picked 31 = .ok (.lstore 10, 2) := by decide +kernel
theorem dX4_picked_33 : decode cX4_picked 33 = .ok (.lload 10, 2) := by decide +kernel
theorem dX4_picked_35 : decode cX4_picked 35 = .ok (.lload 7, 2) := by decide +kernel
theorem dX4_picked_37 : decode cX4_picked 37 = .ok (.lcmp, 1) := by decide +kernel
theorem dX4_picked_38 : decode cX4_picked 38 = .ok (.ifCond .gt 21, 3) := by decide +kernel
theorem dX4_picked_41 : decode cX4_picked 41 = .ok (.iinc 9 1, 3) := by decide +kernel
theorem dX4_picked_44 : decode cX4_picked 44 = .ok (.lload 10, 2) := by decide +kernel
theorem dX4_picked_46 : decode cX4_picked 46 = .ok (.aload_n 0, 1) := by decide +kernel
theorem dX4_picked_47 : decode cX4_picked 47 = .ok (.getfield 20, 3) := by decide +kernel
theorem dX4_picked_50 : decode cX4_picked 50 = .ok (.iload 9, 2) := by decide +kernel
theorem dX4_picked_52 : decode cX4_picked 52 = .ok (.laload, 1) := by decide +kernel
theorem dX4_picked_53 : decode cX4_picked 53 = .ok (.ladd, 1) := by decide +kernel
theorem dX4_picked_54 : decode cX4_picked 54 = .ok (.lstore 10, 2) := by decide +kernel
theorem dX4_picked_56 : decode cX4_picked 56 = .ok (.goto (-23), 3) := by decide +kernel
theorem dX4_picked_59 : decode cX4_picked 59 = .ok (.iload 9, 2) := by decide +kernel
theorem dX4_picked_61 : decode cX4_picked 61 = .ok (.ireturn, 1) := by decide +kernel
set_option maxRecDepth 20000 in
theorem ggX4_pick_X4_isPath : GoodIn wsX4_pick wsX4_isPath := goodIn_r _ [6, 7, 8, 9, 5, 10, 51, 52, 53, 54, 55, 56, 57, 58, 59, 60, 61, 62, 63, 64, 65, 66, 67, 68, 69, 70, 71] (by decide +kernel) (by decide +kernel)
set_option maxRecDepth 20000 in
theorem gX4_pick_X4_isPath : GoodIn wsX4_pick (wsV RX4 92 RX4 yX4_isPath wsX4_isPath) := goodIn_app (goodIn_of _ (by decide +kernel)) ggX4_pick_X4_isPath
set_option maxRecDepth 20000 in
theorem ggX4_pick_X4_sum : GoodIn wsX4_pick wsX4_sum := goodIn_r _ [14, 1, 15, 51, 52, 53, 54, 55, 56, 57, 58, 59, 60, 61, 62, 63, 64, 65, 66, 67, 68, 69, 70, 71] (by decide +kernel) (by decide +kernel)
set_option maxRecDepth 20000 in
theorem gX4_pick_X4_sum : GoodIn wsX4_pick (wsV RX4 134 RX4 yX4_sum wsX4_sum) := goodIn_app (goodIn_of _ (by decide +kernel)) ggX4_pick_X4_sum
set_option maxRecDepth 20000 in
theorem ggX4_pick_X4_picked : GoodIn wsX4_pick wsX4_picked := goodIn_r _ [19, 15, 20, 21, 22, 5, 23, 24, 25, 26, 27, 28, 29, 30, 31, 32, 33, 34, 35, 36, 37, 38, 39, 40, 41, 42, 43, 44, 45, 46, 47, 48, 49, 50, 51, 52, 53, 54, 55, 56, 57, 58, 59, 60, 61, 62, 63, 64, 65, 66, 67, 68, 69, 70, 71] (by decide +kernel) (by decide +kernel)
set_option maxRecDepth 20000 in
theorem gX4_pick_X4_picked : GoodIn wsX4_pick (wsV RX4 138 RX4 yX4_picked wsX4_picked) := goodIn_app (goodIn_of _ (by decide +kernel)) ggX4_pick_X4_picked
theorem dX4_pick_0 : decode cX4_pick 0 = .ok (.aload_n 0, 1) := by decide +kernel
theorem dX4_pick_1 : decode cX4_pick 1 = .ok (.iload_n 3, 1) := by decide +kernel
theorem dX4_pick_2 : decode cX4_pick 2 = .ok (.invokevirtual 92, 3) := by decide +kernel
theorem dX4_pick_5 : decode cX4_pick 5 = .ok (.ifCond .eq 8, 3) := by decide +kernel
theorem dX4_pick_8 : decode cX4_pick 8 = .ok (.iload 4, 2) := by decide +kernel
theorem dX4_pick_10 : decode cX4_pick 10 = .ok (.ifCond .ge 5, 3) := by decide +kernel
theorem dX4_pick_13 : decode cX4_pick 13 = .ok (.iconst (-1), 1) := by decide +kernel
theorem dX4_pick_14 : decode cX4_pick 14 = .ok (.ireturn, 1) := by decide +kernel
theorem dX4_pick_15 : decode cX4_pick 15 = .ok (.aload_n 0, 1) := by decide +kernel
theorem dX4_pick_16 : decode cX4_pick 16 = .ok (.invokevirtual 134, 3) := by decide +kernel
theorem dX4_pick_19 : decode cX4_pick 19 = .ok (.lstore 5, 2) := by decide +kernel
theorem dX4_pick_21 : decode cX4_pick 21 = .ok (.aload_n 0, 1) := by decide +kernel
theorem dX4_pick_22 : decode cX4_pick 22 = .ok (.getfield 130, 3) := by decide +kernel
theorem dX4_pick_25 : decode cX4_pick 25 = .ok (.ifCond .eq 8, 3) := by decide +kernel
theorem dX4_pick_28 : decode cX4_pick 28 = .ok (.bipush (-5), 2) := by decide +kernel
theorem dX4_pick_30 : decode cX4_pick 30 = .ok (.goto 25, 3) := by decide +kernel
theorem dX4_pick_33 : decode cX4_pick 33 = .ok (.lload 5, 2) := by decide +kernel
theorem dX4_pick_35 : decode cX4_pick 35 = .ok (.lconst 0, 1) := by decide +kernel
theorem dX4_pick_36 : decode cX4_pick 36 = .ok (.lcmp, 1) := by decide +kernel
theorem dX4_pick_37 : decode cX4_pick 37 = .ok (.ifCond .ne 8, 3) := by decide +kernel
theorem dX4_pick_40 : decode cX4_pick 40 = .ok (.bipush (-4), 2) := by decide +kernel
theorem dX4_pick_42 : decode cX4_pick 42 = .ok (.goto 13, 3) := by decide +kernel
theorem dX4_pick_45 : decode cX4_pick 45 = .ok (.aload_n 0, 1) := by decide +kernel
theorem dX4_pick_46 : decode cX4_pick 46 = .ok (.lload_n 1, 1) := by decide +kernel
theorem dX4_pick_47 : decode cX4_pick 47 = .ok (.iload_n 3, 1) := by decide +kernel
theorem dX4_pick_48 : decode cX4_pick 48 = .ok (.iload 4, 2) := by decide +kernel
theorem dX4_pick_50 : decode cX4_pick 50 = .ok (.lload 5, 2) := by decide +kernel
theorem dX4_pick_52 : decode cX4_pick 52 = .ok (.invokevirtual 138, 3) := by decide +kernel
theorem dX4_pick_55 : decode cX4_pick 55 = .ok (.ireturn, 1) := by decide +kernel
set_option maxRecDepth 20000 in
theorem ggX4_permuted_X4_isPath : GoodIn wsX4_permuted wsX4_isPath := goodIn_r _ [8, 9, 10, 11, 7, 12, 44, 45, 46, 47, 48, 49, 50, 51, 52, 53, 54, 55, 56, 57, 58, 59, 60, 61, 62, 63, 64] (by decide +kernel) (by decide +kernel)
set_option maxRecDepth 20000 in
theorem gX4_permuted_X4_isPath : GoodIn wsX4_permuted (wsV RX4 92 RX4 yX4_isPath wsX4_isPath) := goodIn_app (goodIn_of _ (by decide +kernel)) ggX4_permuted_X4_isPath
set_option maxRecDepth 20000 in
theorem ggX4_permuted_X4_in : GoodIn wsX4_permuted wsX4_in := goodIn_r _ [12] (by decide +kernel) (by decide +kernel)
set_option maxRecDepth 20000 in
theorem gX4_permuted_X4_in : GoodIn wsX4_permuted (va_wsS RX4 82 yX4_in wsX4_in) := goodIn_app (goodIn_of _ (by decide +kernel)) ggX4_permuted_X4_in
set_option maxRecDepth 20000 in
theorem ggX4_permuted_X4_draw : GoodIn wsX4_permuted wsX4_draw := goodIn_r _ [16, 17, 18, 19, 20, 21, 7, 22, 23, 24, 25, 26, 27, 28, 29, 30, 31, 32, 33, 34, 35, 36, 37, 38, 39, 40, 41, 42, 43, 44, 45, 46, 47, 48, 49, 50, 51, 52, 53, 54, 55, 56, 57, 58, 59, 60, 61, 62, 63, 64] (by decide +kernel) (by decide +kernel)
set_option maxRecDepth 20000 in
theorem gX4_permuted_X4_draw : GoodIn wsX4_permuted (wsV RX4 122 RX4 yX4_draw wsX4_draw) := goodIn_app (goodIn_of _ (by decide +kernel)) ggX4_permuted_X4_draw
theorem dX4_permuted_0 : decode cX4_permuted 0 = .ok (.aload_n 0, 1) := by decide +kernel
theorem dX4_permuted_1 : decode cX4_permuted 1 = .ok (.iload_n 3, 1) := by decide +kernel
theorem dX4_permuted_2 : decode cX4_permuted 2 = .ok (.invokevirtual 92, 3) := by decide +kernel
theorem dX4_permuted_5 : decode cX4_permuted 5 = .ok (.ifCond .eq 50, 3) := by decide +kernel
theorem dX4_permuted_8 : decode cX4_permuted 8 = .ok (.iload 4, 2) := by decide +kernel
theorem dX4_permuted_10 : decode cX4_permuted 10 = .ok (.ifCond .lt 45, 3) := by decide +kernel
theorem dX4_permuted_13 : decode cX4_permuted 13 = .ok (.iload 5, 2) := by decide +kernel
theorem dX4_permuted_15 : decode cX4_permuted 15 = .ok (.i2l, 1) := by decide +kernel
theorem dX4_permuted_16 : decode cX4_permuted 16 = .ok (.lconst 0, 1) := by decide +kernel
theorem dX4_permuted_17 : decode cX4_permuted 17 = .ok (.ldc2_w 142, 3) := by decide +kernel
theorem dX4_permuted_20 : decode cX4_permuted 20 = .ok (.invokestatic 82, 3) := by decide +kernel
theorem dX4_permuted_23 : decode cX4_permuted 23 = .ok (.ifCond .eq 32, 3) := by decide +kernel
theorem dX4_permuted_26 : decode cX4_permuted 26 = .ok (.iload 4, 2) := by decide +kernel
theorem dX4_permuted_28 : decode cX4_permuted 28 = .ok (.i2l, 1) := by decide +kernel
theorem dX4_permuted_29 : decode cX4_permuted 29 = .ok (.iload 5, 2) := by decide +kernel
theorem dX4_permuted_31 : decode cX4_permuted 31 = .ok (.i2l, 1) := by decide +kernel
theorem dX4_permuted_32 : decode cX4_permuted 32 = .ok (.ladd, 1) := by decide +kernel
theorem dX4_permuted_33 : decode cX4_permuted 33 = .ok (.ldc2_w 144, 3) := by decide +kernel
theorem dX4_permuted_36 : decode cX4_permuted 36 = .ok (.lcmp, 1) := by decide +kernel
theorem dX4_permuted_37 : decode cX4_permuted 37 = .ok (.ifCond .gt 18, 3) := by decide +kernel
theorem dX4_permuted_40 : decode cX4_permuted 40 = .ok (.iload 6, 2) := by decide +kernel
theorem dX4_permuted_42 : decode cX4_permuted 42 = .ok (.i2l, 1) := by decide +kernel
theorem dX4_permuted_43 : decode cX4_permuted 43 = .ok (.lconst 0, 1) := by decide +kernel
theorem dX4_permuted_44 : decode cX4_permuted 44 = .ok (.iload 5, 2) := by decide +kernel
theorem dX4_permuted_46 : decode cX4_permuted 46 = .ok (.iconst 1, 1) := by decide +kernel
theorem dX4_permuted_47 : decode cX4_permuted 47 = .ok (.isub, 1) := by decide +kernel
theorem dX4_permuted_48 : decode cX4_permuted 48 = .ok (.i2l, 1) := by decide +kernel
theorem dX4_permuted_49 : decode cX4_permuted 49 = .ok (.invokestatic 82, 3) := by decide +kernel
theorem dX4_permuted_52 : decode cX4_permuted 52 = .ok (.ifCond .ne 5, 3) := by decide +kernel
theorem dX4_permuted_55 : decode cX4_permuted 55 = .ok (.iconst (-1), 1) := by decide +kernel
theorem dX4_permuted_56 : decode cX4_permuted 56 = .ok (.ireturn, 1) := by decide +kernel
theorem dX4_permuted_57 : decode cX4_permuted 57 = .ok (.iconst 0, 1) := by decide +kernel
theorem dX4_permuted_58 : decode cX4_permuted 58 = .ok (.istore 7, 2) := by decide +kernel
theorem dX4_permuted_60 : decode cX4_permuted 60 = .ok (.iload 7, 2) := by decide +kernel
theorem dX4_permuted_62 : decode cX4_permuted 62 = .ok (.iload 5, 2) := by decide +kernel
theorem dX4_permuted_64 : decode cX4_permuted 64 = .ok (.if_icmp .ge 18, 3) := by decide +kernel
theorem dX4_permuted_67 : decode cX4_permuted 67 = .ok (.aload_n 0, 1) := by decide +kernel
theorem dX4_permuted_68 : decode cX4_permuted 68 = .ok (.getfield 48, 3) := by decide +kernel
theorem dX4_permuted_71 : decode cX4_permuted 71 = .ok (.iload 7, 2) := by decide +kernel
theorem dX4_permuted_73 : decode cX4_permuted 73 = .ok (.iload 7, 2) := by decide +kernel
theorem dX4_permuted_75 : decode cX4_permuted 75 = .ok (.iastore, 1) := by decide +kernel
theorem dX4_permuted_76 : decode cX4_permuted 76 = .ok (.iinc 7 1, 3) := by decide +kernel
theorem dX4_permuted_79 : decode cX4_permuted 79 = .ok (.goto (-19), 3) := by decide +kernel
theorem dX4_permuted_82 : decode cX4_permuted 82 = .ok (.iload 5, 2) := by decide +kernel
theorem dX4_permuted_84 : decode cX4_permuted 84 = .ok (.iconst 1, 1) := by decide +kernel
theorem dX4_permuted_85 : decode cX4_permuted 85 = .ok (.isub, 1) := by decide +kernel
theorem dX4_permuted_86 : decode cX4_permuted 86 = .ok (.istore 7, 2) := by decide +kernel
theorem dX4_permuted_88 : decode cX4_permuted 88 = .ok (.iload 7, 2) := by decide +kernel
theorem dX4_permuted_90 : decode cX4_permuted 90 = .ok (.ifCond .le 71, 3) := by decide +kernel
theorem dX4_permuted_93 : decode cX4_permuted 93 = .ok (.aload_n 0, 1) := by decide +kernel
theorem dX4_permuted_94 : decode cX4_permuted 94 = .ok (.lload_n 1, 1) := by decide +kernel
theorem dX4_permuted_95 : decode cX4_permuted 95 = .ok (.iload_n 3, 1) := by decide +kernel
theorem dX4_permuted_96 : decode cX4_permuted 96 = .ok (.iload 4, 2) := by decide +kernel
theorem dX4_permuted_98 : decode cX4_permuted 98 = .ok (.iload 7, 2) := by decide +kernel
theorem dX4_permuted_100 : decode cX4_permuted 100 = .ok (.iadd, 1) := by decide +kernel
theorem dX4_permuted_101 : decode cX4_permuted 101 = .ok (.iload 7, 2) := by decide +kernel
theorem dX4_permuted_103 : decode cX4_permuted 103 = .ok (.i2l, 1) := by decide +kernel
theorem dX4_permuted_104 : decode cX4_permuted 104 = .ok (.lconst 1, 1) := by decide +kernel
theorem dX4_permuted_105 : decode cX4_permuted 105 = .ok (.ladd, 1) := by decide +kernel
theorem dX4_permuted_106 : decode cX4_permuted 106 = .ok (.invokevirtual 122, 3) := by decide +kernel
theorem dX4_permuted_109 : decode cX4_permuted 109 = .ok (.lstore 8, 2) := by decide +kernel
theorem dX4_permuted_111 : decode cX4_permuted 111 = .ok (.lload 8, 2) := by decide +kernel
theorem dX4_permuted_113 : decode cX4_permuted 113 = .ok (.lconst 0, 1) := by decide +kernel
theorem dX4_permuted_114 : decode cX4_permuted 114 = .ok (.lcmp, 1) := by decide +kernel
theorem dX4_permuted_115 : decode cX4_permuted 115 = .ok (.ifCond .ge 6, 3) := by decide +kernel
theorem dX4_permuted_118 : decode cX4_permuted 118 = .ok (.bipush (-3), 2) := by decide +kernel
theorem dX4_permuted_120 : decode cX4_permuted 120 = .ok (.ireturn, 1) := by decide +kernel
theorem dX4_permuted_121 : decode cX4_permuted 121 = .ok (.aload_n 0, 1) := by decide +kernel
theorem dX4_permuted_122 : decode cX4_permuted 122 = .ok (.getfield 48, 3) := by decide +kernel
theorem dX4_permuted_125 : decode cX4_permuted 125 = .ok (.iload 7, 2) := by decide +kernel
theorem dX4_permuted_127 : decode cX4_permuted 127 = .ok (.iaload, 1) := by decide +kernel
theorem dX4_permuted_128 : decode cX4_permuted 128 = .ok (.istore 10, 2) := by decide +kernel
theorem dX4_permuted_130 : decode cX4_permuted 130 = .ok (.aload_n 0, 1) := by decide +kernel
theorem dX4_permuted_131 : decode cX4_permuted 131 = .ok (.getfield 48, 3) := by decide +kernel
theorem dX4_permuted_134 : decode cX4_permuted 134 = .ok (.iload 7, 2) := by decide +kernel
theorem dX4_permuted_136 : decode cX4_permuted 136 = .ok (.aload_n 0, 1) := by decide +kernel
theorem dX4_permuted_137 : decode cX4_permuted 137 = .ok (.getfield 48, 3) := by decide +kernel
theorem dX4_permuted_140 : decode cX4_permuted 140 = .ok (.lload 8, 2) := by decide +kernel
theorem dX4_permuted_142 : decode cX4_permuted 142 = .ok (.l2i, 1) := by decide +kernel
theorem dX4_permuted_143 : decode cX4_permuted 143 = .ok (.iaload, 1) := by decide +kernel
theorem dX4_permuted_144 : decode cX4_permuted 144 = .ok (.iastore, 1) := by decide +kernel
theorem dX4_permuted_145 : decode cX4_permuted 145 = .ok (.aload_n 0, 1) := by decide +kernel
theorem dX4_permuted_146 : decode cX4_permuted 146 = .ok (.getfield 48, 3) := by decide +kernel
theorem dX4_permuted_149 : decode cX4_permuted 149 = .ok (.lload 8, 2) := by decide +kernel
theorem dX4_permuted_151 : decode cX4_permuted 151 = .ok (.l2i, 1) := by decide +kernel
theorem dX4_permuted_152 : decode cX4_permuted 152 = .ok (.iload 10, 2) := by decide +kernel
theorem dX4_permuted_154 : decode cX4_permuted 154 = .ok (.iastore, 1) := by decide +kernel
theorem dX4_permuted_155 : decode cX4_permuted 155 = .ok (.iinc 7 (-1), 3) := by decide +kernel
theorem dX4_permuted_158 : decode cX4_permuted 158 = .ok (.goto (-70), 3) := by decide +kernel
theorem dX4_permuted_161 : decode cX4_permuted 161 = .ok (.aload_n 0, 1) := by decide +kernel
theorem dX4_permuted_162 : decode cX4_permuted 162 = .ok (.getfield 48, 3) := by decide +kernel
theorem dX4_permuted_165 : decode cX4_permuted 165 = .ok (.iload 6, 2) := by decide +kernel
theorem dX4_permuted_167 : decode cX4_permuted 167 = .ok (.iaload, 1) := by decide +kernel
theorem dX4_permuted_168 : decode cX4_permuted 168 = .ok (.ireturn, 1) := by decide +kernel
theorem dX4_tries_0 : decode cX4_tries 0 = .ok (.aload_n 0, 1) := by decide +kernel
theorem dX4_tries_1 : decode cX4_tries 1 = .ok (.getfield 113, 3) := by decide +kernel
theorem dX4_tries_4 : decode cX4_tries 4 = .ok (.ireturn, 1) := by decide +kernel
theorem dX4_status_0 : decode cX4_status 0 = .ok (.aload_n 0, 1) := by decide +kernel
theorem dX4_status_1 : decode cX4_status 1 = .ok (.getfield 96, 3) := by decide +kernel
theorem dX4_status_4 : decode cX4_status 4 = .ok (.ireturn, 1) := by decide +kernel
set_option maxRecDepth 20000 in
theorem ggX4_isStream_X4_in : GoodIn wsX4_isStream wsX4_in := goodIn_r _ [5] (by decide +kernel) (by decide +kernel)
set_option maxRecDepth 20000 in
theorem gX4_isStream_X4_in : GoodIn wsX4_isStream (va_wsS RX4 82 yX4_in wsX4_in) := goodIn_app (goodIn_of _ (by decide +kernel)) ggX4_isStream_X4_in
theorem dX4_isStream_0 : decode cX4_isStream 0 = .ok (.iload_n 1, 1) := by decide +kernel
theorem dX4_isStream_1 : decode cX4_isStream 1 = .ok (.i2l, 1) := by decide +kernel
theorem dX4_isStream_2 : decode cX4_isStream 2 = .ok (.lconst 0, 1) := by decide +kernel
theorem dX4_isStream_3 : decode cX4_isStream 3 = .ok (.aload_n 0, 1) := by decide +kernel
theorem dX4_isStream_4 : decode cX4_isStream 4 = .ok (.getfield 146, 3) := by decide +kernel
theorem dX4_isStream_7 : decode cX4_isStream 7 = .ok (.iconst 1, 1) := by decide +kernel
theorem dX4_isStream_8 : decode cX4_isStream 8 = .ok (.isub, 1) := by decide +kernel
theorem dX4_isStream_9 : decode cX4_isStream 9 = .ok (.i2l, 1) := by decide +kernel
theorem dX4_isStream_10 : decode cX4_isStream 10 = .ok (.invokestatic 82, 3) := by decide +kernel
theorem dX4_isStream_13 : decode cX4_isStream 13 = .ok (.ireturn, 1) := by decide +kernel
theorem dX4_begin_0 : decode cX4_begin 0 = .ok (.aload_n 0, 1) := by decide +kernel
theorem dX4_begin_1 : decode cX4_begin 1 = .ok (.getfield 23, 3) := by decide +kernel
theorem dX4_begin_4 : decode cX4_begin 4 = .ok (.aload_n 0, 1) := by decide +kernel
theorem dX4_begin_5 : decode cX4_begin 5 = .ok (.getfield 146, 3) := by decide +kernel
theorem dX4_begin_8 : decode cX4_begin 8 = .ok (.lload_n 1, 1) := by decide +kernel
theorem dX4_begin_9 : decode cX4_begin 9 = .ok (.lastore, 1) := by decide +kernel
theorem dX4_begin_10 : decode cX4_begin 10 = .ok (.aload_n 0, 1) := by decide +kernel
theorem dX4_begin_11 : decode cX4_begin 11 = .ok (.getfield 26, 3) := by decide +kernel
theorem dX4_begin_14 : decode cX4_begin 14 = .ok (.aload_n 0, 1) := by decide +kernel
theorem dX4_begin_15 : decode cX4_begin 15 = .ok (.getfield 146, 3) := by decide +kernel
theorem dX4_begin_18 : decode cX4_begin 18 = .ok (.iload_n 3, 1) := by decide +kernel
theorem dX4_begin_19 : decode cX4_begin 19 = .ok (.iastore, 1) := by decide +kernel
theorem dX4_begin_20 : decode cX4_begin 20 = .ok (.aload_n 0, 1) := by decide +kernel
theorem dX4_begin_21 : decode cX4_begin 21 = .ok (.getfield 29, 3) := by decide +kernel
theorem dX4_begin_24 : decode cX4_begin 24 = .ok (.aload_n 0, 1) := by decide +kernel
theorem dX4_begin_25 : decode cX4_begin 25 = .ok (.getfield 146, 3) := by decide +kernel
theorem dX4_begin_28 : decode cX4_begin 28 = .ok (.iconst 0, 1) := by decide +kernel
theorem dX4_begin_29 : decode cX4_begin 29 = .ok (.iastore, 1) := by decide +kernel
theorem dX4_begin_30 : decode cX4_begin 30 = .ok (.aload_n 0, 1) := by decide +kernel
theorem dX4_begin_31 : decode cX4_begin 31 = .ok (.getfield 32, 3) := by decide +kernel
theorem dX4_begin_34 : decode cX4_begin 34 = .ok (.aload_n 0, 1) := by decide +kernel
theorem dX4_begin_35 : decode cX4_begin 35 = .ok (.getfield 146, 3) := by decide +kernel
theorem dX4_begin_38 : decode cX4_begin 38 = .ok (.iconst 0, 1) := by decide +kernel
theorem dX4_begin_39 : decode cX4_begin 39 = .ok (.iastore, 1) := by decide +kernel
theorem dX4_begin_40 : decode cX4_begin 40 = .ok (.aload_n 0, 1) := by decide +kernel
theorem dX4_begin_41 : decode cX4_begin 41 = .ok (.dup, 1) := by decide +kernel
theorem dX4_begin_42 : decode cX4_begin 42 = .ok (.getfield 146, 3) := by decide +kernel
theorem dX4_begin_45 : decode cX4_begin 45 = .ok (.iconst 1, 1) := by decide +kernel
theorem dX4_begin_46 : decode cX4_begin 46 = .ok (.iadd, 1) := by decide +kernel
theorem dX4_begin_47 : decode cX4_begin 47 = .ok (.putfield 146, 3) := by decide +kernel
theorem dX4_begin_50 : decode cX4_begin 50 = .ok (.aload_n 0, 1) := by decide +kernel
theorem dX4_begin_51 : decode cX4_begin 51 = .ok (.getfield 146, 3) := by decide +kernel
theorem dX4_begin_54 : decode cX4_begin 54 = .ok (.iconst 1, 1) := by decide +kernel
theorem dX4_begin_55 : decode cX4_begin 55 = .ok (.isub, 1) := by decide +kernel
theorem dX4_begin_56 : decode cX4_begin 56 = .ok (.ireturn, 1) := by decide +kernel
set_option maxRecDepth 20000 in
theorem ggX4_open_X4_isPath : GoodIn wsX4_open wsX4_isPath := goodIn_r _ [6, 7, 8, 9, 5, 10, 19, 20, 21, 22, 23, 24, 25, 26, 27, 28, 29, 30, 31, 32, 33, 34, 35, 36, 37, 38, 39] (by decide +kernel) (by decide +kernel)
set_option maxRecDepth 20000 in
theorem gX4_open_X4_isPath : GoodIn wsX4_open (wsV RX4 92 RX4 yX4_isPath wsX4_isPath) := goodIn_app (goodIn_of _ (by decide +kernel)) ggX4_open_X4_isPath
set_option maxRecDepth 20000 in
theorem ggX4_open_X4_begin : GoodIn wsX4_open wsX4_begin := goodIn_r _ [14, 15, 1, 16, 17, 18, 19, 20, 21, 22, 23, 24, 25, 26, 27, 28, 29, 30, 31, 32, 33, 34, 35, 36, 37, 38, 39] (by decide +kernel) (by decide +kernel)
set_option maxRecDepth 20000 in
theorem gX4_open_X4_begin : GoodIn wsX4_open (wsV RX4 149 RX4 yX4_begin wsX4_begin) := goodIn_app (goodIn_of _ (by decide +kernel)) ggX4_open_X4_begin
theorem dX4_open_0 : decode cX4_open 0 = .ok (.aload_n 0, 1) := by decide +kernel
theorem dX4_open_1 : decode cX4_open 1 = .ok (.iload_n 3, 1) := by decide +kernel
theorem dX4_open_2 : decode cX4_open 2 = .ok (.invokevirtual 92, 3) := by decide +kernel
theorem dX4_open_5 : decode cX4_open 5 = .ok (.ifCond .ne 5, 3) := by decide +kernel
theorem dX4_open_8 : decode cX4_open 8 = .ok (.iconst (-1), 1) := by decide +kernel
theorem dX4_open_9 : decode cX4_open 9 = .ok (.ireturn, 1) := by decide +kernel
theorem dX4_open_10 : decode cX4_open 10 = .ok (.aload_n 0, 1) := by decide +kernel
theorem dX4_open_11 : decode cX4_open 11 = .ok (.getfield 146, 3) := by decide +kernel
theorem dX4_open_14 : decode cX4_open 14 = .ok (.bipush 8, 2) := by decide +kernel
theorem dX4_open_16 : decode cX4_open 16 = .ok (.if_icmp .ne 8, 3) := by decide +kernel
theorem dX4_open_19 : decode cX4_open 19 = .ok (.bipush (-2), 2) := by decide +kernel
theorem dX4_open_21 : decode cX4_open 21 = .ok (.goto 9, 3) := by decide +kernel
theorem dX4_open_24 : decode cX4_open 24 = .ok (.aload_n 0, 1) := by decide +kernel
theorem dX4_open_25 : decode cX4_open 25 = .ok (.lload_n 1, 1) := by decide +kernel
theorem dX4_open_26 : decode cX4_open 26 = .ok (.iload_n 3, 1) := by decide +kernel
theorem dX4_open_27 : decode cX4_open 27 = .ok (.invokevirtual 149, 3) := by decide +kernel
theorem dX4_open_30 : decode cX4_open 30 = .ok (.ireturn, 1) := by decide +kernel
set_option maxRecDepth 20000 in
theorem ggX4_next_X4_isStream : GoodIn wsX4_next wsX4_isStream := goodIn_r _ [11, 12, 13, 14, 10, 15, 47, 48, 49, 50, 51, 52, 53, 54, 55, 56, 57, 58, 59, 60, 61, 62, 63, 64, 65, 66, 67] (by decide +kernel) (by decide +kernel)
set_option maxRecDepth 20000 in
theorem gX4_next_X4_isStream : GoodIn wsX4_next (wsV RX4 153 RX4 yX4_isStream wsX4_isStream) := goodIn_app (goodIn_of _ (by decide +kernel)) ggX4_next_X4_isStream
set_option maxRecDepth 20000 in
theorem ggX4_next_X4_draw : GoodIn wsX4_next wsX4_draw := goodIn_r _ [19, 20, 21, 22, 23, 24, 10, 25, 26, 27, 28, 29, 30, 31, 32, 33, 34, 35, 36, 37, 38, 39, 40, 41, 42, 43, 44, 45, 46, 47, 48, 49, 50, 51, 52, 53, 54, 55, 56, 57, 58, 59, 60, 61, 62, 63, 64, 65, 66, 67] (by decide +kernel) (by decide +kernel)
set_option maxRecDepth 20000 in
theorem gX4_next_X4_draw : GoodIn wsX4_next (wsV RX4 122 RX4 yX4_draw wsX4_draw) := goodIn_app (goodIn_of _ (by decide +kernel)) ggX4_next_X4_draw
theorem dX4_next_0 : decode cX4_next 0 = .ok (.lload_n 2, 1) := by decide +kernel
theorem dX4_next_1 : decode cX4_next 1 = .ok (.lconst 0, 1) := by decide +kernel
theorem dX4_next_2 : decode cX4_next 2 = .ok (.lcmp, 1) := by decide +kernel
theorem dX4_next_3 : decode cX4_next 3 = .ok (.ifCond .lt 22, 3) := by decide +kernel
theorem dX4_next_6 : decode cX4_next 6 = .ok (.aload_n 0, 1) := by decide +kernel
theorem dX4_next_7 : decode cX4_next 7 = .ok (.iload_n 1, 1) := by decide +kernel
theorem dX4_next_8 : decode cX4_next 8 = .ok (.invokevirtual 153, 3) := by decide +kernel
theorem dX4_next_11 : decode cX4_next 11 = .ok (.ifCond .eq 14, 3) := by decide +kernel
theorem dX4_next_14 : decode cX4_next 14 = .ok (.aload_n 0, 1) := by decide +kernel
theorem dX4_next_15 : decode cX4_next 15 = .ok (.getfield 29, 3) := by decide +kernel
theorem dX4_next_18 : decode cX4_next 18 = .ok (.iload_n 1, 1) := by decide +kernel
theorem dX4_next_19 : decode cX4_next 19 = .ok (.iaload, 1) := by decide +kernel
theorem dX4_next_20 : decode cX4_next 20 = .ok (.ldc 156, 2) := by decide +kernel
theorem dX4_next_22 : decode cX4_next 22 = .ok (.if_icmp .ne 7, 3) := by decide +kernel
theorem dX4_next_25 : decode cX4_next 25 = .ok (.ldc2_w 118, 3) := by decide +kernel
theorem dX4_next_28 : decode cX4_next 28 = .ok (.lreturn, 1) := by decide +kernel
theorem dX4_next_29 : decode cX4_next 29 = .ok (.lload_n 2, 1) := by decide +kernel
theorem dX4_next_30 : decode cX4_next 30 = .ok (.lconst 0, 1) := by decide +kernel
theorem dX4_next_31 : decode cX4_next 31 = .ok (.lcmp, 1) := by decide +kernel
theorem dX4_next_32 : decode cX4_next 32 = .ok (.ifCond .ne 7, 3) := by decide +kernel
theorem dX4_next_35 : decode cX4_next 35 = .ok (.ldc2_w 120, 3) := by decide +kernel
theorem dX4_next_38 : decode cX4_next 38 = .ok (.lreturn, 1) := by decide +kernel
theorem dX4_next_39 : decode cX4_next 39 = .ok (.aload_n 0, 1) := by decide +kernel
theorem dX4_next_40 : decode cX4_next 40 = .ok (.aload_n 0, 1) := by decide +kernel
theorem dX4_next_41 : decode cX4_next 41 = .ok (.getfield 23, 3) := by decide +kernel
theorem dX4_next_44 : decode cX4_next 44 = .ok (.iload_n 1, 1) := by decide +kernel
theorem dX4_next_45 : decode cX4_next 45 = .ok (.laload, 1) := by decide +kernel
theorem dX4_next_46 : decode cX4_next 46 = .ok (.aload_n 0, 1) := by decide +kernel
theorem dX4_next_47 : decode cX4_next 47 = .ok (.getfield 26, 3) := by decide +kernel
theorem dX4_next_50 : decode cX4_next 50 = .ok (.iload_n 1, 1) := by decide +kernel
theorem dX4_next_51 : decode cX4_next 51 = .ok (.iaload, 1) := by decide +kernel
theorem dX4_next_52 : decode cX4_next 52 = .ok (.aload_n 0, 1) := by decide +kernel
theorem dX4_next_53 : decode cX4_next 53 = .ok (.getfield 29, 3) := by decide +kernel
theorem dX4_next_56 : decode cX4_next 56 = .ok (.iload_n 1, 1) := by decide +kernel
theorem dX4_next_57 : decode cX4_next 57 = .ok (.iaload, 1) := by decide +kernel
theorem dX4_next_58 : decode cX4_next 58 = .ok (.lload_n 2, 1) := by decide +kernel
theorem dX4_next_59 : decode cX4_next 59 = .ok (.invokevirtual 122, 3) := by decide +kernel
theorem dX4_next_62 : decode cX4_next 62 = .ok (.lstore 4, 2) := by decide +kernel
theorem dX4_next_64 : decode cX4_next 64 = .ok (.aload_n 0, 1) := by decide +kernel
theorem dX4_next_65 : decode cX4_next 65 = .ok (.getfield 29, 3) := by decide +kernel
theorem dX4_next_68 : decode cX4_next 68 = .ok (.iload_n 1, 1) := by decide +kernel
theorem dX4_next_69 : decode cX4_next 69 = .ok (.dup2, 1) := by decide +kernel
theorem dX4_next_70 : decode cX4_next 70 = .ok (.iaload, 1) := by decide +kernel
theorem dX4_next_71 : decode cX4_next 71 = .ok (.iconst 1, 1) := by decide +kernel
theorem dX4_next_72 : decode cX4_next 72 = .ok (.iadd, 1) := by decide +kernel
theorem dX4_next_73 : decode cX4_next 73 = .ok (.iastore, 1) := by decide +kernel
theorem dX4_next_74 : decode cX4_next 74 = .ok (.lload 4, 2) := by decide +kernel
theorem dX4_next_76 : decode cX4_next 76 = .ok (.lreturn, 1) := by decide +kernel
set_option maxRecDepth 20000 in
theorem ggX4_nextPick_X4_isStream : GoodIn wsX4_nextPick wsX4_isStream := goodIn_r _ [10, 11, 12, 13, 9, 14, 55, 56, 57, 58, 59, 60, 61, 62, 63, 64, 65, 66, 67, 68, 69, 70, 71, 72, 73, 74, 75] (by decide +kernel) (by decide +kernel)
set_option maxRecDepth 20000 in
theorem gX4_nextPick_X4_isStream : GoodIn wsX4_nextPick (wsV RX4 153 RX4 yX4_isStream wsX4_isStream) := goodIn_app (goodIn_of _ (by decide +kernel)) ggX4_nextPick_X4_isStream
set_option maxRecDepth 20000 in
theorem ggX4_nextPick_X4_sum : GoodIn wsX4_nextPick wsX4_sum := goodIn_r _ [18, 3, 19, 55, 56, 57, 58, 59, 60, 61, 62, 63, 64, 65, 66, 67, 68, 69, 70, 71, 72, 73, 74, 75] (by decide +kernel) (by decide +kernel)
set_option maxRecDepth 20000 in
theorem gX4_nextPick_X4_sum : GoodIn wsX4_nextPick (wsV RX4 134 RX4 yX4_sum wsX4_sum) := goodIn_app (goodIn_of _ (by decide +kernel)) ggX4_nextPick_X4_sum
set_option maxRecDepth 20000 in
theorem ggX4_nextPick_X4_picked : GoodIn wsX4_nextPick wsX4_picked := goodIn_r _ [23, 19, 24, 25, 26, 9, 27, 28, 29, 30, 31, 32, 33, 34, 35, 36, 37, 38, 39, 40, 41, 42, 43, 44, 45, 46, 47, 48, 49, 50, 51, 52, 53, 54, 55, 56, 57, 58, 59, 60, 61, 62, 63, 64, 65, 66, 67, 68, 69, 70, 71, 72, 73, 74, 75] (by decide +kernel) (by decide +kernel)
set_option maxRecDepth 20000 in
theorem gX4_nextPick_X4_picked : GoodIn wsX4_nextPick (wsV RX4 138 RX4 yX4_picked wsX4_picked) := goodIn_app (goodIn_of _ (by decide +kernel)) ggX4_nextPick_X4_picked
theorem dX4_nextPick_0 : decode cX4_nextPick 0 = .ok (.aload_n 0, 1) := by decide +kernel
theorem dX4_nextPick_1 : decode cX4_nextPick 1 = .ok (.iload_n 1, 1) := by decide +kernel
theorem dX4_nextPick_2 : decode cX4_nextPick 2 = .ok (.invokevirtual 153, 3) := by decide +kernel
theorem dX4_nextPick_5 : decode cX4_nextPick 5 = .ok (.ifCond .eq 14, 3) := by decide +kernel
theorem dX4_nextPick_8 : decode cX4_nextPick 8 = .ok (.aload_n 0, 1) := by decide +kernel
theorem dX4_nextPick_9 : decode cX4_nextPick 9 = .ok (.getfield 29, 3) := by decide +kernel
theorem dX4_nextPick_12 : decode cX4_nextPick 12 = .ok (.iload_n 1, 1) := by decide +kernel
theorem dX4_nextPick_13 : decode cX4_nextPick 13 = .ok (.iaload, 1) := by decide +kernel
theorem dX4_nextPick_14 : decode cX4_nextPick 14 = .ok (.ldc 156, 2) := by decide +kernel
theorem dX4_nextPick_16 : decode cX4_nextPick 16 = .ok (.if_icmp .ne 5, 3) := by decide +kernel
theorem dX4_nextPick_19 : decode cX4_nextPick 19 = .ok (.iconst (-1), 1) := by decide +kernel
theorem dX4_nextPick_20 : decode cX4_nextPick 20 = .ok (.ireturn, 1) := by decide +kernel
theorem dX4_nextPick_21 : decode cX4_nextPick 21 = .ok (.aload_n 0, 1) := by decide +kernel
theorem dX4_nextPick_22 : decode cX4_nextPick 22 = .ok (.invokevirtual 134, 3) := by decide +kernel
theorem dX4_nextPick_25 : decode cX4_nextPick 25 = .ok (.lstore_n 2, 1) := by decide +kernel
theorem dX4_nextPick_26 : decode cX4_nextPick 26 = .ok (.aload_n 0, 1) := by decide +kernel
theorem dX4_nextPick_27 : decode cX4_nextPick 27 = .ok (.getfield 130, 3) := by decide +kernel
end
section
theorem dX4_nextPick_30 : decode cX4_nextPick 30 = .ok (.ifCond .ne 9, 3) := by decide +kernel
theorem dX4_nextPick_33 : decode cX4_nextPick 33 = .ok (.lload_n 2, 1) := by decide +kernel
theorem dX4_nextPick_34 : decode cX4_nextPick 34 = .ok (.lconst 0, 1) := by decide +kernel
theorem dX4_nextPick_35 : decode cX4_nextPick 35 = .ok (.lcmp, 1) := by decide +kernel
theorem dX4_nextPick_36 : decode cX4_nextPick 36 = .ok (.ifCond .ne 18, 3) := by decide +kernel
theorem dX4_nextPick_39 : decode cX4_nextPick 39 = .ok (.aload_n 0, 1) := by decide +kernel
theorem dX4_nextPick_40 : decode cX4_nextPick 40 = .ok (.getfield 130, 3) := by decide +kernel
theorem dX4_nextPick_43 : decode cX4_nextPick 43 = .ok (.ifCond .eq 8, 3) := by decide +kernel
theorem dX4_nextPick_46 : decode cX4_nextPick 46 = .ok (.bipush (-5), 2) := by decide +kernel
theorem dX4_nextPick_48 : decode cX4_nextPick 48 = .ok (.goto 5, 3) := by decide +kernel
theorem dX4_nextPick_51 : decode cX4_nextPick 51 = .ok (.bipush (-4), 2) := by decide +kernel
theorem dX4_nextPick_53 : decode cX4_nextPick 53 = .ok (.ireturn, 1) := by decide +kernel
theorem dX4_nextPick_54 : decode cX4_nextPick 54 = .ok (.aload_n 0, 1) := by decide +kernel
theorem dX4_nextPick_55 : decode cX4_nextPick 55 = .ok (.aload_n 0, 1) := by decide +kernel
theorem dX4_nextPick_56 : decode cX4_nextPick 56 = .ok (.getfield 23, 3) := by decide +kernel
theorem dX4_nextPick_59 : decode cX4_nextPick 59 = .ok (.iload_n 1, 1) := by decide +kernel
theorem dX4_nextPick_60 : decode cX4_nextPick 60 = .ok (.laload, 1) := by decide +kernel
theorem dX4_nextPick_61 : decode cX4_nextPick 61 = .ok (.aload_n 0, 1) := by decide +kernel
theorem dX4_nextPick_62 : decode cX4_nextPick 62 = .ok (.getfield 26, 3) := by decide +kernel
theorem dX4_nextPick_65 : decode cX4_nextPick 65 = .ok (.iload_n 1, 1) := by decide +kernel
theorem dX4_nextPick_66 : decode cX4_nextPick 66 = .ok (.iaload, 1) := by decide +kernel
theorem dX4_nextPick_67 : decode cX4_nextPick 67 = .ok (.aload_n 0, 1) := by decide +kernel
theorem dX4_nextPick_68 : decode cX4_nextPick 68 = .ok (.getfield 29, 3) := by decide +kernel
theorem dX4_nextPick_71 : decode cX4_nextPick 71 = .ok (.iload_n 1, 1) := by decide +kernel
theorem dX4_nextPick_72 : decode cX4_nextPick 72 = .ok (.iaload, 1) := by decide +kernel
theorem dX4_nextPick_73 : decode cX4_nextPick 73 = .ok (.lload_n 2, 1) := by decide +kernel
theorem dX4_nextPick_74 : decode cX4_nextPick 74 = .ok (.invokevirtual 138, 3) := by decide +kernel
theorem dX4_nextPick_77 : decode cX4_nextPick 77 = .ok (.istore 4, 2) := by decide +kernel
theorem dX4_nextPick_79 : decode cX4_nextPick 79 = .ok (.aload_n 0, 1) := by decide +kernel
theorem dX4_nextPick_80 : decode cX4_nextPick 80 = .ok (.getfield 29, 3) := by decide +kernel
theorem dX4_nextPick_83 : decode cX4_nextPick 83 = .ok (.iload_n 1, 1) := by decide +kernel
theorem dX4_nextPick_84 : decode cX4_nextPick 84 = .ok (.dup2, 1) := by decide +kernel
theorem dX4_nextPick_85 : decode cX4_nextPick 85 = .ok (.iaload, 1) := by decide +kernel
theorem dX4_nextPick_86 : decode cX4_nextPick 86 = .ok (.iconst 1, 1) := by decide +kernel
theorem dX4_nextPick_87 : decode cX4_nextPick 87 = .ok (.iadd, 1) := by decide +kernel
theorem dX4_nextPick_88 : decode cX4_nextPick 88 = .ok (.iastore, 1) := by decide +kernel
theorem dX4_nextPick_89 : decode cX4_nextPick 89 = .ok (.iload 4, 2) := by decide +kernel
theorem dX4_nextPick_91 : decode cX4_nextPick 91 = .ok (.ireturn, 1) := by decide +kernel
set_option maxRecDepth 20000 in
theorem ggX4_split_X4_isStream : GoodIn wsX4_split wsX4_isStream := goodIn_r _ [14, 2, 15, 16, 13, 17, 32, 33, 34, 35, 36, 37, 38, 39, 40, 41, 42, 43, 44, 45, 46, 47, 48, 49, 50, 51, 52] (by decide +kernel) (by decide +kernel)
set_option maxRecDepth 20000 in
theorem gX4_split_X4_isStream : GoodIn wsX4_split (wsV RX4 153 RX4 yX4_isStream wsX4_isStream) := goodIn_app (goodIn_of _ (by decide +kernel)) ggX4_split_X4_isStream
set_option maxRecDepth 20000 in
theorem ggX4_split_X4_takePath : GoodIn wsX4_split wsX4_takePath := goodIn_r _ [21, 22, 3, 4, 7, 6, 23, 24, 25, 13, 26, 32, 33, 34, 35, 36, 37, 38, 39, 40, 41, 42, 43, 44, 45, 46, 47, 48, 49, 50, 51, 52] (by decide +kernel) (by decide +kernel)
set_option maxRecDepth 20000 in
theorem gX4_split_X4_takePath : GoodIn wsX4_split (wsV RX4 79 RX4 yX4_takePath wsX4_takePath) := goodIn_app (goodIn_of _ (by decide +kernel)) ggX4_split_X4_takePath
set_option maxRecDepth 20000 in
theorem ggX4_split_X4_begin : GoodIn wsX4_split wsX4_begin := goodIn_r _ [30, 9, 2, 1, 31, 8, 32, 33, 34, 35, 36, 37, 38, 39, 40, 41, 42, 43, 44, 45, 46, 47, 48, 49, 50, 51, 52] (by decide +kernel) (by decide +kernel)
set_option maxRecDepth 20000 in
theorem gX4_split_X4_begin : GoodIn wsX4_split (wsV RX4 149 RX4 yX4_begin wsX4_begin) := goodIn_app (goodIn_of _ (by decide +kernel)) ggX4_split_X4_begin
theorem dX4_split_0 : decode cX4_split 0 = .ok (.aload_n 0, 1) := by decide +kernel
theorem dX4_split_1 : decode cX4_split 1 = .ok (.iload_n 1, 1) := by decide +kernel
theorem dX4_split_2 : decode cX4_split 2 = .ok (.invokevirtual 153, 3) := by decide +kernel
theorem dX4_split_5 : decode cX4_split 5 = .ok (.ifCond .ne 5, 3) := by decide +kernel
theorem dX4_split_8 : decode cX4_split 8 = .ok (.iconst (-1), 1) := by decide +kernel
theorem dX4_split_9 : decode cX4_split 9 = .ok (.ireturn, 1) := by decide +kernel
theorem dX4_split_10 : decode cX4_split 10 = .ok (.aload_n 0, 1) := by decide +kernel
theorem dX4_split_11 : decode cX4_split 11 = .ok (.getfield 26, 3) := by decide +kernel
theorem dX4_split_14 : decode cX4_split 14 = .ok (.iload_n 1, 1) := by decide +kernel
theorem dX4_split_15 : decode cX4_split 15 = .ok (.iaload, 1) := by decide +kernel
theorem dX4_split_16 : decode cX4_split 16 = .ok (.istore_n 2, 1) := by decide +kernel
theorem dX4_split_17 : decode cX4_split 17 = .ok (.aload_n 0, 1) := by decide +kernel
theorem dX4_split_18 : decode cX4_split 18 = .ok (.getfield 146, 3) := by decide +kernel
theorem dX4_split_21 : decode cX4_split 21 = .ok (.bipush 8, 2) := by decide +kernel
theorem dX4_split_23 : decode cX4_split 23 = .ok (.if_icmp .eq 13, 3) := by decide +kernel
theorem dX4_split_26 : decode cX4_split 26 = .ok (.aload_n 0, 1) := by decide +kernel
theorem dX4_split_27 : decode cX4_split 27 = .ok (.getfield 13, 3) := by decide +kernel
theorem dX4_split_30 : decode cX4_split 30 = .ok (.iload_n 2, 1) := by decide +kernel
theorem dX4_split_31 : decode cX4_split 31 = .ok (.iaload, 1) := by decide +kernel
theorem dX4_split_32 : decode cX4_split 32 = .ok (.iconst 4, 1) := by decide +kernel
theorem dX4_split_33 : decode cX4_split 33 = .ok (.if_icmp .ne 6, 3) := by decide +kernel
theorem dX4_split_36 : decode cX4_split 36 = .ok (.bipush (-2), 2) := by decide +kernel
theorem dX4_split_38 : decode cX4_split 38 = .ok (.ireturn, 1) := by decide +kernel
theorem dX4_split_39 : decode cX4_split 39 = .ok (.aload_n 0, 1) := by decide +kernel
theorem dX4_split_40 : decode cX4_split 40 = .ok (.getfield 68, 3) := by decide +kernel
theorem dX4_split_43 : decode cX4_split 43 = .ok (.istore_n 3, 1) := by decide +kernel
theorem dX4_split_44 : decode cX4_split 44 = .ok (.iconst 0, 1) := by decide +kernel
theorem dX4_split_45 : decode cX4_split 45 = .ok (.istore 4, 2) := by decide +kernel
theorem dX4_split_47 : decode cX4_split 47 = .ok (.iload 4, 2) := by decide +kernel
theorem dX4_split_49 : decode cX4_split 49 = .ok (.iconst 4, 1) := by decide +kernel
theorem dX4_split_50 : decode cX4_split 50 = .ok (.if_icmp .ge 23, 3) := by decide +kernel
theorem dX4_split_53 : decode cX4_split 53 = .ok (.aload_n 0, 1) := by decide +kernel
theorem dX4_split_54 : decode cX4_split 54 = .ok (.getfield 51, 3) := by decide +kernel
theorem dX4_split_57 : decode cX4_split 57 = .ok (.iload 4, 2) := by decide +kernel
theorem dX4_split_59 : decode cX4_split 59 = .ok (.aload_n 0, 1) := by decide +kernel
theorem dX4_split_60 : decode cX4_split 60 = .ok (.getfield 17, 3) := by decide +kernel
theorem dX4_split_63 : decode cX4_split 63 = .ok (.iload 4, 2) := by decide +kernel
theorem dX4_split_65 : decode cX4_split 65 = .ok (.laload, 1) := by decide +kernel
theorem dX4_split_66 : decode cX4_split 66 = .ok (.lastore, 1) := by decide +kernel
theorem dX4_split_67 : decode cX4_split 67 = .ok (.iinc 4 1, 3) := by decide +kernel
theorem dX4_split_70 : decode cX4_split 70 = .ok (.goto (-23), 3) := by decide +kernel
theorem dX4_split_73 : decode cX4_split 73 = .ok (.aload_n 0, 1) := by decide +kernel
theorem dX4_split_74 : decode cX4_split 74 = .ok (.aload_n 0, 1) := by decide +kernel
theorem dX4_split_75 : decode cX4_split 75 = .ok (.getfield 13, 3) := by decide +kernel
theorem dX4_split_78 : decode cX4_split 78 = .ok (.iload_n 2, 1) := by decide +kernel
theorem dX4_split_79 : decode cX4_split 79 = .ok (.iaload, 1) := by decide +kernel
theorem dX4_split_80 : decode cX4_split 80 = .ok (.iconst 1, 1) := by decide +kernel
theorem dX4_split_81 : decode cX4_split 81 = .ok (.iadd, 1) := by decide +kernel
theorem dX4_split_82 : decode cX4_split 82 = .ok (.putfield 68, 3) := by decide +kernel
theorem dX4_split_85 : decode cX4_split 85 = .ok (.iconst 0, 1) := by decide +kernel
theorem dX4_split_86 : decode cX4_split 86 = .ok (.istore 4, 2) := by decide +kernel
theorem dX4_split_88 : decode cX4_split 88 = .ok (.iload 4, 2) := by decide +kernel
theorem dX4_split_90 : decode cX4_split 90 = .ok (.aload_n 0, 1) := by decide +kernel
theorem dX4_split_91 : decode cX4_split 91 = .ok (.getfield 13, 3) := by decide +kernel
theorem dX4_split_94 : decode cX4_split 94 = .ok (.iload_n 2, 1) := by decide +kernel
theorem dX4_split_95 : decode cX4_split 95 = .ok (.iaload, 1) := by decide +kernel
theorem dX4_split_96 : decode cX4_split 96 = .ok (.if_icmp .ge 27, 3) := by decide +kernel
theorem dX4_split_99 : decode cX4_split 99 = .ok (.aload_n 0, 1) := by decide +kernel
theorem dX4_split_100 : decode cX4_split 100 = .ok (.getfield 17, 3) := by decide +kernel
theorem dX4_split_103 : decode cX4_split 103 = .ok (.iload 4, 2) := by decide +kernel
theorem dX4_split_105 : decode cX4_split 105 = .ok (.aload_n 0, 1) := by decide +kernel
theorem dX4_split_106 : decode cX4_split 106 = .ok (.getfield 7, 3) := by decide +kernel
theorem dX4_split_109 : decode cX4_split 109 = .ok (.iconst 4, 1) := by decide +kernel
theorem dX4_split_110 : decode cX4_split 110 = .ok (.iload_n 2, 1) := by decide +kernel
theorem dX4_split_111 : decode cX4_split 111 = .ok (.imul, 1) := by decide +kernel
theorem dX4_split_112 : decode cX4_split 112 = .ok (.iload 4, 2) := by decide +kernel
theorem dX4_split_114 : decode cX4_split 114 = .ok (.iadd, 1) := by decide +kernel
theorem dX4_split_115 : decode cX4_split 115 = .ok (.laload, 1) := by decide +kernel
theorem dX4_split_116 : decode cX4_split 116 = .ok (.lastore, 1) := by decide +kernel
theorem dX4_split_117 : decode cX4_split 117 = .ok (.iinc 4 1, 3) := by decide +kernel
theorem dX4_split_120 : decode cX4_split 120 = .ok (.goto (-32), 3) := by decide +kernel
theorem dX4_split_123 : decode cX4_split 123 = .ok (.aload_n 0, 1) := by decide +kernel
theorem dX4_split_124 : decode cX4_split 124 = .ok (.getfield 17, 3) := by decide +kernel
theorem dX4_split_127 : decode cX4_split 127 = .ok (.aload_n 0, 1) := by decide +kernel
theorem dX4_split_128 : decode cX4_split 128 = .ok (.getfield 13, 3) := by decide +kernel
theorem dX4_split_131 : decode cX4_split 131 = .ok (.iload_n 2, 1) := by decide +kernel
theorem dX4_split_132 : decode cX4_split 132 = .ok (.iaload, 1) := by decide +kernel
theorem dX4_split_133 : decode cX4_split 133 = .ok (.aload_n 0, 1) := by decide +kernel
theorem dX4_split_134 : decode cX4_split 134 = .ok (.getfield 32, 3) := by decide +kernel
theorem dX4_split_137 : decode cX4_split 137 = .ok (.iload_n 1, 1) := by decide +kernel
theorem dX4_split_138 : decode cX4_split 138 = .ok (.iaload, 1) := by decide +kernel
theorem dX4_split_139 : decode cX4_split 139 = .ok (.i2l, 1) := by decide +kernel
theorem dX4_split_140 : decode cX4_split 140 = .ok (.lastore, 1) := by decide +kernel
theorem dX4_split_141 : decode cX4_split 141 = .ok (.aload_n 0, 1) := by decide +kernel
theorem dX4_split_142 : decode cX4_split 142 = .ok (.invokevirtual 79, 3) := by decide +kernel
theorem dX4_split_145 : decode cX4_split 145 = .ok (.istore 4, 2) := by decide +kernel
theorem dX4_split_147 : decode cX4_split 147 = .ok (.aload_n 0, 1) := by decide +kernel
theorem dX4_split_148 : decode cX4_split 148 = .ok (.iload_n 3, 1) := by decide +kernel
theorem dX4_split_149 : decode cX4_split 149 = .ok (.putfield 68, 3) := by decide +kernel
theorem dX4_split_152 : decode cX4_split 152 = .ok (.iconst 0, 1) := by decide +kernel
theorem dX4_split_153 : decode cX4_split 153 = .ok (.istore 5, 2) := by decide +kernel
theorem dX4_split_155 : decode cX4_split 155 = .ok (.iload 5, 2) := by decide +kernel
theorem dX4_split_157 : decode cX4_split 157 = .ok (.iconst 4, 1) := by decide +kernel
theorem dX4_split_158 : decode cX4_split 158 = .ok (.if_icmp .ge 23, 3) := by decide +kernel
theorem dX4_split_161 : decode cX4_split 161 = .ok (.aload_n 0, 1) := by decide +kernel
theorem dX4_split_162 : decode cX4_split 162 = .ok (.getfield 17, 3) := by decide +kernel
theorem dX4_split_165 : decode cX4_split 165 = .ok (.iload 5, 2) := by decide +kernel
theorem dX4_split_167 : decode cX4_split 167 = .ok (.aload_n 0, 1) := by decide +kernel
theorem dX4_split_168 : decode cX4_split 168 = .ok (.getfield 51, 3) := by decide +kernel
theorem dX4_split_171 : decode cX4_split 171 = .ok (.iload 5, 2) := by decide +kernel
theorem dX4_split_173 : decode cX4_split 173 = .ok (.laload, 1) := by decide +kernel
theorem dX4_split_174 : decode cX4_split 174 = .ok (.lastore, 1) := by decide +kernel
theorem dX4_split_175 : decode cX4_split 175 = .ok (.iinc 5 1, 3) := by decide +kernel
theorem dX4_split_178 : decode cX4_split 178 = .ok (.goto (-23), 3) := by decide +kernel
theorem dX4_split_181 : decode cX4_split 181 = .ok (.iload 4, 2) := by decide +kernel
theorem dX4_split_183 : decode cX4_split 183 = .ok (.ifCond .ge 6, 3) := by decide +kernel
theorem dX4_split_186 : decode cX4_split 186 = .ok (.bipush (-2), 2) := by decide +kernel
theorem dX4_split_188 : decode cX4_split 188 = .ok (.ireturn, 1) := by decide +kernel
theorem dX4_split_189 : decode cX4_split 189 = .ok (.aload_n 0, 1) := by decide +kernel
theorem dX4_split_190 : decode cX4_split 190 = .ok (.getfield 32, 3) := by decide +kernel
theorem dX4_split_193 : decode cX4_split 193 = .ok (.iload_n 1, 1) := by decide +kernel
theorem dX4_split_194 : decode cX4_split 194 = .ok (.dup2, 1) := by decide +kernel
theorem dX4_split_195 : decode cX4_split 195 = .ok (.iaload, 1) := by decide +kernel
theorem dX4_split_196 : decode cX4_split 196 = .ok (.iconst 1, 1) := by decide +kernel
theorem dX4_split_197 : decode cX4_split 197 = .ok (.iadd, 1) := by decide +kernel
theorem dX4_split_198 : decode cX4_split 198 = .ok (.iastore, 1) := by decide +kernel
theorem dX4_split_199 : decode cX4_split 199 = .ok (.aload_n 0, 1) := by decide +kernel
theorem dX4_split_200 : decode cX4_split 200 = .ok (.aload_n 0, 1) := by decide +kernel
theorem dX4_split_201 : decode cX4_split 201 = .ok (.getfield 23, 3) := by decide +kernel
theorem dX4_split_204 : decode cX4_split 204 = .ok (.iload_n 1, 1) := by decide +kernel
theorem dX4_split_205 : decode cX4_split 205 = .ok (.laload, 1) := by decide +kernel
theorem dX4_split_206 : decode cX4_split 206 = .ok (.iload 4, 2) := by decide +kernel
theorem dX4_split_208 : decode cX4_split 208 = .ok (.invokevirtual 149, 3) := by decide +kernel
theorem dX4_split_211 : decode cX4_split 211 = .ok (.ireturn, 1) := by decide +kernel
set_option maxRecDepth 20000 in
theorem ggX4_skip_X4_isStream : GoodIn wsX4_skip wsX4_isStream := goodIn_r _ [8, 9, 10, 11, 7, 12, 13, 14, 15, 16, 17, 18, 19, 20, 21, 22, 23, 24, 25, 26, 27, 28, 29, 30, 31, 32, 33] (by decide +kernel) (by decide +kernel)
set_option maxRecDepth 20000 in
theorem gX4_skip_X4_isStream : GoodIn wsX4_skip (wsV RX4 153 RX4 yX4_isStream wsX4_isStream) := goodIn_app (goodIn_of _ (by decide +kernel)) ggX4_skip_X4_isStream
set_option maxRecDepth 20000 in
theorem ggX4_skip_X4_in : GoodIn wsX4_skip wsX4_in := goodIn_r _ [12] (by decide +kernel) (by decide +kernel)
set_option maxRecDepth 20000 in
theorem gX4_skip_X4_in : GoodIn wsX4_skip (va_wsS RX4 82 yX4_in wsX4_in) := goodIn_app (goodIn_of _ (by decide +kernel)) ggX4_skip_X4_in
theorem dX4_skip_0 : decode cX4_skip 0 = .ok (.aload_n 0, 1) := by decide +kernel
theorem dX4_skip_1 : decode cX4_skip 1 = .ok (.iload_n 1, 1) := by decide +kernel
theorem dX4_skip_2 : decode cX4_skip 2 = .ok (.invokevirtual 153, 3) := by decide +kernel
theorem dX4_skip_5 : decode cX4_skip 5 = .ok (.ifCond .eq 32, 3) := by decide +kernel
theorem dX4_skip_8 : decode cX4_skip 8 = .ok (.iload_n 2, 1) := by decide +kernel
theorem dX4_skip_9 : decode cX4_skip 9 = .ok (.i2l, 1) := by decide +kernel
theorem dX4_skip_10 : decode cX4_skip 10 = .ok (.lconst 0, 1) := by decide +kernel
theorem dX4_skip_11 : decode cX4_skip 11 = .ok (.ldc2_w 157, 3) := by decide +kernel
theorem dX4_skip_14 : decode cX4_skip 14 = .ok (.invokestatic 82, 3) := by decide +kernel
theorem dX4_skip_17 : decode cX4_skip 17 = .ok (.ifCond .eq 20, 3) := by decide +kernel
theorem dX4_skip_20 : decode cX4_skip 20 = .ok (.aload_n 0, 1) := by decide +kernel
theorem dX4_skip_21 : decode cX4_skip 21 = .ok (.getfield 29, 3) := by decide +kernel
theorem dX4_skip_24 : decode cX4_skip 24 = .ok (.iload_n 1, 1) := by decide +kernel
theorem dX4_skip_25 : decode cX4_skip 25 = .ok (.iaload, 1) := by decide +kernel
theorem dX4_skip_26 : decode cX4_skip 26 = .ok (.i2l, 1) := by decide +kernel
theorem dX4_skip_27 : decode cX4_skip 27 = .ok (.iload_n 2, 1) := by decide +kernel
theorem dX4_skip_28 : decode cX4_skip 28 = .ok (.i2l, 1) := by decide +kernel
theorem dX4_skip_29 : decode cX4_skip 29 = .ok (.ladd, 1) := by decide +kernel
theorem dX4_skip_30 : decode cX4_skip 30 = .ok (.ldc2_w 144, 3) := by decide +kernel
theorem dX4_skip_33 : decode cX4_skip 33 = .ok (.lcmp, 1) := by decide +kernel
theorem dX4_skip_34 : decode cX4_skip 34 = .ok (.ifCond .le 5, 3) := by decide +kernel
theorem dX4_skip_37 : decode cX4_skip 37 = .ok (.iconst (-1), 1) := by decide +kernel
theorem dX4_skip_38 : decode cX4_skip 38 = .ok (.ireturn, 1) := by decide +kernel
theorem dX4_skip_39 : decode cX4_skip 39 = .ok (.aload_n 0, 1) := by decide +kernel
theorem dX4_skip_40 : decode cX4_skip 40 = .ok (.getfield 29, 3) := by decide +kernel
theorem dX4_skip_43 : decode cX4_skip 43 = .ok (.iload_n 1, 1) := by decide +kernel
theorem dX4_skip_44 : decode cX4_skip 44 = .ok (.dup2, 1) := by decide +kernel
theorem dX4_skip_45 : decode cX4_skip 45 = .ok (.iaload, 1) := by decide +kernel
theorem dX4_skip_46 : decode cX4_skip 46 = .ok (.iload_n 2, 1) := by decide +kernel
theorem dX4_skip_47 : decode cX4_skip 47 = .ok (.iadd, 1) := by decide +kernel
theorem dX4_skip_48 : decode cX4_skip 48 = .ok (.iastore, 1) := by decide +kernel
theorem dX4_skip_49 : decode cX4_skip 49 = .ok (.aload_n 0, 1) := by decide +kernel
theorem dX4_skip_50 : decode cX4_skip 50 = .ok (.getfield 29, 3) := by decide +kernel
theorem dX4_skip_53 : decode cX4_skip 53 = .ok (.iload_n 1, 1) := by decide +kernel
theorem dX4_skip_54 : decode cX4_skip 54 = .ok (.iaload, 1) := by decide +kernel
theorem dX4_skip_55 : decode cX4_skip 55 = .ok (.ireturn, 1) := by decide +kernel
set_option maxRecDepth 20000 in
theorem ggX4_keep_X4_in : GoodIn wsX4_keep wsX4_in := goodIn_r _ [11] (by decide +kernel) (by decide +kernel)
set_option maxRecDepth 20000 in
theorem gX4_keep_X4_in : GoodIn wsX4_keep (va_wsS RX4 82 yX4_in wsX4_in) := goodIn_app (goodIn_of _ (by decide +kernel)) ggX4_keep_X4_in
set_option maxRecDepth 20000 in
theorem ggX4_keep_X4_isStream : GoodIn wsX4_keep wsX4_isStream := goodIn_r _ [15, 16, 8, 9, 10, 11, 17, 18, 19, 20, 21, 22, 23, 24, 25, 26, 27, 28, 29, 30, 31, 32, 33, 34, 35, 36, 37] (by decide +kernel) (by decide +kernel)
set_option maxRecDepth 20000 in
theorem gX4_keep_X4_isStream : GoodIn wsX4_keep (wsV RX4 153 RX4 yX4_isStream wsX4_isStream) := goodIn_app (goodIn_of _ (by decide +kernel)) ggX4_keep_X4_isStream
theorem dX4_keep_0 : decode cX4_keep 0 = .ok (.iload_n 1, 1) := by decide +kernel
theorem dX4_keep_1 : decode cX4_keep 1 = .ok (.i2l, 1) := by decide +kernel
theorem dX4_keep_2 : decode cX4_keep 2 = .ok (.lconst 0, 1) := by decide +kernel
theorem dX4_keep_3 : decode cX4_keep 3 = .ok (.ldc2_w 159, 3) := by decide +kernel
theorem dX4_keep_6 : decode cX4_keep 6 = .ok (.invokestatic 82, 3) := by decide +kernel
theorem dX4_keep_9 : decode cX4_keep 9 = .ok (.ifCond .eq 11, 3) := by decide +kernel
theorem dX4_keep_12 : decode cX4_keep 12 = .ok (.aload_n 0, 1) := by decide +kernel
theorem dX4_keep_13 : decode cX4_keep 13 = .ok (.iload_n 2, 1) := by decide +kernel
theorem dX4_keep_14 : decode cX4_keep 14 = .ok (.invokevirtual 153, 3) := by decide +kernel
theorem dX4_keep_17 : decode cX4_keep 17 = .ok (.ifCond .ne 5, 3) := by decide +kernel
theorem dX4_keep_20 : decode cX4_keep 20 = .ok (.iconst (-1), 1) := by decide +kernel
theorem dX4_keep_21 : decode cX4_keep 21 = .ok (.ireturn, 1) := by decide +kernel
theorem dX4_keep_22 : decode cX4_keep 22 = .ok (.aload_n 0, 1) := by decide +kernel
theorem dX4_keep_23 : decode cX4_keep 23 = .ok (.getfield 44, 3) := by decide +kernel
theorem dX4_keep_26 : decode cX4_keep 26 = .ok (.iload_n 1, 1) := by decide +kernel
theorem dX4_keep_27 : decode cX4_keep 27 = .ok (.iconst 1, 1) := by decide +kernel
theorem dX4_keep_28 : decode cX4_keep 28 = .ok (.bastore, 1) := by decide +kernel
theorem dX4_keep_29 : decode cX4_keep 29 = .ok (.aload_n 0, 1) := by decide +kernel
theorem dX4_keep_30 : decode cX4_keep 30 = .ok (.getfield 35, 3) := by decide +kernel
theorem dX4_keep_33 : decode cX4_keep 33 = .ok (.iload_n 1, 1) := by decide +kernel
theorem dX4_keep_34 : decode cX4_keep 34 = .ok (.iload_n 2, 1) := by decide +kernel
theorem dX4_keep_35 : decode cX4_keep 35 = .ok (.iastore, 1) := by decide +kernel
theorem dX4_keep_36 : decode cX4_keep 36 = .ok (.aload_n 0, 1) := by decide +kernel
theorem dX4_keep_37 : decode cX4_keep 37 = .ok (.getfield 38, 3) := by decide +kernel
theorem dX4_keep_40 : decode cX4_keep 40 = .ok (.iload_n 1, 1) := by decide +kernel
theorem dX4_keep_41 : decode cX4_keep 41 = .ok (.aload_n 0, 1) := by decide +kernel
theorem dX4_keep_42 : decode cX4_keep 42 = .ok (.getfield 29, 3) := by decide +kernel
theorem dX4_keep_45 : decode cX4_keep 45 = .ok (.iload_n 2, 1) := by decide +kernel
theorem dX4_keep_46 : decode cX4_keep 46 = .ok (.iaload, 1) := by decide +kernel
theorem dX4_keep_47 : decode cX4_keep 47 = .ok (.iastore, 1) := by decide +kernel
theorem dX4_keep_48 : decode cX4_keep 48 = .ok (.aload_n 0, 1) := by decide +kernel
theorem dX4_keep_49 : decode cX4_keep 49 = .ok (.getfield 41, 3) := by decide +kernel
theorem dX4_keep_52 : decode cX4_keep 52 = .ok (.iload_n 1, 1) := by decide +kernel
theorem dX4_keep_53 : decode cX4_keep 53 = .ok (.aload_n 0, 1) := by decide +kernel
theorem dX4_keep_54 : decode cX4_keep 54 = .ok (.getfield 32, 3) := by decide +kernel
theorem dX4_keep_57 : decode cX4_keep 57 = .ok (.iload_n 2, 1) := by decide +kernel
theorem dX4_keep_58 : decode cX4_keep 58 = .ok (.iaload, 1) := by decide +kernel
theorem dX4_keep_59 : decode cX4_keep 59 = .ok (.iastore, 1) := by decide +kernel
theorem dX4_keep_60 : decode cX4_keep 60 = .ok (.aload_n 0, 1) := by decide +kernel
theorem dX4_keep_61 : decode cX4_keep 61 = .ok (.getfield 29, 3) := by decide +kernel
theorem dX4_keep_64 : decode cX4_keep 64 = .ok (.iload_n 2, 1) := by decide +kernel
theorem dX4_keep_65 : decode cX4_keep 65 = .ok (.iaload, 1) := by decide +kernel
theorem dX4_keep_66 : decode cX4_keep 66 = .ok (.ireturn, 1) := by decide +kernel
set_option maxRecDepth 20000 in
theorem ggX4_back_X4_in : GoodIn wsX4_back wsX4_in := goodIn_r _ [11] (by decide +kernel) (by decide +kernel)
set_option maxRecDepth 20000 in
theorem gX4_back_X4_in : GoodIn wsX4_back (va_wsS RX4 82 yX4_in wsX4_in) := goodIn_app (goodIn_of _ (by decide +kernel)) ggX4_back_X4_in
theorem dX4_back_0 : decode cX4_back 0 = .ok (.iload_n 1, 1) := by decide +kernel
theorem dX4_back_1 : decode cX4_back 1 = .ok (.i2l, 1) := by decide +kernel
theorem dX4_back_2 : decode cX4_back 2 = .ok (.lconst 0, 1) := by decide +kernel
theorem dX4_back_3 : decode cX4_back 3 = .ok (.ldc2_w 159, 3) := by decide +kernel
theorem dX4_back_6 : decode cX4_back 6 = .ok (.invokestatic 82, 3) := by decide +kernel
theorem dX4_back_9 : decode cX4_back 9 = .ok (.ifCond .ne 5, 3) := by decide +kernel
theorem dX4_back_12 : decode cX4_back 12 = .ok (.iconst (-1), 1) := by decide +kernel
theorem dX4_back_13 : decode cX4_back 13 = .ok (.ireturn, 1) := by decide +kernel
theorem dX4_back_14 : decode cX4_back 14 = .ok (.aload_n 0, 1) := by decide +kernel
theorem dX4_back_15 : decode cX4_back 15 = .ok (.getfield 44, 3) := by decide +kernel
theorem dX4_back_18 : decode cX4_back 18 = .ok (.iload_n 1, 1) := by decide +kernel
theorem dX4_back_19 : decode cX4_back 19 = .ok (.baload, 1) := by decide +kernel
theorem dX4_back_20 : decode cX4_back 20 = .ok (.ifCond .ne 6, 3) := by decide +kernel
theorem dX4_back_23 : decode cX4_back 23 = .ok (.bipush (-3), 2) := by decide +kernel
theorem dX4_back_25 : decode cX4_back 25 = .ok (.ireturn, 1) := by decide +kernel
theorem dX4_back_26 : decode cX4_back 26 = .ok (.aload_n 0, 1) := by decide +kernel
theorem dX4_back_27 : decode cX4_back 27 = .ok (.getfield 35, 3) := by decide +kernel
theorem dX4_back_30 : decode cX4_back 30 = .ok (.iload_n 1, 1) := by decide +kernel
theorem dX4_back_31 : decode cX4_back 31 = .ok (.iaload, 1) := by decide +kernel
theorem dX4_back_32 : decode cX4_back 32 = .ok (.istore_n 2, 1) := by decide +kernel
theorem dX4_back_33 : decode cX4_back 33 = .ok (.aload_n 0, 1) := by decide +kernel
theorem dX4_back_34 : decode cX4_back 34 = .ok (.getfield 29, 3) := by decide +kernel
theorem dX4_back_37 : decode cX4_back 37 = .ok (.iload_n 2, 1) := by decide +kernel
theorem dX4_back_38 : decode cX4_back 38 = .ok (.aload_n 0, 1) := by decide +kernel
theorem dX4_back_39 : decode cX4_back 39 = .ok (.getfield 38, 3) := by decide +kernel
theorem dX4_back_42 : decode cX4_back 42 = .ok (.iload_n 1, 1) := by decide +kernel
theorem dX4_back_43 : decode cX4_back 43 = .ok (.iaload, 1) := by decide +kernel
theorem dX4_back_44 : decode cX4_back 44 = .ok (.iastore, 1) := by decide +kernel
theorem dX4_back_45 : decode cX4_back 45 = .ok (.aload_n 0, 1) := by decide +kernel
theorem dX4_back_46 : decode cX4_back 46 = .ok (.getfield 32, 3) := by decide +kernel
theorem dX4_back_49 : decode cX4_back 49 = .ok (.iload_n 2, 1) := by decide +kernel
theorem dX4_back_50 : decode cX4_back 50 = .ok (.aload_n 0, 1) := by decide +kernel
theorem dX4_back_51 : decode cX4_back 51 = .ok (.getfield 41, 3) := by decide +kernel
theorem dX4_back_54 : decode cX4_back 54 = .ok (.iload_n 1, 1) := by decide +kernel
theorem dX4_back_55 : decode cX4_back 55 = .ok (.iaload, 1) := by decide +kernel
theorem dX4_back_56 : decode cX4_back 56 = .ok (.iastore, 1) := by decide +kernel
theorem dX4_back_57 : decode cX4_back 57 = .ok (.iload_n 2, 1) := by decide +kernel
theorem dX4_back_58 : decode cX4_back 58 = .ok (.ireturn, 1) := by decide +kernel
set_option maxRecDepth 20000 in
theorem ggX4_told_X4_isStream : GoodIn wsX4_told wsX4_isStream := goodIn_r _ [9, 10, 11, 12, 8, 13, 14, 15, 16, 17, 18, 19, 20, 21, 22, 23, 24, 25, 26, 27, 28, 29, 30, 31, 32, 33, 34] (by decide +kernel) (by decide +kernel)
set_option maxRecDepth 20000 in
theorem gX4_told_X4_isStream : GoodIn wsX4_told (wsV RX4 153 RX4 yX4_isStream wsX4_isStream) := goodIn_app (goodIn_of _ (by decide +kernel)) ggX4_told_X4_isStream
set_option maxRecDepth 20000 in
theorem ggX4_told_X4_in : GoodIn wsX4_told wsX4_in := goodIn_r _ [13] (by decide +kernel) (by decide +kernel)
set_option maxRecDepth 20000 in
theorem gX4_told_X4_in : GoodIn wsX4_told (va_wsS RX4 82 yX4_in wsX4_in) := goodIn_app (goodIn_of _ (by decide +kernel)) ggX4_told_X4_in
theorem dX4_told_0 : decode cX4_told 0 = .ok (.aload_n 0, 1) := by decide +kernel
theorem dX4_told_1 : decode cX4_told 1 = .ok (.iload_n 1, 1) := by decide +kernel
theorem dX4_told_2 : decode cX4_told 2 = .ok (.invokevirtual 153, 3) := by decide +kernel
theorem dX4_told_5 : decode cX4_told 5 = .ok (.ifCond .eq 15, 3) := by decide +kernel
theorem dX4_told_8 : decode cX4_told 8 = .ok (.iload_n 2, 1) := by decide +kernel
theorem dX4_told_9 : decode cX4_told 9 = .ok (.i2l, 1) := by decide +kernel
theorem dX4_told_10 : decode cX4_told 10 = .ok (.lconst 0, 1) := by decide +kernel
theorem dX4_told_11 : decode cX4_told 11 = .ok (.ldc2_w 126, 3) := by decide +kernel
theorem dX4_told_14 : decode cX4_told 14 = .ok (.invokestatic 82, 3) := by decide +kernel
theorem dX4_told_17 : decode cX4_told 17 = .ok (.ifCond .ne 5, 3) := by decide +kernel
theorem dX4_told_20 : decode cX4_told 20 = .ok (.iconst (-1), 1) := by decide +kernel
theorem dX4_told_21 : decode cX4_told 21 = .ok (.ireturn, 1) := by decide +kernel
theorem dX4_told_22 : decode cX4_told 22 = .ok (.iload_n 2, 1) := by decide +kernel
theorem dX4_told_23 : decode cX4_told 23 = .ok (.ifCond .ne 12, 3) := by decide +kernel
theorem dX4_told_26 : decode cX4_told 26 = .ok (.aload_n 0, 1) := by decide +kernel
theorem dX4_told_27 : decode cX4_told 27 = .ok (.getfield 26, 3) := by decide +kernel
theorem dX4_told_30 : decode cX4_told 30 = .ok (.iload_n 1, 1) := by decide +kernel
theorem dX4_told_31 : decode cX4_told 31 = .ok (.iaload, 1) := by decide +kernel
theorem dX4_told_32 : decode cX4_told 32 = .ok (.goto 23, 3) := by decide +kernel
theorem dX4_told_35 : decode cX4_told 35 = .ok (.iload_n 2, 1) := by decide +kernel
theorem dX4_told_36 : decode cX4_told 36 = .ok (.iconst 1, 1) := by decide +kernel
theorem dX4_told_37 : decode cX4_told 37 = .ok (.if_icmp .ne 12, 3) := by decide +kernel
theorem dX4_told_40 : decode cX4_told 40 = .ok (.aload_n 0, 1) := by decide +kernel
theorem dX4_told_41 : decode cX4_told 41 = .ok (.getfield 29, 3) := by decide +kernel
theorem dX4_told_44 : decode cX4_told 44 = .ok (.iload_n 1, 1) := by decide +kernel
theorem dX4_told_45 : decode cX4_told 45 = .ok (.iaload, 1) := by decide +kernel
theorem dX4_told_46 : decode cX4_told 46 = .ok (.goto 9, 3) := by decide +kernel
theorem dX4_told_49 : decode cX4_told 49 = .ok (.aload_n 0, 1) := by decide +kernel
theorem dX4_told_50 : decode cX4_told 50 = .ok (.getfield 32, 3) := by decide +kernel
theorem dX4_told_53 : decode cX4_told 53 = .ok (.iload_n 1, 1) := by decide +kernel
theorem dX4_told_54 : decode cX4_told 54 = .ok (.iaload, 1) := by decide +kernel
theorem dX4_told_55 : decode cX4_told 55 = .ok (.ireturn, 1) := by decide +kernel
set_option maxRecDepth 20000 in
theorem ggX4_counted_X4_in : GoodIn wsX4_counted wsX4_in := goodIn_r _ [6] (by decide +kernel) (by decide +kernel)
set_option maxRecDepth 20000 in
theorem gX4_counted_X4_in : GoodIn wsX4_counted (va_wsS RX4 82 yX4_in wsX4_in) := goodIn_app (goodIn_of _ (by decide +kernel)) ggX4_counted_X4_in
theorem dX4_counted_0 : decode cX4_counted 0 = .ok (.iload_n 1, 1) := by decide +kernel
theorem dX4_counted_1 : decode cX4_counted 1 = .ok (.i2l, 1) := by decide +kernel
theorem dX4_counted_2 : decode cX4_counted 2 = .ok (.lconst 1, 1) := by decide +kernel
theorem dX4_counted_3 : decode cX4_counted 3 = .ok (.ldc2_w 161, 3) := by decide +kernel
theorem dX4_counted_6 : decode cX4_counted 6 = .ok (.invokestatic 82, 3) := by decide +kernel
theorem dX4_counted_9 : decode cX4_counted 9 = .ok (.ifCond .eq 28, 3) := by decide +kernel
theorem dX4_counted_12 : decode cX4_counted 12 = .ok (.iload_n 2, 1) := by decide +kernel
theorem dX4_counted_13 : decode cX4_counted 13 = .ok (.i2l, 1) := by decide +kernel
theorem dX4_counted_14 : decode cX4_counted 14 = .ok (.lconst 1, 1) := by decide +kernel
theorem dX4_counted_15 : decode cX4_counted 15 = .ok (.ldc2_w 163, 3) := by decide +kernel
theorem dX4_counted_18 : decode cX4_counted 18 = .ok (.invokestatic 82, 3) := by decide +kernel
theorem dX4_counted_21 : decode cX4_counted 21 = .ok (.ifCond .eq 16, 3) := by decide +kernel
theorem dX4_counted_24 : decode cX4_counted 24 = .ok (.iload_n 3, 1) := by decide +kernel
theorem dX4_counted_25 : decode cX4_counted 25 = .ok (.i2l, 1) := by decide +kernel
theorem dX4_counted_26 : decode cX4_counted 26 = .ok (.lconst 0, 1) := by decide +kernel
theorem dX4_counted_27 : decode cX4_counted 27 = .ok (.iload_n 2, 1) := by decide +kernel
theorem dX4_counted_28 : decode cX4_counted 28 = .ok (.iconst 1, 1) := by decide +kernel
theorem dX4_counted_29 : decode cX4_counted 29 = .ok (.isub, 1) := by decide +kernel
theorem dX4_counted_30 : decode cX4_counted 30 = .ok (.i2l, 1) := by decide +kernel
theorem dX4_counted_31 : decode cX4_counted 31 = .ok (.invokestatic 82, 3) := by decide +kernel
theorem dX4_counted_34 : decode cX4_counted 34 = .ok (.ifCond .ne 5, 3) := by decide +kernel
theorem dX4_counted_37 : decode cX4_counted 37 = .ok (.iconst (-1), 1) := by decide +kernel
theorem dX4_counted_38 : decode cX4_counted 38 = .ok (.ireturn, 1) := by decide +kernel
theorem dX4_counted_39 : decode cX4_counted 39 = .ok (.iconst 1, 1) := by decide +kernel
theorem dX4_counted_40 : decode cX4_counted 40 = .ok (.iload_n 1, 1) := by decide +kernel
theorem dX4_counted_41 : decode cX4_counted 41 = .ok (.ishl, 1) := by decide +kernel
theorem dX4_counted_42 : decode cX4_counted 42 = .ok (.iload_n 2, 1) := by decide +kernel
theorem dX4_counted_43 : decode cX4_counted 43 = .ok (.idiv, 1) := by decide +kernel
theorem dX4_counted_44 : decode cX4_counted 44 = .ok (.ireturn, 1) := by decide +kernel
theorem dX4_count_0 : decode cX4_count 0 = .ok (.iload_n 1, 1) := by decide +kernel
theorem dX4_count_1 : decode cX4_count 1 = .ok (.ifCond .ne 10, 3) := by decide +kernel
theorem dX4_count_4 : decode cX4_count 4 = .ok (.aload_n 0, 1) := by decide +kernel
theorem dX4_count_5 : decode cX4_count 5 = .ok (.getfield 72, 3) := by decide +kernel
theorem dX4_count_8 : decode cX4_count 8 = .ok (.goto 28, 3) := by decide +kernel
theorem dX4_count_11 : decode cX4_count 11 = .ok (.iload_n 1, 1) := by decide +kernel
theorem dX4_count_12 : decode cX4_count 12 = .ok (.iconst 1, 1) := by decide +kernel
theorem dX4_count_13 : decode cX4_count 13 = .ok (.if_icmp .ne 10, 3) := by decide +kernel
theorem dX4_count_16 : decode cX4_count 16 = .ok (.aload_n 0, 1) := by decide +kernel
theorem dX4_count_17 : decode cX4_count 17 = .ok (.getfield 146, 3) := by decide +kernel
theorem dX4_count_20 : decode cX4_count 20 = .ok (.goto 16, 3) := by decide +kernel
theorem dX4_count_23 : decode cX4_count 23 = .ok (.iload_n 1, 1) := by decide +kernel
theorem dX4_count_24 : decode cX4_count 24 = .ok (.iconst 2, 1) := by decide +kernel
theorem dX4_count_25 : decode cX4_count 25 = .ok (.if_icmp .ne 10, 3) := by decide +kernel
theorem dX4_count_28 : decode cX4_count 28 = .ok (.aload_n 0, 1) := by decide +kernel
theorem dX4_count_29 : decode cX4_count 29 = .ok (.getfield 68, 3) := by decide +kernel
theorem dX4_count_32 : decode cX4_count 32 = .ok (.goto 4, 3) := by decide +kernel
theorem dX4_count_35 : decode cX4_count 35 = .ok (.iconst (-1), 1) := by decide +kernel
theorem dX4_count_36 : decode cX4_count 36 = .ok (.ireturn, 1) := by decide +kernel
end
section
theorem dL_cell_0 : decode cL_cell 0 = .ok (.iload_n 1, 1) := by decide +kernel
theorem dL_cell_1 : decode cL_cell 1 = .ok (.aload_n 0, 1) := by decide +kernel
theorem dL_cell_2 : decode cL_cell 2 = .ok (.arraylength, 1) := by decide +kernel
theorem dL_cell_3 : decode cL_cell 3 = .ok (.if_icmp .ge 9, 3) := by decide +kernel
theorem dL_cell_6 : decode cL_cell 6 = .ok (.aload_n 0, 1) := by decide +kernel
theorem dL_cell_7 : decode cL_cell 7 = .ok (.iload_n 1, 1) := by decide +kernel
theorem dL_cell_8 : decode cL_cell 8 = .ok (.iaload, 1) := by decide +kernel
theorem dL_cell_9 : decode cL_cell 9 = .ok (.goto 4, 3) := by decide +kernel
theorem dL_cell_12 : decode cL_cell 12 = .ok (.iconst 0, 1) := by decide +kernel
theorem dL_cell_13 : decode cL_cell 13 = .ok (.ireturn, 1) := by decide +kernel
set_option maxRecDepth 20000 in
theorem ggL_law_L_cell : GoodIn wsL_law wsL_cell := goodIn_r _ [10] (by decide +kernel) (by decide +kernel)
set_option maxRecDepth 20000 in
theorem gL_law_L_cell : GoodIn wsL_law (va_wsS RL 9 yL_cell wsL_cell) := goodIn_app (goodIn_of _ (by decide +kernel)) ggL_law_L_cell
set_option maxRecDepth 20000 in
theorem ggL_law_X3_init : GoodIn wsL_law wsX3_init := goodIn_r _ [13, 14, 15, 16, 17, 18, 19, 20, 21, 22, 23, 24, 25, 26, 27, 28, 29, 30, 31, 32, 33, 34, 35, 36, 37, 38, 39, 40, 41, 42, 418, 419, 420, 421, 422, 423, 424, 425, 426, 427, 428, 450, 451, 452, 453, 454] (by decide +kernel) (by decide +kernel)
set_option maxRecDepth 20000 in
theorem gL_law_X3_init : GoodIn wsL_law (wsX3_init) := ggL_law_X3_init
set_option maxRecDepth 20000 in
theorem ggL_law_X4_init : GoodIn wsL_law wsX4_init := goodIn_r _ [45, 46, 15, 16, 17, 47, 25, 48, 49, 50, 51, 52, 53, 54, 55, 56, 57, 58, 59, 60, 61, 62, 429, 430, 431, 432, 433, 434, 435, 436, 437, 438, 439, 440, 441, 442, 443, 444, 445, 446, 447, 448, 449] (by decide +kernel) (by decide +kernel)
set_option maxRecDepth 20000 in
theorem gL_law_X4_init : GoodIn wsL_law (wsX4_init) := ggL_law_X4_init
set_option maxRecDepth 20000 in
theorem ggL_law_X3_part : GoodIn wsL_law wsX3_part := goodIn_r _ [66, 19, 18, 418, 419, 420, 421, 422, 423, 424, 425, 426, 427, 428] (by decide +kernel) (by decide +kernel)
set_option maxRecDepth 20000 in
theorem gL_law_X3_part : GoodIn wsL_law (wsV RL 23 RX3 yX3_part wsX3_part) := goodIn_app (goodIn_of _ (by decide +kernel)) ggL_law_X3_part
set_option maxRecDepth 20000 in
theorem ggL_law_X4_part : GoodIn wsL_law wsX4_part := goodIn_r _ [70, 71, 49, 429, 430, 431, 432, 433, 434, 435, 436, 437, 438, 439, 440, 441, 442, 443, 444, 445, 446, 447, 448, 449] (by decide +kernel) (by decide +kernel)
set_option maxRecDepth 20000 in
theorem gL_law_X4_part : GoodIn wsL_law (wsV RL 27 RX4 yX4_part wsX4_part) := goodIn_app (goodIn_of _ (by decide +kernel)) ggL_law_X4_part
set_option maxRecDepth 20000 in
theorem ggL_law_X3_path : GoodIn wsL_law wsX3_path := goodIn_r _ [75, 19, 23, 18, 76, 77, 78, 22, 79, 42, 80, 81, 82, 83, 39, 38, 84, 85, 86, 87, 88, 40, 89, 2, 90, 91, 92, 418, 419, 420, 421, 422, 423, 424, 425, 426, 427, 428, 450, 451, 452, 453, 454] (by decide +kernel) (by decide +kernel)
set_option maxRecDepth 20000 in
theorem gL_law_X3_path : GoodIn wsL_law (wsV RL 28 RX3 yX3_path wsX3_path) := goodIn_app (goodIn_of _ (by decide +kernel)) ggL_law_X3_path
set_option maxRecDepth 20000 in
theorem ggL_law_X4_path : GoodIn wsL_law wsX4_path := goodIn_r _ [96, 71, 97, 98, 99, 5, 100, 101, 48, 47, 49, 102, 103, 104, 105, 429, 430, 431, 432, 433, 434, 435, 436, 437, 438, 439, 440, 441, 442, 443, 444, 445, 446, 447, 448, 449] (by decide +kernel) (by decide +kernel)
set_option maxRecDepth 20000 in
theorem gL_law_X4_path : GoodIn wsL_law (wsV RL 32 RX4 yX4_path wsX4_path) := goodIn_app (goodIn_of _ (by decide +kernel)) ggL_law_X4_path
set_option maxRecDepth 20000 in
theorem ggL_law_X3_key : GoodIn wsL_law wsX3_key := goodIn_r _ [109, 23, 33, 110, 111, 112, 113, 22, 114, 42, 418, 419, 420, 421, 422, 423, 424, 425, 426, 427, 428, 450, 451, 452, 453, 454] (by decide +kernel) (by decide +kernel)
set_option maxRecDepth 20000 in
theorem gL_law_X3_key : GoodIn wsL_law (wsV RL 33 RX3 yX3_key wsX3_key) := goodIn_app (goodIn_of _ (by decide +kernel)) ggL_law_X3_key
set_option maxRecDepth 20000 in
theorem ggL_law_X4_key : GoodIn wsL_law wsX4_key := goodIn_r _ [118, 119, 120, 121, 122, 5, 123, 101, 124, 125, 126, 127, 128, 129, 130, 48, 131, 47, 132, 133, 134, 135, 136, 429, 430, 431, 432, 433, 434, 435, 436, 437, 438, 439, 440, 441, 442, 443, 444, 445, 446, 447, 448, 449] (by decide +kernel) (by decide +kernel)
set_option maxRecDepth 20000 in
theorem gL_law_X4_key : GoodIn wsL_law (wsV RL 37 RX4 yX4_key wsX4_key) := goodIn_app (goodIn_of _ (by decide +kernel)) ggL_law_X4_key
set_option maxRecDepth 20000 in
theorem ggL_law_X3_word : GoodIn wsL_law wsX3_word := goodIn_r _ [140, 23, 33, 111, 112, 113, 22, 114, 42, 141, 142, 143, 2, 144, 34, 145, 110, 146, 89, 90, 91, 92, 147, 148, 149, 418, 419, 420, 421, 422, 423, 424, 425, 426, 427, 428, 450, 451, 452, 453, 454] (by decide +kernel) (by decide +kernel)
set_option maxRecDepth 20000 in
theorem gL_law_X3_word : GoodIn wsL_law (wsV RL 38 RX3 yX3_word wsX3_word) := goodIn_app (goodIn_of _ (by decide +kernel)) ggL_law_X3_word
set_option maxRecDepth 20000 in
theorem ggL_law_X4_word : GoodIn wsL_law wsX4_word := goodIn_r _ [153, 119, 120, 121, 122, 5, 123, 101, 124, 125, 126, 154, 155, 156, 157, 62, 131, 127, 128, 129, 130, 48, 47, 132, 133, 134, 135, 136, 429, 430, 431, 432, 433, 434, 435, 436, 437, 438, 439, 440, 441, 442, 443, 444, 445, 446, 447, 448, 449] (by decide +kernel) (by decide +kernel)
set_option maxRecDepth 20000 in
theorem gL_law_X4_word : GoodIn wsL_law (wsV RL 42 RX4 yX4_word wsX4_word) := goodIn_app (goodIn_of _ (by decide +kernel)) ggL_law_X4_word
set_option maxRecDepth 20000 in
theorem ggL_law_X3_span : GoodIn wsL_law wsX3_span := goodIn_r _ [161, 162, 23, 163, 111, 112, 113, 22, 114, 42, 164, 165, 166, 2, 167, 32, 168, 141, 142, 143, 144, 34, 145, 110, 146, 89, 90, 91, 92, 169, 170, 171, 172, 173, 174, 175, 176, 177, 178, 179, 147, 148, 149, 418, 419, 420, 421, 422, 423, 424, 425, 426, 427, 428, 450, 451, 452, 453, 454] (by decide +kernel) (by decide +kernel)
set_option maxRecDepth 20000 in
theorem gL_law_X3_span : GoodIn wsL_law (wsV RL 43 RX3 yX3_span wsX3_span) := goodIn_app (goodIn_of _ (by decide +kernel)) ggL_law_X3_span
set_option maxRecDepth 20000 in
theorem ggL_law_X4_span : GoodIn wsL_law wsX4_span := goodIn_r _ [183, 184, 185, 120, 121, 122, 5, 123, 101, 124, 125, 126, 186, 187, 188, 189, 190, 191, 192, 193, 194, 195, 196, 197, 198, 199, 154, 155, 156, 157, 62, 131, 127, 128, 129, 130, 48, 47, 132, 133, 134, 135, 136, 429, 430, 431, 432, 433, 434, 435, 436, 437, 438, 439, 440, 441, 442, 443, 444, 445, 446, 447, 448, 449] (by decide +kernel) (by decide +kernel)
set_option maxRecDepth 20000 in
theorem gL_law_X4_span : GoodIn wsL_law (wsV RL 47 RX4 yX4_span wsX4_span) := goodIn_app (goodIn_of _ (by decide +kernel)) ggL_law_X4_span
set_option maxRecDepth 20000 in
theorem ggL_law_X3_fraction : GoodIn wsL_law wsX3_fraction := goodIn_r _ [203, 23, 111, 112, 113, 22, 114, 42, 204, 205, 206, 2, 207, 32, 141, 142, 143, 144, 34, 145, 110, 146, 89, 90, 91, 92, 169, 170, 171, 172, 147, 148, 149, 418, 419, 420, 421, 422, 423, 424, 425, 426, 427, 428, 450, 451, 452, 453, 454] (by decide +kernel) (by decide +kernel)
set_option maxRecDepth 20000 in
theorem gL_law_X3_fraction : GoodIn wsL_law (wsV RL 48 RX3 yX3_fraction wsX3_fraction) := goodIn_app (goodIn_of _ (by decide +kernel)) ggL_law_X3_fraction
set_option maxRecDepth 20000 in
theorem ggL_law_X4_fraction : GoodIn wsL_law wsX4_fraction := goodIn_r _ [211, 191, 190, 212, 120, 121, 122, 5, 123, 101, 124, 125, 126, 154, 155, 156, 157, 62, 131, 127, 128, 129, 130, 48, 47, 132, 133, 134, 135, 136, 429, 430, 431, 432, 433, 434, 435, 436, 437, 438, 439, 440, 441, 442, 443, 444, 445, 446, 447, 448, 449] (by decide +kernel) (by decide +kernel)
set_option maxRecDepth 20000 in
theorem gL_law_X4_fraction : GoodIn wsL_law (wsV RL 52 RX4 yX4_fraction wsX4_fraction) := goodIn_app (goodIn_of _ (by decide +kernel)) ggL_law_X4_fraction
set_option maxRecDepth 20000 in
theorem ggL_law_X3_weight : GoodIn wsL_law wsX3_weight := goodIn_r _ [216, 24, 418, 419, 420, 421, 422, 423, 424, 425, 426, 427, 428] (by decide +kernel) (by decide +kernel)
set_option maxRecDepth 20000 in
theorem gL_law_X3_weight : GoodIn wsL_law (wsV RL 53 RX3 yX3_weight wsX3_weight) := goodIn_app (goodIn_of _ (by decide +kernel)) ggL_law_X3_weight
set_option maxRecDepth 20000 in
theorem ggL_law_X4_weight : GoodIn wsL_law wsX4_weight := goodIn_r _ [220, 221, 50, 124, 125, 5, 126, 429, 430, 431, 432, 433, 434, 435, 436, 437, 438, 439, 440, 441, 442, 443, 444, 445, 446, 447, 448, 449] (by decide +kernel) (by decide +kernel)
set_option maxRecDepth 20000 in
theorem gL_law_X4_weight : GoodIn wsL_law (wsV RL 57 RX4 yX4_weight wsX4_weight) := goodIn_app (goodIn_of _ (by decide +kernel)) ggL_law_X4_weight
set_option maxRecDepth 20000 in
theorem ggL_law_X3_pick : GoodIn wsL_law wsX3_pick := goodIn_r _ [225, 23, 111, 112, 113, 22, 114, 42, 226, 227, 228, 2, 229, 230, 231, 232, 233, 24, 234, 164, 165, 166, 167, 32, 168, 141, 142, 143, 144, 34, 145, 110, 146, 89, 90, 91, 92, 169, 170, 171, 172, 173, 174, 175, 176, 177, 178, 179, 147, 148, 149, 235, 236, 237, 238, 418, 419, 420, 421, 422, 423, 424, 425, 426, 427, 428, 450, 451, 452, 453, 454] (by decide +kernel) (by decide +kernel)
set_option maxRecDepth 20000 in
theorem gL_law_X3_pick : GoodIn wsL_law (wsV RL 58 RX3 yX3_pick wsX3_pick) := goodIn_app (goodIn_of _ (by decide +kernel)) ggL_law_X3_pick
set_option maxRecDepth 20000 in
theorem ggL_law_X4_pick : GoodIn wsL_law wsX4_pick := goodIn_r _ [242, 243, 120, 121, 122, 5, 123, 101, 124, 125, 126, 244, 245, 246, 247, 50, 248, 249, 250, 251, 186, 187, 188, 189, 190, 191, 192, 193, 194, 195, 196, 197, 198, 199, 154, 155, 156, 157, 62, 131, 127, 128, 129, 130, 48, 47, 132, 133, 134, 135, 136, 429, 430, 431, 432, 433, 434, 435, 436, 437, 438, 439, 440, 441, 442, 443, 444, 445, 446, 447, 448, 449] (by decide +kernel) (by decide +kernel)
set_option maxRecDepth 20000 in
theorem gL_law_X4_pick : GoodIn wsL_law (wsV RL 62 RX4 yX4_pick wsX4_pick) := goodIn_app (goodIn_of _ (by decide +kernel)) ggL_law_X4_pick
set_option maxRecDepth 20000 in
theorem ggL_law_X3_permuted : GoodIn wsL_law wsX3_permuted := goodIn_r _ [255, 23, 256, 26, 111, 112, 113, 22, 114, 42, 257, 258, 259, 2, 260, 164, 165, 166, 167, 32, 168, 141, 142, 143, 144, 34, 145, 110, 146, 89, 90, 91, 92, 169, 170, 171, 172, 173, 174, 175, 176, 177, 178, 179, 147, 148, 149, 418, 419, 420, 421, 422, 423, 424, 425, 426, 427, 428, 450, 451, 452, 453, 454] (by decide +kernel) (by decide +kernel)
set_option maxRecDepth 20000 in
theorem gL_law_X3_permuted : GoodIn wsL_law (wsV RL 63 RX3 yX3_permuted wsX3_permuted) := goodIn_app (goodIn_of _ (by decide +kernel)) ggL_law_X3_permuted
set_option maxRecDepth 20000 in
theorem ggL_law_X4_permuted : GoodIn wsL_law wsX4_permuted := goodIn_r _ [264, 265, 266, 60, 120, 121, 122, 5, 123, 101, 124, 125, 126, 186, 187, 188, 189, 190, 191, 192, 193, 194, 195, 196, 197, 198, 199, 154, 155, 156, 157, 62, 131, 127, 128, 129, 130, 48, 47, 132, 133, 134, 135, 136, 429, 430, 431, 432, 433, 434, 435, 436, 437, 438, 439, 440, 441, 442, 443, 444, 445, 446, 447, 448, 449] (by decide +kernel) (by decide +kernel)
set_option maxRecDepth 20000 in
theorem gL_law_X4_permuted : GoodIn wsL_law (wsV RL 67 RX4 yX4_permuted wsX4_permuted) := goodIn_app (goodIn_of _ (by decide +kernel)) ggL_law_X4_permuted
set_option maxRecDepth 20000 in
theorem ggL_law_X3_tries : GoodIn wsL_law wsX3_tries := goodIn_r _ [270, 32, 418, 419, 420, 421, 422, 423, 424, 425, 426, 427, 428] (by decide +kernel) (by decide +kernel)
set_option maxRecDepth 20000 in
theorem gL_law_X3_tries : GoodIn wsL_law (wsV RL 68 RX3 yX3_tries wsX3_tries) := goodIn_app (goodIn_of _ (by decide +kernel)) ggL_law_X3_tries
set_option maxRecDepth 20000 in
theorem ggL_law_X4_tries : GoodIn wsL_law wsX4_tries := goodIn_r _ [274, 191, 429, 430, 431, 432, 433, 434, 435, 436, 437, 438, 439, 440, 441, 442, 443, 444, 445, 446, 447, 448, 449] (by decide +kernel) (by decide +kernel)
set_option maxRecDepth 20000 in
theorem gL_law_X4_tries : GoodIn wsL_law (wsV RL 71 RX4 yX4_tries wsX4_tries) := goodIn_app (goodIn_of _ (by decide +kernel)) ggL_law_X4_tries
set_option maxRecDepth 20000 in
theorem ggL_law_X3_status : GoodIn wsL_law wsX3_status := goodIn_r _ [278, 33, 418, 419, 420, 421, 422, 423, 424, 425, 426, 427, 428] (by decide +kernel) (by decide +kernel)
set_option maxRecDepth 20000 in
theorem gL_law_X3_status : GoodIn wsL_law (wsV RL 72 RX3 yX3_status wsX3_status) := goodIn_app (goodIn_of _ (by decide +kernel)) ggL_law_X3_status
set_option maxRecDepth 20000 in
theorem ggL_law_X4_status : GoodIn wsL_law wsX4_status := goodIn_r _ [282, 119, 429, 430, 431, 432, 433, 434, 435, 436, 437, 438, 439, 440, 441, 442, 443, 444, 445, 446, 447, 448, 449] (by decide +kernel) (by decide +kernel)
set_option maxRecDepth 20000 in
theorem gL_law_X4_status : GoodIn wsL_law (wsV RL 75 RX4 yX4_status wsX4_status) := goodIn_app (goodIn_of _ (by decide +kernel)) ggL_law_X4_status
set_option maxRecDepth 20000 in
theorem ggL_law_X3_open : GoodIn wsL_law wsX3_open := goodIn_r _ [286, 23, 29, 111, 112, 113, 22, 114, 42, 287, 288, 289, 2, 290, 28, 27, 291, 292, 293, 294, 295, 296, 15, 16, 297, 298, 299, 300, 418, 419, 420, 421, 422, 423, 424, 425, 426, 427, 428, 450, 451, 452, 453, 454, 455, 456, 457, 458] (by decide +kernel) (by decide +kernel)
set_option maxRecDepth 20000 in
theorem gL_law_X3_open : GoodIn wsL_law (wsV RL 76 RX3 yX3_open wsX3_open) := goodIn_app (goodIn_of _ (by decide +kernel)) ggL_law_X3_open
set_option maxRecDepth 20000 in
theorem ggL_law_X4_open : GoodIn wsL_law wsX4_open := goodIn_r _ [304, 305, 120, 121, 122, 5, 123, 101, 124, 125, 126, 306, 307, 308, 309, 51, 52, 53, 54, 429, 430, 431, 432, 433, 434, 435, 436, 437, 438, 439, 440, 441, 442, 443, 444, 445, 446, 447, 448, 449] (by decide +kernel) (by decide +kernel)
set_option maxRecDepth 20000 in
theorem gL_law_X4_open : GoodIn wsL_law (wsV RL 80 RX4 yX4_open wsX4_open) := goodIn_app (goodIn_of _ (by decide +kernel)) ggL_law_X4_open
set_option maxRecDepth 20000 in
theorem ggL_law_X3_next : GoodIn wsL_law wsX3_next := goodIn_r _ [313, 314, 256, 163, 162, 315, 316, 317, 318, 319, 2, 320, 29, 28, 164, 165, 166, 167, 32, 168, 141, 142, 143, 144, 34, 145, 23, 110, 146, 89, 90, 91, 92, 169, 170, 171, 172, 173, 174, 175, 176, 177, 178, 179, 147, 148, 149, 455, 456, 457, 458, 418, 419, 420, 421, 422, 423, 424, 425, 426, 427, 428, 450, 451, 452, 453, 454] (by decide +kernel) (by decide +kernel)
set_option maxRecDepth 20000 in
theorem gL_law_X3_next : GoodIn wsL_law (wsV RL 81 RX3 yX3_next wsX3_next) := goodIn_app (goodIn_of _ (by decide +kernel)) ggL_law_X3_next
set_option maxRecDepth 20000 in
theorem ggL_law_X4_next : GoodIn wsL_law wsX4_next := goodIn_r _ [324, 53, 325, 184, 185, 51, 52, 326, 327, 328, 5, 329, 305, 124, 125, 126, 186, 187, 188, 189, 190, 191, 192, 193, 194, 195, 196, 197, 198, 199, 154, 155, 156, 157, 62, 131, 127, 128, 129, 130, 48, 47, 132, 133, 134, 135, 136, 429, 430, 431, 432, 433, 434, 435, 436, 437, 438, 439, 440, 441, 442, 443, 444, 445, 446, 447, 448, 449] (by decide +kernel) (by decide +kernel)
set_option maxRecDepth 20000 in
theorem gL_law_X4_next : GoodIn wsL_law (wsV RL 85 RX4 yX4_next wsX4_next) := goodIn_app (goodIn_of _ (by decide +kernel)) ggL_law_X4_next
set_option maxRecDepth 20000 in
theorem ggL_law_X3_nextPick : GoodIn wsL_law wsX3_nextPick := goodIn_r _ [333, 314, 256, 315, 316, 317, 318, 319, 2, 320, 29, 28, 226, 227, 228, 229, 230, 231, 232, 233, 24, 234, 164, 165, 166, 167, 32, 168, 141, 142, 143, 144, 34, 145, 23, 110, 146, 89, 90, 91, 92, 169, 170, 171, 172, 173, 174, 175, 176, 177, 178, 179, 147, 148, 149, 235, 236, 237, 238, 455, 456, 457, 458, 418, 419, 420, 421, 422, 423, 424, 425, 426, 427, 428, 450, 451, 452, 453, 454] (by decide +kernel) (by decide +kernel)
set_option maxRecDepth 20000 in
theorem gL_law_X3_nextPick : GoodIn wsL_law (wsV RL 86 RX3 yX3_nextPick wsX3_nextPick) := goodIn_app (goodIn_of _ (by decide +kernel)) ggL_law_X3_nextPick
set_option maxRecDepth 20000 in
theorem ggL_law_X4_nextPick : GoodIn wsL_law wsX4_nextPick := goodIn_r _ [337, 53, 325, 243, 51, 52, 326, 327, 328, 5, 329, 305, 124, 125, 126, 244, 245, 246, 247, 50, 248, 249, 250, 251, 186, 187, 188, 189, 190, 191, 192, 193, 194, 195, 196, 197, 198, 199, 154, 155, 156, 157, 62, 131, 127, 128, 129, 130, 48, 47, 132, 133, 134, 135, 136, 429, 430, 431, 432, 433, 434, 435, 436, 437, 438, 439, 440, 441, 442, 443, 444, 445, 446, 447, 448, 449] (by decide +kernel) (by decide +kernel)
set_option maxRecDepth 20000 in
theorem gL_law_X4_nextPick : GoodIn wsL_law (wsV RL 90 RX4 yX4_nextPick wsX4_nextPick) := goodIn_app (goodIn_of _ (by decide +kernel)) ggL_law_X4_nextPick
set_option maxRecDepth 20000 in
theorem ggL_law_X3_split : GoodIn wsL_law wsX3_split := goodIn_r _ [341, 29, 23, 316, 342, 315, 317, 318, 319, 2, 320, 28, 343, 344, 345, 22, 346, 39, 41, 38, 347, 77, 78, 79, 42, 80, 81, 82, 83, 84, 85, 86, 87, 88, 40, 89, 90, 91, 92, 287, 288, 289, 290, 27, 291, 292, 293, 294, 295, 296, 15, 16, 297, 298, 299, 300, 418, 419, 420, 421, 422, 423, 424, 425, 426, 427, 428, 455, 456, 457, 458, 450, 451, 452, 453, 454] (by decide +kernel) (by decide +kernel)
set_option maxRecDepth 20000 in
theorem gL_law_X3_split : GoodIn wsL_law (wsV RL 91 RX3 yX3_split wsX3_split) := goodIn_app (goodIn_of _ (by decide +kernel)) ggL_law_X3_split
set_option maxRecDepth 20000 in
theorem ggL_law_X4_split : GoodIn wsL_law wsX4_split := goodIn_r _ [351, 52, 305, 48, 71, 61, 49, 47, 54, 51, 326, 327, 328, 5, 329, 124, 125, 126, 97, 98, 99, 100, 101, 102, 103, 104, 105, 306, 307, 308, 309, 53, 429, 430, 431, 432, 433, 434, 435, 436, 437, 438, 439, 440, 441, 442, 443, 444, 445, 446, 447, 448, 449] (by decide +kernel) (by decide +kernel)
set_option maxRecDepth 20000 in
theorem gL_law_X4_split : GoodIn wsL_law (wsV RL 94 RX4 yX4_split wsX4_split) := goodIn_app (goodIn_of _ (by decide +kernel)) ggL_law_X4_split
set_option maxRecDepth 20000 in
theorem ggL_law_X3_skip : GoodIn wsL_law wsX3_skip := goodIn_r _ [355, 356, 314, 256, 317, 318, 319, 2, 320, 29, 28, 455, 456, 457, 458, 418, 419, 420, 421, 422, 423, 424, 425, 426, 427, 428] (by decide +kernel) (by decide +kernel)
set_option maxRecDepth 20000 in
theorem gL_law_X3_skip : GoodIn wsL_law (wsV RL 95 RX3 yX3_skip wsX3_skip) := goodIn_app (goodIn_of _ (by decide +kernel)) ggL_law_X3_skip
set_option maxRecDepth 20000 in
theorem ggL_law_X4_skip : GoodIn wsL_law wsX4_skip := goodIn_r _ [360, 361, 53, 266, 326, 327, 328, 5, 329, 305, 124, 125, 126, 429, 430, 431, 432, 433, 434, 435, 436, 437, 438, 439, 440, 441, 442, 443, 444, 445, 446, 447, 448, 449] (by decide +kernel) (by decide +kernel)
set_option maxRecDepth 20000 in
theorem gL_law_X4_skip : GoodIn wsL_law (wsV RL 99 RX4 yX4_skip wsX4_skip) := goodIn_app (goodIn_of _ (by decide +kernel)) ggL_law_X4_skip
set_option maxRecDepth 20000 in
theorem ggL_law_X3_keep : GoodIn wsL_law wsX3_keep := goodIn_r _ [365, 31, 30, 366, 367, 368, 314, 369, 342, 370, 317, 318, 319, 2, 320, 29, 28, 371, 372, 373, 15, 16, 374, 375, 376, 418, 419, 420, 421, 422, 423, 424, 425, 426, 427, 428, 459, 460, 461, 455, 456, 457, 458] (by decide +kernel) (by decide +kernel)
set_option maxRecDepth 20000 in
theorem gL_law_X3_keep : GoodIn wsL_law (wsV RL 100 RX3 yX3_keep wsX3_keep) := goodIn_app (goodIn_of _ (by decide +kernel)) ggL_law_X3_keep
set_option maxRecDepth 20000 in
theorem ggL_law_X4_keep : GoodIn wsL_law wsX4_keep := goodIn_r _ [380, 381, 59, 55, 56, 53, 57, 54, 124, 125, 5, 126, 326, 327, 328, 329, 305, 429, 430, 431, 432, 433, 434, 435, 436, 437, 438, 439, 440, 441, 442, 443, 444, 445, 446, 447, 448, 449] (by decide +kernel) (by decide +kernel)
set_option maxRecDepth 20000 in
theorem gL_law_X4_keep : GoodIn wsL_law (wsV RL 103 RX4 yX4_keep wsX4_keep) := goodIn_app (goodIn_of _ (by decide +kernel)) ggL_law_X4_keep
set_option maxRecDepth 20000 in
theorem ggL_law_X3_back : GoodIn wsL_law wsX3_back := goodIn_r _ [385, 31, 368, 369, 314, 370, 342, 317, 318, 319, 2, 320, 29, 28, 418, 419, 420, 421, 422, 423, 424, 425, 426, 427, 428, 459, 460, 461, 455, 456, 457, 458] (by decide +kernel) (by decide +kernel)
set_option maxRecDepth 20000 in
theorem gL_law_X3_back : GoodIn wsL_law (wsV RL 104 RX3 yX3_back wsX3_back) := goodIn_app (goodIn_of _ (by decide +kernel)) ggL_law_X3_back
set_option maxRecDepth 20000 in
theorem ggL_law_X4_back : GoodIn wsL_law wsX4_back := goodIn_r _ [389, 381, 59, 55, 53, 56, 54, 57, 124, 125, 5, 126, 429, 430, 431, 432, 433, 434, 435, 436, 437, 438, 439, 440, 441, 442, 443, 444, 445, 446, 447, 448, 449] (by decide +kernel) (by decide +kernel)
set_option maxRecDepth 20000 in
theorem gL_law_X4_back : GoodIn wsL_law (wsV RL 107 RX4 yX4_back wsX4_back) := goodIn_app (goodIn_of _ (by decide +kernel)) ggL_law_X4_back
set_option maxRecDepth 20000 in
theorem ggL_law_X3_told : GoodIn wsL_law wsX3_told := goodIn_r _ [393, 316, 314, 342, 317, 318, 319, 2, 320, 29, 28, 455, 456, 457, 458, 418, 419, 420, 421, 422, 423, 424, 425, 426, 427, 428] (by decide +kernel) (by decide +kernel)
set_option maxRecDepth 20000 in
theorem gL_law_X3_told : GoodIn wsL_law (wsV RL 108 RX3 yX3_told wsX3_told) := goodIn_app (goodIn_of _ (by decide +kernel)) ggL_law_X3_told
set_option maxRecDepth 20000 in
theorem ggL_law_X4_told : GoodIn wsL_law wsX4_told := goodIn_r _ [397, 212, 52, 53, 54, 326, 327, 328, 5, 329, 305, 124, 125, 126, 429, 430, 431, 432, 433, 434, 435, 436, 437, 438, 439, 440, 441, 442, 443, 444, 445, 446, 447, 448, 449] (by decide +kernel) (by decide +kernel)
set_option maxRecDepth 20000 in
theorem gL_law_X4_told : GoodIn wsL_law (wsV RL 111 RX4 yX4_told wsX4_told) := goodIn_app (goodIn_of _ (by decide +kernel)) ggL_law_X4_told
set_option maxRecDepth 20000 in
theorem ggL_law_X3_counted : GoodIn wsL_law wsX3_counted := goodIn_r _ [401, 402] (by decide +kernel) (by decide +kernel)
set_option maxRecDepth 20000 in
theorem gL_law_X3_counted : GoodIn wsL_law (wsV RL 112 RX3 yX3_counted wsX3_counted) := goodIn_app (goodIn_of _ (by decide +kernel)) ggL_law_X3_counted
set_option maxRecDepth 20000 in
theorem ggL_law_X4_counted : GoodIn wsL_law wsX4_counted := goodIn_r _ [406, 407, 408, 124, 125, 5, 126] (by decide +kernel) (by decide +kernel)
set_option maxRecDepth 20000 in
theorem gL_law_X4_counted : GoodIn wsL_law (wsV RL 116 RX4 yX4_counted wsX4_counted) := goodIn_app (goodIn_of _ (by decide +kernel)) ggL_law_X4_counted
set_option maxRecDepth 20000 in
theorem ggL_law_X3_count : GoodIn wsL_law wsX3_count := goodIn_r _ [412, 23, 413, 29, 19, 418, 419, 420, 421, 422, 423, 424, 425, 426, 427, 428, 450, 451, 452, 453, 454] (by decide +kernel) (by decide +kernel)
set_option maxRecDepth 20000 in
theorem gL_law_X3_count : GoodIn wsL_law (wsV RL 117 RX3 yX3_count wsX3_count) := goodIn_app (goodIn_of _ (by decide +kernel)) ggL_law_X3_count
set_option maxRecDepth 20000 in
theorem ggL_law_X4_count : GoodIn wsL_law wsX4_count := goodIn_r _ [417, 101, 305, 71, 429, 430, 431, 432, 433, 434, 435, 436, 437, 438, 439, 440, 441, 442, 443, 444, 445, 446, 447, 448, 449] (by decide +kernel) (by decide +kernel)
set_option maxRecDepth 20000 in
theorem gL_law_X4_count : GoodIn wsL_law (wsV RL 120 RX4 yX4_count wsX4_count) := goodIn_app (goodIn_of _ (by decide +kernel)) ggL_law_X4_count
theorem dL_law_0 : decode cL_law 0 = .ok (.new 7, 3) := by decide +kernel
theorem dL_law_3 : decode cL_law 3 = .ok (.dup, 1) := by decide +kernel
theorem dL_law_4 : decode cL_law 4 = .ok (.aload_n 0, 1) := by decide +kernel
theorem dL_law_5 : decode cL_law 5 = .ok (.iconst 0, 1) := by decide +kernel
theorem dL_law_6 : decode cL_law 6 = .ok (.invokestatic 9, 3) := by decide +kernel
theorem dL_law_9 : decode cL_law 9 = .ok (.i2l, 1) := by decide +kernel
theorem dL_law_10 : decode cL_law 10 = .ok (.invokespecial 15, 3) := by decide +kernel
theorem dL_law_13 : decode cL_law 13 = .ok (.astore_n 1, 1) := by decide +kernel
theorem dL_law_14 : decode cL_law 14 = .ok (.new 18, 3) := by decide +kernel
theorem dL_law_17 : decode cL_law 17 = .ok (.dup, 1) := by decide +kernel
theorem dL_law_18 : decode cL_law 18 = .ok (.aload_n 0, 1) := by decide +kernel
theorem dL_law_19 : decode cL_law 19 = .ok (.iconst 0, 1) := by decide +kernel
theorem dL_law_20 : decode cL_law 20 = .ok (.invokestatic 9, 3) := by decide +kernel
theorem dL_law_23 : decode cL_law 23 = .ok (.i2l, 1) := by decide +kernel
theorem dL_law_24 : decode cL_law 24 = .ok (.invokespecial 20, 3) := by decide +kernel
theorem dL_law_27 : decode cL_law 27 = .ok (.astore_n 2, 1) := by decide +kernel
theorem dL_law_28 : decode cL_law 28 = .ok (.iconst 1, 1) := by decide +kernel
theorem dL_law_29 : decode cL_law 29 = .ok (.istore_n 3, 1) := by decide +kernel
theorem dL_law_30 : decode cL_law 30 = .ok (.iload_n 3, 1) := by decide +kernel
theorem dL_law_31 : decode cL_law 31 = .ok (.aload_n 0, 1) := by decide +kernel
theorem dL_law_32 : decode cL_law 32 = .ok (.arraylength, 1) := by decide +kernel
theorem dL_law_33 : decode cL_law 33 = .ok (.bipush 9, 2) := by decide +kernel
theorem dL_law_35 : decode cL_law 35 = .ok (.isub, 1) := by decide +kernel
theorem dL_law_36 : decode cL_law 36 = .ok (.if_icmp .gt 1197, 3) := by decide +kernel
theorem dL_law_39 : decode cL_law 39 = .ok (.aload_n 0, 1) := by decide +kernel
theorem dL_law_40 : decode cL_law 40 = .ok (.iload_n 3, 1) := by decide +kernel
theorem dL_law_41 : decode cL_law 41 = .ok (.iaload, 1) := by decide +kernel
theorem dL_law_42 : decode cL_law 42 = .ok (.bipush 31, 2) := by decide +kernel
theorem dL_law_44 : decode cL_law 44 = .ok (.iand, 1) := by decide +kernel
theorem dL_law_45 : decode cL_law 45 = .ok (.tableswitch 1182 0 20 #[99, 152, 165, 188, 291, 406, 565, 628, 701, 796, 809, 822, 885, 948, 971, 994, 1027, 1060, 1083, 1116, 1159], 99) := by decide +kernel
theorem dL_law_144 : decode cL_law 144 = .ok (.aload_n 1, 1) := by decide +kernel
theorem dL_law_145 : decode cL_law 145 = .ok (.aload_n 0, 1) := by decide +kernel
theorem dL_law_146 : decode cL_law 146 = .ok (.iload_n 3, 1) := by decide +kernel
theorem dL_law_147 : decode cL_law 147 = .ok (.iconst 1, 1) := by decide +kernel
theorem dL_law_148 : decode cL_law 148 = .ok (.iadd, 1) := by decide +kernel
theorem dL_law_149 : decode cL_law 149 = .ok (.iaload, 1) := by decide +kernel
theorem dL_law_150 : decode cL_law 150 = .ok (.i2l, 1) := by decide +kernel
theorem dL_law_151 : decode cL_law 151 = .ok (.bipush 32, 2) := by decide +kernel
theorem dL_law_153 : decode cL_law 153 = .ok (.lshl, 1) := by decide +kernel
theorem dL_law_154 : decode cL_law 154 = .ok (.aload_n 0, 1) := by decide +kernel
theorem dL_law_155 : decode cL_law 155 = .ok (.iload_n 3, 1) := by decide +kernel
theorem dL_law_156 : decode cL_law 156 = .ok (.iconst 2, 1) := by decide +kernel
theorem dL_law_157 : decode cL_law 157 = .ok (.iadd, 1) := by decide +kernel
theorem dL_law_158 : decode cL_law 158 = .ok (.iaload, 1) := by decide +kernel
theorem dL_law_159 : decode cL_law 159 = .ok (.i2l, 1) := by decide +kernel
theorem dL_law_160 : decode cL_law 160 = .ok (.ldc2_w 21, 3) := by decide +kernel
theorem dL_law_163 : decode cL_law 163 = .ok (.land, 1) := by decide +kernel
theorem dL_law_164 : decode cL_law 164 = .ok (.lor, 1) := by decide +kernel
theorem dL_law_165 : decode cL_law 165 = .ok (.invokevirtual 23, 3) := by decide +kernel
theorem dL_law_168 : decode cL_law 168 = .ok (.pop, 1) := by decide +kernel
theorem dL_law_169 : decode cL_law 169 = .ok (.aload_n 2, 1) := by decide +kernel
theorem dL_law_170 : decode cL_law 170 = .ok (.aload_n 0, 1) := by decide +kernel
theorem dL_law_171 : decode cL_law 171 = .ok (.iload_n 3, 1) := by decide +kernel
theorem dL_law_172 : decode cL_law 172 = .ok (.iconst 1, 1) := by decide +kernel
theorem dL_law_173 : decode cL_law 173 = .ok (.iadd, 1) := by decide +kernel
theorem dL_law_174 : decode cL_law 174 = .ok (.iaload, 1) := by decide +kernel
theorem dL_law_175 : decode cL_law 175 = .ok (.i2l, 1) := by decide +kernel
theorem dL_law_176 : decode cL_law 176 = .ok (.bipush 32, 2) := by decide +kernel
theorem dL_law_178 : decode cL_law 178 = .ok (.lshl, 1) := by decide +kernel
theorem dL_law_179 : decode cL_law 179 = .ok (.aload_n 0, 1) := by decide +kernel
theorem dL_law_180 : decode cL_law 180 = .ok (.iload_n 3, 1) := by decide +kernel
theorem dL_law_181 : decode cL_law 181 = .ok (.iconst 2, 1) := by decide +kernel
theorem dL_law_182 : decode cL_law 182 = .ok (.iadd, 1) := by decide +kernel
theorem dL_law_183 : decode cL_law 183 = .ok (.iaload, 1) := by decide +kernel
theorem dL_law_184 : decode cL_law 184 = .ok (.i2l, 1) := by decide +kernel
theorem dL_law_185 : decode cL_law 185 = .ok (.ldc2_w 21, 3) := by decide +kernel
theorem dL_law_188 : decode cL_law 188 = .ok (.land, 1) := by decide +kernel
theorem dL_law_189 : decode cL_law 189 = .ok (.lor, 1) := by decide +kernel
theorem dL_law_190 : decode cL_law 190 = .ok (.invokevirtual 27, 3) := by decide +kernel
theorem dL_law_193 : decode cL_law 193 = .ok (.pop, 1) := by decide +kernel
theorem dL_law_194 : decode cL_law 194 = .ok (.goto 1033, 3) := by decide +kernel
theorem dL_law_197 : decode cL_law 197 = .ok (.aload_n 1, 1) := by decide +kernel
theorem dL_law_198 : decode cL_law 198 = .ok (.invokevirtual 28, 3) := by decide +kernel
theorem dL_law_201 : decode cL_law 201 = .ok (.pop, 1) := by decide +kernel
theorem dL_law_202 : decode cL_law 202 = .ok (.aload_n 2, 1) := by decide +kernel
theorem dL_law_203 : decode cL_law 203 = .ok (.invokevirtual 32, 3) := by decide +kernel
theorem dL_law_206 : decode cL_law 206 = .ok (.pop, 1) := by decide +kernel
theorem dL_law_207 : decode cL_law 207 = .ok (.goto 1020, 3) := by decide +kernel
theorem dL_law_210 : decode cL_law 210 = .ok (.aload_n 1, 1) := by decide +kernel
theorem dL_law_211 : decode cL_law 211 = .ok (.aload_n 0, 1) := by decide +kernel
theorem dL_law_212 : decode cL_law 212 = .ok (.iload_n 3, 1) := by decide +kernel
theorem dL_law_213 : decode cL_law 213 = .ok (.iconst 1, 1) := by decide +kernel
theorem dL_law_214 : decode cL_law 214 = .ok (.iadd, 1) := by decide +kernel
theorem dL_law_215 : decode cL_law 215 = .ok (.iaload, 1) := by decide +kernel
theorem dL_law_216 : decode cL_law 216 = .ok (.invokevirtual 33, 3) := by decide +kernel
theorem dL_law_219 : decode cL_law 219 = .ok (.pop2, 1) := by decide +kernel
theorem dL_law_220 : decode cL_law 220 = .ok (.aload_n 2, 1) := by decide +kernel
theorem dL_law_221 : decode cL_law 221 = .ok (.aload_n 0, 1) := by decide +kernel
theorem dL_law_222 : decode cL_law 222 = .ok (.iload_n 3, 1) := by decide +kernel
theorem dL_law_223 : decode cL_law 223 = .ok (.iconst 1, 1) := by decide +kernel
theorem dL_law_224 : decode cL_law 224 = .ok (.iadd, 1) := by decide +kernel
theorem dL_law_225 : decode cL_law 225 = .ok (.iaload, 1) := by decide +kernel
theorem dL_law_226 : decode cL_law 226 = .ok (.invokevirtual 37, 3) := by decide +kernel
theorem dL_law_229 : decode cL_law 229 = .ok (.pop2, 1) := by decide +kernel
theorem dL_law_230 : decode cL_law 230 = .ok (.goto 997, 3) := by decide +kernel
theorem dL_law_233 : decode cL_law 233 = .ok (.aload_n 1, 1) := by decide +kernel
theorem dL_law_234 : decode cL_law 234 = .ok (.aload_n 0, 1) := by decide +kernel
theorem dL_law_235 : decode cL_law 235 = .ok (.iload_n 3, 1) := by decide +kernel
theorem dL_law_236 : decode cL_law 236 = .ok (.iconst 1, 1) := by decide +kernel
theorem dL_law_237 : decode cL_law 237 = .ok (.iadd, 1) := by decide +kernel
theorem dL_law_238 : decode cL_law 238 = .ok (.iaload, 1) := by decide +kernel
theorem dL_law_239 : decode cL_law 239 = .ok (.i2l, 1) := by decide +kernel
theorem dL_law_240 : decode cL_law 240 = .ok (.bipush 32, 2) := by decide +kernel
theorem dL_law_242 : decode cL_law 242 = .ok (.lshl, 1) := by decide +kernel
theorem dL_law_243 : decode cL_law 243 = .ok (.aload_n 0, 1) := by decide +kernel
theorem dL_law_244 : decode cL_law 244 = .ok (.iload_n 3, 1) := by decide +kernel
theorem dL_law_245 : decode cL_law 245 = .ok (.iconst 2, 1) := by decide +kernel
theorem dL_law_246 : decode cL_law 246 = .ok (.iadd, 1) := by decide +kernel
theorem dL_law_247 : decode cL_law 247 = .ok (.iaload, 1) := by decide +kernel
theorem dL_law_248 : decode cL_law 248 = .ok (.i2l, 1) := by decide +kernel
theorem dL_law_249 : decode cL_law 249 = .ok (.ldc2_w 21, 3) := by decide +kernel
theorem dL_law_252 : decode cL_law 252 = .ok (.land, 1) := by decide +kernel
theorem dL_law_253 : decode cL_law 253 = .ok (.lor, 1) := by decide +kernel
theorem dL_law_254 : decode cL_law 254 = .ok (.aload_n 0, 1) := by decide +kernel
theorem dL_law_255 : decode cL_law 255 = .ok (.iload_n 3, 1) := by decide +kernel
theorem dL_law_256 : decode cL_law 256 = .ok (.iconst 3, 1) := by decide +kernel
theorem dL_law_257 : decode cL_law 257 = .ok (.iadd, 1) := by decide +kernel
theorem dL_law_258 : decode cL_law 258 = .ok (.iaload, 1) := by decide +kernel
theorem dL_law_259 : decode cL_law 259 = .ok (.aload_n 0, 1) := by decide +kernel
theorem dL_law_260 : decode cL_law 260 = .ok (.iload_n 3, 1) := by decide +kernel
theorem dL_law_261 : decode cL_law 261 = .ok (.iconst 4, 1) := by decide +kernel
theorem dL_law_262 : decode cL_law 262 = .ok (.iadd, 1) := by decide +kernel
theorem dL_law_263 : decode cL_law 263 = .ok (.iaload, 1) := by decide +kernel
theorem dL_law_264 : decode cL_law 264 = .ok (.i2l, 1) := by decide +kernel
theorem dL_law_265 : decode cL_law 265 = .ok (.bipush 32, 2) := by decide +kernel
theorem dL_law_267 : decode cL_law 267 = .ok (.lshl, 1) := by decide +kernel
theorem dL_law_268 : decode cL_law 268 = .ok (.aload_n 0, 1) := by decide +kernel
theorem dL_law_269 : decode cL_law 269 = .ok (.iload_n 3, 1) := by decide +kernel
theorem dL_law_270 : decode cL_law 270 = .ok (.iconst 5, 1) := by decide +kernel
theorem dL_law_271 : decode cL_law 271 = .ok (.iadd, 1) := by decide +kernel
theorem dL_law_272 : decode cL_law 272 = .ok (.iaload, 1) := by decide +kernel
theorem dL_law_273 : decode cL_law 273 = .ok (.i2l, 1) := by decide +kernel
theorem dL_law_274 : decode cL_law 274 = .ok (.ldc2_w 21, 3) := by decide +kernel
theorem dL_law_277 : decode cL_law 277 = .ok (.land, 1) := by decide +kernel
theorem dL_law_278 : decode cL_law 278 = .ok (.lor, 1) := by decide +kernel
theorem dL_law_279 : decode cL_law 279 = .ok (.invokevirtual 38, 3) := by decide +kernel
theorem dL_law_282 : decode cL_law 282 = .ok (.pop2, 1) := by decide +kernel
theorem dL_law_283 : decode cL_law 283 = .ok (.aload_n 2, 1) := by decide +kernel
theorem dL_law_284 : decode cL_law 284 = .ok (.aload_n 0, 1) := by decide +kernel
theorem dL_law_285 : decode cL_law 285 = .ok (.iload_n 3, 1) := by decide +kernel
theorem dL_law_286 : decode cL_law 286 = .ok (.iconst 1, 1) := by decide +kernel
theorem dL_law_287 : decode cL_law 287 = .ok (.iadd, 1) := by decide +kernel
theorem dL_law_288 : decode cL_law 288 = .ok (.iaload, 1) := by decide +kernel
theorem dL_law_289 : decode cL_law 289 = .ok (.i2l, 1) := by decide +kernel
theorem dL_law_290 : decode cL_law 290 = .ok (.bipush 32, 2) := by decide +kernel
theorem dL_law_292 : decode cL_law 292 = .ok (.lshl, 1) := by decide +kernel
theorem dL_law_293 : decode cL_law 293 = .ok (.aload_n 0, 1) := by decide +kernel
theorem dL_law_294 : decode cL_law 294 = .ok (.iload_n 3, 1) := by decide +kernel
theorem dL_law_295 : decode cL_law 295 = .ok (.iconst 2, 1) := by decide +kernel
theorem dL_law_296 : decode cL_law 296 = .ok (.iadd, 1) := by decide +kernel
theorem dL_law_297 : decode cL_law 297 = .ok (.iaload, 1) := by decide +kernel
theorem dL_law_298 : decode cL_law 298 = .ok (.i2l, 1) := by decide +kernel
theorem dL_law_299 : decode cL_law 299 = .ok (.ldc2_w 21, 3) := by decide +kernel
theorem dL_law_302 : decode cL_law 302 = .ok (.land, 1) := by decide +kernel
theorem dL_law_303 : decode cL_law 303 = .ok (.lor, 1) := by decide +kernel
theorem dL_law_304 : decode cL_law 304 = .ok (.aload_n 0, 1) := by decide +kernel
theorem dL_law_305 : decode cL_law 305 = .ok (.iload_n 3, 1) := by decide +kernel
theorem dL_law_306 : decode cL_law 306 = .ok (.iconst 3, 1) := by decide +kernel
theorem dL_law_307 : decode cL_law 307 = .ok (.iadd, 1) := by decide +kernel
theorem dL_law_308 : decode cL_law 308 = .ok (.iaload, 1) := by decide +kernel
theorem dL_law_309 : decode cL_law 309 = .ok (.aload_n 0, 1) := by decide +kernel
theorem dL_law_310 : decode cL_law 310 = .ok (.iload_n 3, 1) := by decide +kernel
theorem dL_law_311 : decode cL_law 311 = .ok (.iconst 4, 1) := by decide +kernel
theorem dL_law_312 : decode cL_law 312 = .ok (.iadd, 1) := by decide +kernel
theorem dL_law_313 : decode cL_law 313 = .ok (.iaload, 1) := by decide +kernel
theorem dL_law_314 : decode cL_law 314 = .ok (.i2l, 1) := by decide +kernel
theorem dL_law_315 : decode cL_law 315 = .ok (.bipush 32, 2) := by decide +kernel
theorem dL_law_317 : decode cL_law 317 = .ok (.lshl, 1) := by decide +kernel
theorem dL_law_318 : decode cL_law 318 = .ok (.aload_n 0, 1) := by decide +kernel
theorem dL_law_319 : decode cL_law 319 = .ok (.iload_n 3, 1) := by decide +kernel
theorem dL_law_320 : decode cL_law 320 = .ok (.iconst 5, 1) := by decide +kernel
theorem dL_law_321 : decode cL_law 321 = .ok (.iadd, 1) := by decide +kernel
theorem dL_law_322 : decode cL_law 322 = .ok (.iaload, 1) := by decide +kernel
theorem dL_law_323 : decode cL_law 323 = .ok (.i2l, 1) := by decide +kernel
theorem dL_law_324 : decode cL_law 324 = .ok (.ldc2_w 21, 3) := by decide +kernel
theorem dL_law_327 : decode cL_law 327 = .ok (.land, 1) := by decide +kernel
theorem dL_law_328 : decode cL_law 328 = .ok (.lor, 1) := by decide +kernel
theorem dL_law_329 : decode cL_law 329 = .ok (.invokevirtual 42, 3) := by decide +kernel
theorem dL_law_332 : decode cL_law 332 = .ok (.pop2, 1) := by decide +kernel
theorem dL_law_333 : decode cL_law 333 = .ok (.goto 894, 3) := by decide +kernel
theorem dL_law_336 : decode cL_law 336 = .ok (.aload_n 1, 1) := by decide +kernel
theorem dL_law_337 : decode cL_law 337 = .ok (.aload_n 0, 1) := by decide +kernel
theorem dL_law_338 : decode cL_law 338 = .ok (.iload_n 3, 1) := by decide +kernel
theorem dL_law_339 : decode cL_law 339 = .ok (.iconst 1, 1) := by decide +kernel
theorem dL_law_340 : decode cL_law 340 = .ok (.iadd, 1) := by decide +kernel
theorem dL_law_341 : decode cL_law 341 = .ok (.iaload, 1) := by decide +kernel
theorem dL_law_342 : decode cL_law 342 = .ok (.i2l, 1) := by decide +kernel
theorem dL_law_343 : decode cL_law 343 = .ok (.bipush 32, 2) := by decide +kernel
theorem dL_law_345 : decode cL_law 345 = .ok (.lshl, 1) := by decide +kernel
theorem dL_law_346 : decode cL_law 346 = .ok (.aload_n 0, 1) := by decide +kernel
theorem dL_law_347 : decode cL_law 347 = .ok (.iload_n 3, 1) := by decide +kernel
theorem dL_law_348 : decode cL_law 348 = .ok (.iconst 2, 1) := by decide +kernel
theorem dL_law_349 : decode cL_law 349 = .ok (.iadd, 1) := by decide +kernel
theorem dL_law_350 : decode cL_law 350 = .ok (.iaload, 1) := by decide +kernel
theorem dL_law_351 : decode cL_law 351 = .ok (.i2l, 1) := by decide +kernel
theorem dL_law_352 : decode cL_law 352 = .ok (.ldc2_w 21, 3) := by decide +kernel
theorem dL_law_355 : decode cL_law 355 = .ok (.land, 1) := by decide +kernel
theorem dL_law_356 : decode cL_law 356 = .ok (.lor, 1) := by decide +kernel
theorem dL_law_357 : decode cL_law 357 = .ok (.aload_n 0, 1) := by decide +kernel
theorem dL_law_358 : decode cL_law 358 = .ok (.iload_n 3, 1) := by decide +kernel
theorem dL_law_359 : decode cL_law 359 = .ok (.iconst 3, 1) := by decide +kernel
theorem dL_law_360 : decode cL_law 360 = .ok (.iadd, 1) := by decide +kernel
theorem dL_law_361 : decode cL_law 361 = .ok (.iaload, 1) := by decide +kernel
theorem dL_law_362 : decode cL_law 362 = .ok (.aload_n 0, 1) := by decide +kernel
theorem dL_law_363 : decode cL_law 363 = .ok (.iload_n 3, 1) := by decide +kernel
theorem dL_law_364 : decode cL_law 364 = .ok (.iconst 4, 1) := by decide +kernel
theorem dL_law_365 : decode cL_law 365 = .ok (.iadd, 1) := by decide +kernel
theorem dL_law_366 : decode cL_law 366 = .ok (.iaload, 1) := by decide +kernel
theorem dL_law_367 : decode cL_law 367 = .ok (.aload_n 0, 1) := by decide +kernel
theorem dL_law_368 : decode cL_law 368 = .ok (.iload_n 3, 1) := by decide +kernel
theorem dL_law_369 : decode cL_law 369 = .ok (.iconst 5, 1) := by decide +kernel
theorem dL_law_370 : decode cL_law 370 = .ok (.iadd, 1) := by decide +kernel
theorem dL_law_371 : decode cL_law 371 = .ok (.iaload, 1) := by decide +kernel
theorem dL_law_372 : decode cL_law 372 = .ok (.i2l, 1) := by decide +kernel
theorem dL_law_373 : decode cL_law 373 = .ok (.bipush 32, 2) := by decide +kernel
theorem dL_law_375 : decode cL_law 375 = .ok (.lshl, 1) := by decide +kernel
theorem dL_law_376 : decode cL_law 376 = .ok (.aload_n 0, 1) := by decide +kernel
theorem dL_law_377 : decode cL_law 377 = .ok (.iload_n 3, 1) := by decide +kernel
theorem dL_law_378 : decode cL_law 378 = .ok (.bipush 6, 2) := by decide +kernel
theorem dL_law_380 : decode cL_law 380 = .ok (.iadd, 1) := by decide +kernel
theorem dL_law_381 : decode cL_law 381 = .ok (.iaload, 1) := by decide +kernel
theorem dL_law_382 : decode cL_law 382 = .ok (.i2l, 1) := by decide +kernel
theorem dL_law_383 : decode cL_law 383 = .ok (.ldc2_w 21, 3) := by decide +kernel
theorem dL_law_386 : decode cL_law 386 = .ok (.land, 1) := by decide +kernel
theorem dL_law_387 : decode cL_law 387 = .ok (.lor, 1) := by decide +kernel
theorem dL_law_388 : decode cL_law 388 = .ok (.invokevirtual 43, 3) := by decide +kernel
theorem dL_law_391 : decode cL_law 391 = .ok (.pop2, 1) := by decide +kernel
theorem dL_law_392 : decode cL_law 392 = .ok (.aload_n 2, 1) := by decide +kernel
theorem dL_law_393 : decode cL_law 393 = .ok (.aload_n 0, 1) := by decide +kernel
theorem dL_law_394 : decode cL_law 394 = .ok (.iload_n 3, 1) := by decide +kernel
theorem dL_law_395 : decode cL_law 395 = .ok (.iconst 1, 1) := by decide +kernel
theorem dL_law_396 : decode cL_law 396 = .ok (.iadd, 1) := by decide +kernel
theorem dL_law_397 : decode cL_law 397 = .ok (.iaload, 1) := by decide +kernel
theorem dL_law_398 : decode cL_law 398 = .ok (.i2l, 1) := by decide +kernel
theorem dL_law_399 : decode cL_law 399 = .ok (.bipush 32, 2) := by decide +kernel
theorem dL_law_401 : decode cL_law 401 = .ok (.lshl, 1) := by decide +kernel
theorem dL_law_402 : decode cL_law 402 = .ok (.aload_n 0, 1) := by decide +kernel
theorem dL_law_403 : decode cL_law 403 = .ok (.iload_n 3, 1) := by decide +kernel
theorem dL_law_404 : decode cL_law 404 = .ok (.iconst 2, 1) := by decide +kernel
theorem dL_law_405 : decode cL_law 405 = .ok (.iadd, 1) := by decide +kernel
theorem dL_law_406 : decode cL_law 406 = .ok (.iaload, 1) := by decide +kernel
theorem dL_law_407 : decode cL_law 407 = .ok (.i2l, 1) := by decide +kernel
theorem dL_law_408 : decode cL_law 408 = .ok (.ldc2_w 21, 3) := by decide +kernel
theorem dL_law_411 : decode cL_law 411 = .ok (.land, 1) := by decide +kernel
theorem dL_law_412 : decode cL_law 412 = .ok (.lor, 1) := by decide +kernel
theorem dL_law_413 : decode cL_law 413 = .ok (.aload_n 0, 1) := by decide +kernel
theorem dL_law_414 : decode cL_law 414 = .ok (.iload_n 3, 1) := by decide +kernel
theorem dL_law_415 : decode cL_law 415 = .ok (.iconst 3, 1) := by decide +kernel
theorem dL_law_416 : decode cL_law 416 = .ok (.iadd, 1) := by decide +kernel
theorem dL_law_417 : decode cL_law 417 = .ok (.iaload, 1) := by decide +kernel
theorem dL_law_418 : decode cL_law 418 = .ok (.aload_n 0, 1) := by decide +kernel
theorem dL_law_419 : decode cL_law 419 = .ok (.iload_n 3, 1) := by decide +kernel
theorem dL_law_420 : decode cL_law 420 = .ok (.iconst 4, 1) := by decide +kernel
theorem dL_law_421 : decode cL_law 421 = .ok (.iadd, 1) := by decide +kernel
theorem dL_law_422 : decode cL_law 422 = .ok (.iaload, 1) := by decide +kernel
theorem dL_law_423 : decode cL_law 423 = .ok (.aload_n 0, 1) := by decide +kernel
theorem dL_law_424 : decode cL_law 424 = .ok (.iload_n 3, 1) := by decide +kernel
theorem dL_law_425 : decode cL_law 425 = .ok (.iconst 5, 1) := by decide +kernel
theorem dL_law_426 : decode cL_law 426 = .ok (.iadd, 1) := by decide +kernel
theorem dL_law_427 : decode cL_law 427 = .ok (.iaload, 1) := by decide +kernel
theorem dL_law_428 : decode cL_law 428 = .ok (.i2l, 1) := by decide +kernel
theorem dL_law_429 : decode cL_law 429 = .ok (.bipush 32, 2) := by decide +kernel
theorem dL_law_431 : decode cL_law 431 = .ok (.lshl, 1) := by decide +kernel
theorem dL_law_432 : decode cL_law 432 = .ok (.aload_n 0, 1) := by decide +kernel
theorem dL_law_433 : decode cL_law 433 = .ok (.iload_n 3, 1) := by decide +kernel
theorem dL_law_434 : decode cL_law 434 = .ok (.bipush 6, 2) := by decide +kernel
theorem dL_law_436 : decode cL_law 436 = .ok (.iadd, 1) := by decide +kernel
theorem dL_law_437 : decode cL_law 437 = .ok (.iaload, 1) := by decide +kernel
theorem dL_law_438 : decode cL_law 438 = .ok (.i2l, 1) := by decide +kernel
theorem dL_law_439 : decode cL_law 439 = .ok (.ldc2_w 21, 3) := by decide +kernel
theorem dL_law_442 : decode cL_law 442 = .ok (.land, 1) := by decide +kernel
theorem dL_law_443 : decode cL_law 443 = .ok (.lor, 1) := by decide +kernel
theorem dL_law_444 : decode cL_law 444 = .ok (.invokevirtual 47, 3) := by decide +kernel
theorem dL_law_447 : decode cL_law 447 = .ok (.pop2, 1) := by decide +kernel
theorem dL_law_448 : decode cL_law 448 = .ok (.goto 779, 3) := by decide +kernel
theorem dL_law_451 : decode cL_law 451 = .ok (.aload_n 1, 1) := by decide +kernel
theorem dL_law_452 : decode cL_law 452 = .ok (.aload_n 0, 1) := by decide +kernel
theorem dL_law_453 : decode cL_law 453 = .ok (.iload_n 3, 1) := by decide +kernel
theorem dL_law_454 : decode cL_law 454 = .ok (.iconst 1, 1) := by decide +kernel
theorem dL_law_455 : decode cL_law 455 = .ok (.iadd, 1) := by decide +kernel
theorem dL_law_456 : decode cL_law 456 = .ok (.iaload, 1) := by decide +kernel
theorem dL_law_457 : decode cL_law 457 = .ok (.i2l, 1) := by decide +kernel
theorem dL_law_458 : decode cL_law 458 = .ok (.bipush 32, 2) := by decide +kernel
theorem dL_law_460 : decode cL_law 460 = .ok (.lshl, 1) := by decide +kernel
theorem dL_law_461 : decode cL_law 461 = .ok (.aload_n 0, 1) := by decide +kernel
theorem dL_law_462 : decode cL_law 462 = .ok (.iload_n 3, 1) := by decide +kernel
theorem dL_law_463 : decode cL_law 463 = .ok (.iconst 2, 1) := by decide +kernel
theorem dL_law_464 : decode cL_law 464 = .ok (.iadd, 1) := by decide +kernel
theorem dL_law_465 : decode cL_law 465 = .ok (.iaload, 1) := by decide +kernel
theorem dL_law_466 : decode cL_law 466 = .ok (.i2l, 1) := by decide +kernel
theorem dL_law_467 : decode cL_law 467 = .ok (.ldc2_w 21, 3) := by decide +kernel
theorem dL_law_470 : decode cL_law 470 = .ok (.land, 1) := by decide +kernel
theorem dL_law_471 : decode cL_law 471 = .ok (.lor, 1) := by decide +kernel
theorem dL_law_472 : decode cL_law 472 = .ok (.aload_n 0, 1) := by decide +kernel
theorem dL_law_473 : decode cL_law 473 = .ok (.iload_n 3, 1) := by decide +kernel
theorem dL_law_474 : decode cL_law 474 = .ok (.iconst 3, 1) := by decide +kernel
theorem dL_law_475 : decode cL_law 475 = .ok (.iadd, 1) := by decide +kernel
theorem dL_law_476 : decode cL_law 476 = .ok (.iaload, 1) := by decide +kernel
theorem dL_law_477 : decode cL_law 477 = .ok (.aload_n 0, 1) := by decide +kernel
theorem dL_law_478 : decode cL_law 478 = .ok (.iload_n 3, 1) := by decide +kernel
theorem dL_law_479 : decode cL_law 479 = .ok (.iconst 4, 1) := by decide +kernel
theorem dL_law_480 : decode cL_law 480 = .ok (.iadd, 1) := by decide +kernel
theorem dL_law_481 : decode cL_law 481 = .ok (.iaload, 1) := by decide +kernel
theorem dL_law_482 : decode cL_law 482 = .ok (.aload_n 0, 1) := by decide +kernel
theorem dL_law_483 : decode cL_law 483 = .ok (.iload_n 3, 1) := by decide +kernel
theorem dL_law_484 : decode cL_law 484 = .ok (.iconst 5, 1) := by decide +kernel
theorem dL_law_485 : decode cL_law 485 = .ok (.iadd, 1) := by decide +kernel
theorem dL_law_486 : decode cL_law 486 = .ok (.iaload, 1) := by decide +kernel
theorem dL_law_487 : decode cL_law 487 = .ok (.i2l, 1) := by decide +kernel
theorem dL_law_488 : decode cL_law 488 = .ok (.bipush 32, 2) := by decide +kernel
theorem dL_law_490 : decode cL_law 490 = .ok (.lshl, 1) := by decide +kernel
theorem dL_law_491 : decode cL_law 491 = .ok (.aload_n 0, 1) := by decide +kernel
theorem dL_law_492 : decode cL_law 492 = .ok (.iload_n 3, 1) := by decide +kernel
theorem dL_law_493 : decode cL_law 493 = .ok (.bipush 6, 2) := by decide +kernel
theorem dL_law_495 : decode cL_law 495 = .ok (.iadd, 1) := by decide +kernel
theorem dL_law_496 : decode cL_law 496 = .ok (.iaload, 1) := by decide +kernel
theorem dL_law_497 : decode cL_law 497 = .ok (.i2l, 1) := by decide +kernel
theorem dL_law_498 : decode cL_law 498 = .ok (.ldc2_w 21, 3) := by decide +kernel
theorem dL_law_501 : decode cL_law 501 = .ok (.land, 1) := by decide +kernel
theorem dL_law_502 : decode cL_law 502 = .ok (.lor, 1) := by decide +kernel
theorem dL_law_503 : decode cL_law 503 = .ok (.aload_n 0, 1) := by decide +kernel
theorem dL_law_504 : decode cL_law 504 = .ok (.iload_n 3, 1) := by decide +kernel
theorem dL_law_505 : decode cL_law 505 = .ok (.bipush 7, 2) := by decide +kernel
theorem dL_law_507 : decode cL_law 507 = .ok (.iadd, 1) := by decide +kernel
theorem dL_law_508 : decode cL_law 508 = .ok (.iaload, 1) := by decide +kernel
theorem dL_law_509 : decode cL_law 509 = .ok (.i2l, 1) := by decide +kernel
theorem dL_law_510 : decode cL_law 510 = .ok (.bipush 32, 2) := by decide +kernel
theorem dL_law_512 : decode cL_law 512 = .ok (.lshl, 1) := by decide +kernel
theorem dL_law_513 : decode cL_law 513 = .ok (.aload_n 0, 1) := by decide +kernel
theorem dL_law_514 : decode cL_law 514 = .ok (.iload_n 3, 1) := by decide +kernel
theorem dL_law_515 : decode cL_law 515 = .ok (.bipush 8, 2) := by decide +kernel
theorem dL_law_517 : decode cL_law 517 = .ok (.iadd, 1) := by decide +kernel
theorem dL_law_518 : decode cL_law 518 = .ok (.iaload, 1) := by decide +kernel
theorem dL_law_519 : decode cL_law 519 = .ok (.i2l, 1) := by decide +kernel
theorem dL_law_520 : decode cL_law 520 = .ok (.ldc2_w 21, 3) := by decide +kernel
theorem dL_law_523 : decode cL_law 523 = .ok (.land, 1) := by decide +kernel
theorem dL_law_524 : decode cL_law 524 = .ok (.lor, 1) := by decide +kernel
theorem dL_law_525 : decode cL_law 525 = .ok (.invokevirtual 48, 3) := by decide +kernel
theorem dL_law_528 : decode cL_law 528 = .ok (.pop, 1) := by decide +kernel
theorem dL_law_529 : decode cL_law 529 = .ok (.aload_n 2, 1) := by decide +kernel
theorem dL_law_530 : decode cL_law 530 = .ok (.aload_n 0, 1) := by decide +kernel
theorem dL_law_531 : decode cL_law 531 = .ok (.iload_n 3, 1) := by decide +kernel
theorem dL_law_532 : decode cL_law 532 = .ok (.iconst 1, 1) := by decide +kernel
theorem dL_law_533 : decode cL_law 533 = .ok (.iadd, 1) := by decide +kernel
theorem dL_law_534 : decode cL_law 534 = .ok (.iaload, 1) := by decide +kernel
theorem dL_law_535 : decode cL_law 535 = .ok (.i2l, 1) := by decide +kernel
theorem dL_law_536 : decode cL_law 536 = .ok (.bipush 32, 2) := by decide +kernel
theorem dL_law_538 : decode cL_law 538 = .ok (.lshl, 1) := by decide +kernel
theorem dL_law_539 : decode cL_law 539 = .ok (.aload_n 0, 1) := by decide +kernel
theorem dL_law_540 : decode cL_law 540 = .ok (.iload_n 3, 1) := by decide +kernel
theorem dL_law_541 : decode cL_law 541 = .ok (.iconst 2, 1) := by decide +kernel
theorem dL_law_542 : decode cL_law 542 = .ok (.iadd, 1) := by decide +kernel
theorem dL_law_543 : decode cL_law 543 = .ok (.iaload, 1) := by decide +kernel
theorem dL_law_544 : decode cL_law 544 = .ok (.i2l, 1) := by decide +kernel
theorem dL_law_545 : decode cL_law 545 = .ok (.ldc2_w 21, 3) := by decide +kernel
theorem dL_law_548 : decode cL_law 548 = .ok (.land, 1) := by decide +kernel
theorem dL_law_549 : decode cL_law 549 = .ok (.lor, 1) := by decide +kernel
theorem dL_law_550 : decode cL_law 550 = .ok (.aload_n 0, 1) := by decide +kernel
theorem dL_law_551 : decode cL_law 551 = .ok (.iload_n 3, 1) := by decide +kernel
theorem dL_law_552 : decode cL_law 552 = .ok (.iconst 3, 1) := by decide +kernel
theorem dL_law_553 : decode cL_law 553 = .ok (.iadd, 1) := by decide +kernel
theorem dL_law_554 : decode cL_law 554 = .ok (.iaload, 1) := by decide +kernel
theorem dL_law_555 : decode cL_law 555 = .ok (.aload_n 0, 1) := by decide +kernel
theorem dL_law_556 : decode cL_law 556 = .ok (.iload_n 3, 1) := by decide +kernel
theorem dL_law_557 : decode cL_law 557 = .ok (.iconst 4, 1) := by decide +kernel
theorem dL_law_558 : decode cL_law 558 = .ok (.iadd, 1) := by decide +kernel
theorem dL_law_559 : decode cL_law 559 = .ok (.iaload, 1) := by decide +kernel
theorem dL_law_560 : decode cL_law 560 = .ok (.aload_n 0, 1) := by decide +kernel
theorem dL_law_561 : decode cL_law 561 = .ok (.iload_n 3, 1) := by decide +kernel
theorem dL_law_562 : decode cL_law 562 = .ok (.iconst 5, 1) := by decide +kernel
theorem dL_law_563 : decode cL_law 563 = .ok (.iadd, 1) := by decide +kernel
theorem dL_law_564 : decode cL_law 564 = .ok (.iaload, 1) := by decide +kernel
theorem dL_law_565 : decode cL_law 565 = .ok (.i2l, 1) := by decide +kernel
theorem dL_law_566 : decode cL_law 566 = .ok (.bipush 32, 2) := by decide +kernel
theorem dL_law_568 : decode cL_law 568 = .ok (.lshl, 1) := by decide +kernel
theorem dL_law_569 : decode cL_law 569 = .ok (.aload_n 0, 1) := by decide +kernel
theorem dL_law_570 : decode cL_law 570 = .ok (.iload_n 3, 1) := by decide +kernel
theorem dL_law_571 : decode cL_law 571 = .ok (.bipush 6, 2) := by decide +kernel
theorem dL_law_573 : decode cL_law 573 = .ok (.iadd, 1) := by decide +kernel
theorem dL_law_574 : decode cL_law 574 = .ok (.iaload, 1) := by decide +kernel
theorem dL_law_575 : decode cL_law 575 = .ok (.i2l, 1) := by decide +kernel
theorem dL_law_576 : decode cL_law 576 = .ok (.ldc2_w 21, 3) := by decide +kernel
theorem dL_law_579 : decode cL_law 579 = .ok (.land, 1) := by decide +kernel
theorem dL_law_580 : decode cL_law 580 = .ok (.lor, 1) := by decide +kernel
theorem dL_law_581 : decode cL_law 581 = .ok (.aload_n 0, 1) := by decide +kernel
theorem dL_law_582 : decode cL_law 582 = .ok (.iload_n 3, 1) := by decide +kernel
theorem dL_law_583 : decode cL_law 583 = .ok (.bipush 7, 2) := by decide +kernel
theorem dL_law_585 : decode cL_law 585 = .ok (.iadd, 1) := by decide +kernel
theorem dL_law_586 : decode cL_law 586 = .ok (.iaload, 1) := by decide +kernel
theorem dL_law_587 : decode cL_law 587 = .ok (.i2l, 1) := by decide +kernel
theorem dL_law_588 : decode cL_law 588 = .ok (.bipush 32, 2) := by decide +kernel
theorem dL_law_590 : decode cL_law 590 = .ok (.lshl, 1) := by decide +kernel
theorem dL_law_591 : decode cL_law 591 = .ok (.aload_n 0, 1) := by decide +kernel
theorem dL_law_592 : decode cL_law 592 = .ok (.iload_n 3, 1) := by decide +kernel
theorem dL_law_593 : decode cL_law 593 = .ok (.bipush 8, 2) := by decide +kernel
theorem dL_law_595 : decode cL_law 595 = .ok (.iadd, 1) := by decide +kernel
theorem dL_law_596 : decode cL_law 596 = .ok (.iaload, 1) := by decide +kernel
theorem dL_law_597 : decode cL_law 597 = .ok (.i2l, 1) := by decide +kernel
theorem dL_law_598 : decode cL_law 598 = .ok (.ldc2_w 21, 3) := by decide +kernel
theorem dL_law_601 : decode cL_law 601 = .ok (.land, 1) := by decide +kernel
end
section
theorem dL_law_602 : decode cL_law 602 = .ok (.lor, 1) := by decide +kernel
theorem dL_law_603 : decode cL_law 603 = .ok (.invokevirtual 52, 3) := by decide +kernel
theorem dL_law_606 : decode cL_law 606 = .ok (.pop, 1) := by decide +kernel
theorem dL_law_607 : decode cL_law 607 = .ok (.goto 620, 3) := by decide +kernel
theorem dL_law_610 : decode cL_law 610 = .ok (.aload_n 1, 1) := by decide +kernel
theorem dL_law_611 : decode cL_law 611 = .ok (.aload_n 0, 1) := by decide +kernel
theorem dL_law_612 : decode cL_law 612 = .ok (.iload_n 3, 1) := by decide +kernel
theorem dL_law_613 : decode cL_law 613 = .ok (.iconst 1, 1) := by decide +kernel
theorem dL_law_614 : decode cL_law 614 = .ok (.iadd, 1) := by decide +kernel
theorem dL_law_615 : decode cL_law 615 = .ok (.iaload, 1) := by decide +kernel
theorem dL_law_616 : decode cL_law 616 = .ok (.aload_n 0, 1) := by decide +kernel
theorem dL_law_617 : decode cL_law 617 = .ok (.iload_n 3, 1) := by decide +kernel
theorem dL_law_618 : decode cL_law 618 = .ok (.iconst 2, 1) := by decide +kernel
theorem dL_law_619 : decode cL_law 619 = .ok (.iadd, 1) := by decide +kernel
theorem dL_law_620 : decode cL_law 620 = .ok (.iaload, 1) := by decide +kernel
theorem dL_law_621 : decode cL_law 621 = .ok (.i2l, 1) := by decide +kernel
theorem dL_law_622 : decode cL_law 622 = .ok (.bipush 32, 2) := by decide +kernel
theorem dL_law_624 : decode cL_law 624 = .ok (.lshl, 1) := by decide +kernel
theorem dL_law_625 : decode cL_law 625 = .ok (.aload_n 0, 1) := by decide +kernel
theorem dL_law_626 : decode cL_law 626 = .ok (.iload_n 3, 1) := by decide +kernel
theorem dL_law_627 : decode cL_law 627 = .ok (.iconst 3, 1) := by decide +kernel
theorem dL_law_628 : decode cL_law 628 = .ok (.iadd, 1) := by decide +kernel
theorem dL_law_629 : decode cL_law 629 = .ok (.iaload, 1) := by decide +kernel
theorem dL_law_630 : decode cL_law 630 = .ok (.i2l, 1) := by decide +kernel
theorem dL_law_631 : decode cL_law 631 = .ok (.ldc2_w 21, 3) := by decide +kernel
theorem dL_law_634 : decode cL_law 634 = .ok (.land, 1) := by decide +kernel
theorem dL_law_635 : decode cL_law 635 = .ok (.lor, 1) := by decide +kernel
theorem dL_law_636 : decode cL_law 636 = .ok (.invokevirtual 53, 3) := by decide +kernel
theorem dL_law_639 : decode cL_law 639 = .ok (.pop, 1) := by decide +kernel
theorem dL_law_640 : decode cL_law 640 = .ok (.aload_n 2, 1) := by decide +kernel
theorem dL_law_641 : decode cL_law 641 = .ok (.aload_n 0, 1) := by decide +kernel
theorem dL_law_642 : decode cL_law 642 = .ok (.iload_n 3, 1) := by decide +kernel
theorem dL_law_643 : decode cL_law 643 = .ok (.iconst 1, 1) := by decide +kernel
theorem dL_law_644 : decode cL_law 644 = .ok (.iadd, 1) := by decide +kernel
theorem dL_law_645 : decode cL_law 645 = .ok (.iaload, 1) := by decide +kernel
theorem dL_law_646 : decode cL_law 646 = .ok (.aload_n 0, 1) := by decide +kernel
theorem dL_law_647 : decode cL_law 647 = .ok (.iload_n 3, 1) := by decide +kernel
theorem dL_law_648 : decode cL_law 648 = .ok (.iconst 2, 1) := by decide +kernel
theorem dL_law_649 : decode cL_law 649 = .ok (.iadd, 1) := by decide +kernel
theorem dL_law_650 : decode cL_law 650 = .ok (.iaload, 1) := by decide +kernel
theorem dL_law_651 : decode cL_law 651 = .ok (.i2l, 1) := by decide +kernel
theorem dL_law_652 : decode cL_law 652 = .ok (.bipush 32, 2) := by decide +kernel
theorem dL_law_654 : decode cL_law 654 = .ok (.lshl, 1) := by decide +kernel
theorem dL_law_655 : decode cL_law 655 = .ok (.aload_n 0, 1) := by decide +kernel
theorem dL_law_656 : decode cL_law 656 = .ok (.iload_n 3, 1) := by decide +kernel
theorem dL_law_657 : decode cL_law 657 = .ok (.iconst 3, 1) := by decide +kernel
theorem dL_law_658 : decode cL_law 658 = .ok (.iadd, 1) := by decide +kernel
theorem dL_law_659 : decode cL_law 659 = .ok (.iaload, 1) := by decide +kernel
theorem dL_law_660 : decode cL_law 660 = .ok (.i2l, 1) := by decide +kernel
theorem dL_law_661 : decode cL_law 661 = .ok (.ldc2_w 21, 3) := by decide +kernel
theorem dL_law_664 : decode cL_law 664 = .ok (.land, 1) := by decide +kernel
theorem dL_law_665 : decode cL_law 665 = .ok (.lor, 1) := by decide +kernel
theorem dL_law_666 : decode cL_law 666 = .ok (.invokevirtual 57, 3) := by decide +kernel
theorem dL_law_669 : decode cL_law 669 = .ok (.pop, 1) := by decide +kernel
theorem dL_law_670 : decode cL_law 670 = .ok (.goto 557, 3) := by decide +kernel
theorem dL_law_673 : decode cL_law 673 = .ok (.aload_n 1, 1) := by decide +kernel
theorem dL_law_674 : decode cL_law 674 = .ok (.aload_n 0, 1) := by decide +kernel
theorem dL_law_675 : decode cL_law 675 = .ok (.iload_n 3, 1) := by decide +kernel
theorem dL_law_676 : decode cL_law 676 = .ok (.iconst 1, 1) := by decide +kernel
theorem dL_law_677 : decode cL_law 677 = .ok (.iadd, 1) := by decide +kernel
theorem dL_law_678 : decode cL_law 678 = .ok (.iaload, 1) := by decide +kernel
theorem dL_law_679 : decode cL_law 679 = .ok (.i2l, 1) := by decide +kernel
theorem dL_law_680 : decode cL_law 680 = .ok (.bipush 32, 2) := by decide +kernel
theorem dL_law_682 : decode cL_law 682 = .ok (.lshl, 1) := by decide +kernel
theorem dL_law_683 : decode cL_law 683 = .ok (.aload_n 0, 1) := by decide +kernel
theorem dL_law_684 : decode cL_law 684 = .ok (.iload_n 3, 1) := by decide +kernel
theorem dL_law_685 : decode cL_law 685 = .ok (.iconst 2, 1) := by decide +kernel
theorem dL_law_686 : decode cL_law 686 = .ok (.iadd, 1) := by decide +kernel
theorem dL_law_687 : decode cL_law 687 = .ok (.iaload, 1) := by decide +kernel
theorem dL_law_688 : decode cL_law 688 = .ok (.i2l, 1) := by decide +kernel
theorem dL_law_689 : decode cL_law 689 = .ok (.ldc2_w 21, 3) := by decide +kernel
theorem dL_law_692 : decode cL_law 692 = .ok (.land, 1) := by decide +kernel
theorem dL_law_693 : decode cL_law 693 = .ok (.lor, 1) := by decide +kernel
theorem dL_law_694 : decode cL_law 694 = .ok (.aload_n 0, 1) := by decide +kernel
theorem dL_law_695 : decode cL_law 695 = .ok (.iload_n 3, 1) := by decide +kernel
theorem dL_law_696 : decode cL_law 696 = .ok (.iconst 3, 1) := by decide +kernel
theorem dL_law_697 : decode cL_law 697 = .ok (.iadd, 1) := by decide +kernel
theorem dL_law_698 : decode cL_law 698 = .ok (.iaload, 1) := by decide +kernel
theorem dL_law_699 : decode cL_law 699 = .ok (.aload_n 0, 1) := by decide +kernel
theorem dL_law_700 : decode cL_law 700 = .ok (.iload_n 3, 1) := by decide +kernel
theorem dL_law_701 : decode cL_law 701 = .ok (.iconst 4, 1) := by decide +kernel
theorem dL_law_702 : decode cL_law 702 = .ok (.iadd, 1) := by decide +kernel
theorem dL_law_703 : decode cL_law 703 = .ok (.iaload, 1) := by decide +kernel
theorem dL_law_704 : decode cL_law 704 = .ok (.invokevirtual 58, 3) := by decide +kernel
theorem dL_law_707 : decode cL_law 707 = .ok (.pop, 1) := by decide +kernel
theorem dL_law_708 : decode cL_law 708 = .ok (.aload_n 2, 1) := by decide +kernel
theorem dL_law_709 : decode cL_law 709 = .ok (.aload_n 0, 1) := by decide +kernel
theorem dL_law_710 : decode cL_law 710 = .ok (.iload_n 3, 1) := by decide +kernel
theorem dL_law_711 : decode cL_law 711 = .ok (.iconst 1, 1) := by decide +kernel
theorem dL_law_712 : decode cL_law 712 = .ok (.iadd, 1) := by decide +kernel
theorem dL_law_713 : decode cL_law 713 = .ok (.iaload, 1) := by decide +kernel
theorem dL_law_714 : decode cL_law 714 = .ok (.i2l, 1) := by decide +kernel
theorem dL_law_715 : decode cL_law 715 = .ok (.bipush 32, 2) := by decide +kernel
theorem dL_law_717 : decode cL_law 717 = .ok (.lshl, 1) := by decide +kernel
theorem dL_law_718 : decode cL_law 718 = .ok (.aload_n 0, 1) := by decide +kernel
theorem dL_law_719 : decode cL_law 719 = .ok (.iload_n 3, 1) := by decide +kernel
theorem dL_law_720 : decode cL_law 720 = .ok (.iconst 2, 1) := by decide +kernel
theorem dL_law_721 : decode cL_law 721 = .ok (.iadd, 1) := by decide +kernel
theorem dL_law_722 : decode cL_law 722 = .ok (.iaload, 1) := by decide +kernel
theorem dL_law_723 : decode cL_law 723 = .ok (.i2l, 1) := by decide +kernel
theorem dL_law_724 : decode cL_law 724 = .ok (.ldc2_w 21, 3) := by decide +kernel
theorem dL_law_727 : decode cL_law 727 = .ok (.land, 1) := by decide +kernel
theorem dL_law_728 : decode cL_law 728 = .ok (.lor, 1) := by decide +kernel
theorem dL_law_729 : decode cL_law 729 = .ok (.aload_n 0, 1) := by decide +kernel
theorem dL_law_730 : decode cL_law 730 = .ok (.iload_n 3, 1) := by decide +kernel
theorem dL_law_731 : decode cL_law 731 = .ok (.iconst 3, 1) := by decide +kernel
theorem dL_law_732 : decode cL_law 732 = .ok (.iadd, 1) := by decide +kernel
theorem dL_law_733 : decode cL_law 733 = .ok (.iaload, 1) := by decide +kernel
theorem dL_law_734 : decode cL_law 734 = .ok (.aload_n 0, 1) := by decide +kernel
theorem dL_law_735 : decode cL_law 735 = .ok (.iload_n 3, 1) := by decide +kernel
theorem dL_law_736 : decode cL_law 736 = .ok (.iconst 4, 1) := by decide +kernel
theorem dL_law_737 : decode cL_law 737 = .ok (.iadd, 1) := by decide +kernel
theorem dL_law_738 : decode cL_law 738 = .ok (.iaload, 1) := by decide +kernel
theorem dL_law_739 : decode cL_law 739 = .ok (.invokevirtual 62, 3) := by decide +kernel
theorem dL_law_742 : decode cL_law 742 = .ok (.pop, 1) := by decide +kernel
theorem dL_law_743 : decode cL_law 743 = .ok (.goto 484, 3) := by decide +kernel
theorem dL_law_746 : decode cL_law 746 = .ok (.aload_n 1, 1) := by decide +kernel
theorem dL_law_747 : decode cL_law 747 = .ok (.aload_n 0, 1) := by decide +kernel
theorem dL_law_748 : decode cL_law 748 = .ok (.iload_n 3, 1) := by decide +kernel
theorem dL_law_749 : decode cL_law 749 = .ok (.iconst 1, 1) := by decide +kernel
theorem dL_law_750 : decode cL_law 750 = .ok (.iadd, 1) := by decide +kernel
theorem dL_law_751 : decode cL_law 751 = .ok (.iaload, 1) := by decide +kernel
theorem dL_law_752 : decode cL_law 752 = .ok (.i2l, 1) := by decide +kernel
theorem dL_law_753 : decode cL_law 753 = .ok (.bipush 32, 2) := by decide +kernel
theorem dL_law_755 : decode cL_law 755 = .ok (.lshl, 1) := by decide +kernel
theorem dL_law_756 : decode cL_law 756 = .ok (.aload_n 0, 1) := by decide +kernel
theorem dL_law_757 : decode cL_law 757 = .ok (.iload_n 3, 1) := by decide +kernel
theorem dL_law_758 : decode cL_law 758 = .ok (.iconst 2, 1) := by decide +kernel
theorem dL_law_759 : decode cL_law 759 = .ok (.iadd, 1) := by decide +kernel
theorem dL_law_760 : decode cL_law 760 = .ok (.iaload, 1) := by decide +kernel
theorem dL_law_761 : decode cL_law 761 = .ok (.i2l, 1) := by decide +kernel
theorem dL_law_762 : decode cL_law 762 = .ok (.ldc2_w 21, 3) := by decide +kernel
theorem dL_law_765 : decode cL_law 765 = .ok (.land, 1) := by decide +kernel
theorem dL_law_766 : decode cL_law 766 = .ok (.lor, 1) := by decide +kernel
theorem dL_law_767 : decode cL_law 767 = .ok (.aload_n 0, 1) := by decide +kernel
theorem dL_law_768 : decode cL_law 768 = .ok (.iload_n 3, 1) := by decide +kernel
theorem dL_law_769 : decode cL_law 769 = .ok (.iconst 3, 1) := by decide +kernel
theorem dL_law_770 : decode cL_law 770 = .ok (.iadd, 1) := by decide +kernel
theorem dL_law_771 : decode cL_law 771 = .ok (.iaload, 1) := by decide +kernel
theorem dL_law_772 : decode cL_law 772 = .ok (.aload_n 0, 1) := by decide +kernel
theorem dL_law_773 : decode cL_law 773 = .ok (.iload_n 3, 1) := by decide +kernel
theorem dL_law_774 : decode cL_law 774 = .ok (.iconst 4, 1) := by decide +kernel
theorem dL_law_775 : decode cL_law 775 = .ok (.iadd, 1) := by decide +kernel
theorem dL_law_776 : decode cL_law 776 = .ok (.iaload, 1) := by decide +kernel
theorem dL_law_777 : decode cL_law 777 = .ok (.aload_n 0, 1) := by decide +kernel
theorem dL_law_778 : decode cL_law 778 = .ok (.iload_n 3, 1) := by decide +kernel
theorem dL_law_779 : decode cL_law 779 = .ok (.iconst 5, 1) := by decide +kernel
theorem dL_law_780 : decode cL_law 780 = .ok (.iadd, 1) := by decide +kernel
theorem dL_law_781 : decode cL_law 781 = .ok (.iaload, 1) := by decide +kernel
theorem dL_law_782 : decode cL_law 782 = .ok (.aload_n 0, 1) := by decide +kernel
theorem dL_law_783 : decode cL_law 783 = .ok (.iload_n 3, 1) := by decide +kernel
theorem dL_law_784 : decode cL_law 784 = .ok (.bipush 6, 2) := by decide +kernel
theorem dL_law_786 : decode cL_law 786 = .ok (.iadd, 1) := by decide +kernel
theorem dL_law_787 : decode cL_law 787 = .ok (.iaload, 1) := by decide +kernel
theorem dL_law_788 : decode cL_law 788 = .ok (.invokevirtual 63, 3) := by decide +kernel
theorem dL_law_791 : decode cL_law 791 = .ok (.pop, 1) := by decide +kernel
theorem dL_law_792 : decode cL_law 792 = .ok (.aload_n 2, 1) := by decide +kernel
theorem dL_law_793 : decode cL_law 793 = .ok (.aload_n 0, 1) := by decide +kernel
theorem dL_law_794 : decode cL_law 794 = .ok (.iload_n 3, 1) := by decide +kernel
theorem dL_law_795 : decode cL_law 795 = .ok (.iconst 1, 1) := by decide +kernel
theorem dL_law_796 : decode cL_law 796 = .ok (.iadd, 1) := by decide +kernel
theorem dL_law_797 : decode cL_law 797 = .ok (.iaload, 1) := by decide +kernel
theorem dL_law_798 : decode cL_law 798 = .ok (.i2l, 1) := by decide +kernel
theorem dL_law_799 : decode cL_law 799 = .ok (.bipush 32, 2) := by decide +kernel
theorem dL_law_801 : decode cL_law 801 = .ok (.lshl, 1) := by decide +kernel
theorem dL_law_802 : decode cL_law 802 = .ok (.aload_n 0, 1) := by decide +kernel
theorem dL_law_803 : decode cL_law 803 = .ok (.iload_n 3, 1) := by decide +kernel
theorem dL_law_804 : decode cL_law 804 = .ok (.iconst 2, 1) := by decide +kernel
theorem dL_law_805 : decode cL_law 805 = .ok (.iadd, 1) := by decide +kernel
theorem dL_law_806 : decode cL_law 806 = .ok (.iaload, 1) := by decide +kernel
theorem dL_law_807 : decode cL_law 807 = .ok (.i2l, 1) := by decide +kernel
theorem dL_law_808 : decode cL_law 808 = .ok (.ldc2_w 21, 3) := by decide +kernel
theorem dL_law_811 : decode cL_law 811 = .ok (.land, 1) := by decide +kernel
theorem dL_law_812 : decode cL_law 812 = .ok (.lor, 1) := by decide +kernel
theorem dL_law_813 : decode cL_law 813 = .ok (.aload_n 0, 1) := by decide +kernel
theorem dL_law_814 : decode cL_law 814 = .ok (.iload_n 3, 1) := by decide +kernel
theorem dL_law_815 : decode cL_law 815 = .ok (.iconst 3, 1) := by decide +kernel
theorem dL_law_816 : decode cL_law 816 = .ok (.iadd, 1) := by decide +kernel
theorem dL_law_817 : decode cL_law 817 = .ok (.iaload, 1) := by decide +kernel
theorem dL_law_818 : decode cL_law 818 = .ok (.aload_n 0, 1) := by decide +kernel
theorem dL_law_819 : decode cL_law 819 = .ok (.iload_n 3, 1) := by decide +kernel
theorem dL_law_820 : decode cL_law 820 = .ok (.iconst 4, 1) := by decide +kernel
theorem dL_law_821 : decode cL_law 821 = .ok (.iadd, 1) := by decide +kernel
theorem dL_law_822 : decode cL_law 822 = .ok (.iaload, 1) := by decide +kernel
theorem dL_law_823 : decode cL_law 823 = .ok (.aload_n 0, 1) := by decide +kernel
theorem dL_law_824 : decode cL_law 824 = .ok (.iload_n 3, 1) := by decide +kernel
theorem dL_law_825 : decode cL_law 825 = .ok (.iconst 5, 1) := by decide +kernel
theorem dL_law_826 : decode cL_law 826 = .ok (.iadd, 1) := by decide +kernel
theorem dL_law_827 : decode cL_law 827 = .ok (.iaload, 1) := by decide +kernel
theorem dL_law_828 : decode cL_law 828 = .ok (.aload_n 0, 1) := by decide +kernel
theorem dL_law_829 : decode cL_law 829 = .ok (.iload_n 3, 1) := by decide +kernel
theorem dL_law_830 : decode cL_law 830 = .ok (.bipush 6, 2) := by decide +kernel
theorem dL_law_832 : decode cL_law 832 = .ok (.iadd, 1) := by decide +kernel
theorem dL_law_833 : decode cL_law 833 = .ok (.iaload, 1) := by decide +kernel
theorem dL_law_834 : decode cL_law 834 = .ok (.invokevirtual 67, 3) := by decide +kernel
theorem dL_law_837 : decode cL_law 837 = .ok (.pop, 1) := by decide +kernel
theorem dL_law_838 : decode cL_law 838 = .ok (.goto 389, 3) := by decide +kernel
theorem dL_law_841 : decode cL_law 841 = .ok (.aload_n 1, 1) := by decide +kernel
theorem dL_law_842 : decode cL_law 842 = .ok (.invokevirtual 68, 3) := by decide +kernel
theorem dL_law_845 : decode cL_law 845 = .ok (.pop, 1) := by decide +kernel
theorem dL_law_846 : decode cL_law 846 = .ok (.aload_n 2, 1) := by decide +kernel
theorem dL_law_847 : decode cL_law 847 = .ok (.invokevirtual 71, 3) := by decide +kernel
theorem dL_law_850 : decode cL_law 850 = .ok (.pop, 1) := by decide +kernel
theorem dL_law_851 : decode cL_law 851 = .ok (.goto 376, 3) := by decide +kernel
theorem dL_law_854 : decode cL_law 854 = .ok (.aload_n 1, 1) := by decide +kernel
theorem dL_law_855 : decode cL_law 855 = .ok (.invokevirtual 72, 3) := by decide +kernel
theorem dL_law_858 : decode cL_law 858 = .ok (.pop, 1) := by decide +kernel
theorem dL_law_859 : decode cL_law 859 = .ok (.aload_n 2, 1) := by decide +kernel
theorem dL_law_860 : decode cL_law 860 = .ok (.invokevirtual 75, 3) := by decide +kernel
theorem dL_law_863 : decode cL_law 863 = .ok (.pop, 1) := by decide +kernel
theorem dL_law_864 : decode cL_law 864 = .ok (.goto 363, 3) := by decide +kernel
theorem dL_law_867 : decode cL_law 867 = .ok (.aload_n 1, 1) := by decide +kernel
theorem dL_law_868 : decode cL_law 868 = .ok (.aload_n 0, 1) := by decide +kernel
theorem dL_law_869 : decode cL_law 869 = .ok (.iload_n 3, 1) := by decide +kernel
theorem dL_law_870 : decode cL_law 870 = .ok (.iconst 1, 1) := by decide +kernel
theorem dL_law_871 : decode cL_law 871 = .ok (.iadd, 1) := by decide +kernel
theorem dL_law_872 : decode cL_law 872 = .ok (.iaload, 1) := by decide +kernel
theorem dL_law_873 : decode cL_law 873 = .ok (.i2l, 1) := by decide +kernel
theorem dL_law_874 : decode cL_law 874 = .ok (.bipush 32, 2) := by decide +kernel
theorem dL_law_876 : decode cL_law 876 = .ok (.lshl, 1) := by decide +kernel
theorem dL_law_877 : decode cL_law 877 = .ok (.aload_n 0, 1) := by decide +kernel
theorem dL_law_878 : decode cL_law 878 = .ok (.iload_n 3, 1) := by decide +kernel
theorem dL_law_879 : decode cL_law 879 = .ok (.iconst 2, 1) := by decide +kernel
theorem dL_law_880 : decode cL_law 880 = .ok (.iadd, 1) := by decide +kernel
theorem dL_law_881 : decode cL_law 881 = .ok (.iaload, 1) := by decide +kernel
theorem dL_law_882 : decode cL_law 882 = .ok (.i2l, 1) := by decide +kernel
theorem dL_law_883 : decode cL_law 883 = .ok (.ldc2_w 21, 3) := by decide +kernel
theorem dL_law_886 : decode cL_law 886 = .ok (.land, 1) := by decide +kernel
theorem dL_law_887 : decode cL_law 887 = .ok (.lor, 1) := by decide +kernel
theorem dL_law_888 : decode cL_law 888 = .ok (.aload_n 0, 1) := by decide +kernel
theorem dL_law_889 : decode cL_law 889 = .ok (.iload_n 3, 1) := by decide +kernel
theorem dL_law_890 : decode cL_law 890 = .ok (.iconst 3, 1) := by decide +kernel
theorem dL_law_891 : decode cL_law 891 = .ok (.iadd, 1) := by decide +kernel
theorem dL_law_892 : decode cL_law 892 = .ok (.iaload, 1) := by decide +kernel
theorem dL_law_893 : decode cL_law 893 = .ok (.invokevirtual 76, 3) := by decide +kernel
theorem dL_law_896 : decode cL_law 896 = .ok (.pop, 1) := by decide +kernel
theorem dL_law_897 : decode cL_law 897 = .ok (.aload_n 2, 1) := by decide +kernel
theorem dL_law_898 : decode cL_law 898 = .ok (.aload_n 0, 1) := by decide +kernel
theorem dL_law_899 : decode cL_law 899 = .ok (.iload_n 3, 1) := by decide +kernel
theorem dL_law_900 : decode cL_law 900 = .ok (.iconst 1, 1) := by decide +kernel
theorem dL_law_901 : decode cL_law 901 = .ok (.iadd, 1) := by decide +kernel
theorem dL_law_902 : decode cL_law 902 = .ok (.iaload, 1) := by decide +kernel
theorem dL_law_903 : decode cL_law 903 = .ok (.i2l, 1) := by decide +kernel
theorem dL_law_904 : decode cL_law 904 = .ok (.bipush 32, 2) := by decide +kernel
theorem dL_law_906 : decode cL_law 906 = .ok (.lshl, 1) := by decide +kernel
theorem dL_law_907 : decode cL_law 907 = .ok (.aload_n 0, 1) := by decide +kernel
theorem dL_law_908 : decode cL_law 908 = .ok (.iload_n 3, 1) := by decide +kernel
theorem dL_law_909 : decode cL_law 909 = .ok (.iconst 2, 1) := by decide +kernel
theorem dL_law_910 : decode cL_law 910 = .ok (.iadd, 1) := by decide +kernel
theorem dL_law_911 : decode cL_law 911 = .ok (.iaload, 1) := by decide +kernel
theorem dL_law_912 : decode cL_law 912 = .ok (.i2l, 1) := by decide +kernel
theorem dL_law_913 : decode cL_law 913 = .ok (.ldc2_w 21, 3) := by decide +kernel
theorem dL_law_916 : decode cL_law 916 = .ok (.land, 1) := by decide +kernel
theorem dL_law_917 : decode cL_law 917 = .ok (.lor, 1) := by decide +kernel
theorem dL_law_918 : decode cL_law 918 = .ok (.aload_n 0, 1) := by decide +kernel
theorem dL_law_919 : decode cL_law 919 = .ok (.iload_n 3, 1) := by decide +kernel
theorem dL_law_920 : decode cL_law 920 = .ok (.iconst 3, 1) := by decide +kernel
theorem dL_law_921 : decode cL_law 921 = .ok (.iadd, 1) := by decide +kernel
theorem dL_law_922 : decode cL_law 922 = .ok (.iaload, 1) := by decide +kernel
theorem dL_law_923 : decode cL_law 923 = .ok (.invokevirtual 80, 3) := by decide +kernel
theorem dL_law_926 : decode cL_law 926 = .ok (.pop, 1) := by decide +kernel
theorem dL_law_927 : decode cL_law 927 = .ok (.goto 300, 3) := by decide +kernel
theorem dL_law_930 : decode cL_law 930 = .ok (.aload_n 1, 1) := by decide +kernel
theorem dL_law_931 : decode cL_law 931 = .ok (.aload_n 0, 1) := by decide +kernel
theorem dL_law_932 : decode cL_law 932 = .ok (.iload_n 3, 1) := by decide +kernel
theorem dL_law_933 : decode cL_law 933 = .ok (.iconst 1, 1) := by decide +kernel
theorem dL_law_934 : decode cL_law 934 = .ok (.iadd, 1) := by decide +kernel
theorem dL_law_935 : decode cL_law 935 = .ok (.iaload, 1) := by decide +kernel
theorem dL_law_936 : decode cL_law 936 = .ok (.aload_n 0, 1) := by decide +kernel
theorem dL_law_937 : decode cL_law 937 = .ok (.iload_n 3, 1) := by decide +kernel
theorem dL_law_938 : decode cL_law 938 = .ok (.iconst 2, 1) := by decide +kernel
theorem dL_law_939 : decode cL_law 939 = .ok (.iadd, 1) := by decide +kernel
theorem dL_law_940 : decode cL_law 940 = .ok (.iaload, 1) := by decide +kernel
theorem dL_law_941 : decode cL_law 941 = .ok (.i2l, 1) := by decide +kernel
theorem dL_law_942 : decode cL_law 942 = .ok (.bipush 32, 2) := by decide +kernel
theorem dL_law_944 : decode cL_law 944 = .ok (.lshl, 1) := by decide +kernel
theorem dL_law_945 : decode cL_law 945 = .ok (.aload_n 0, 1) := by decide +kernel
theorem dL_law_946 : decode cL_law 946 = .ok (.iload_n 3, 1) := by decide +kernel
theorem dL_law_947 : decode cL_law 947 = .ok (.iconst 3, 1) := by decide +kernel
theorem dL_law_948 : decode cL_law 948 = .ok (.iadd, 1) := by decide +kernel
theorem dL_law_949 : decode cL_law 949 = .ok (.iaload, 1) := by decide +kernel
theorem dL_law_950 : decode cL_law 950 = .ok (.i2l, 1) := by decide +kernel
theorem dL_law_951 : decode cL_law 951 = .ok (.ldc2_w 21, 3) := by decide +kernel
theorem dL_law_954 : decode cL_law 954 = .ok (.land, 1) := by decide +kernel
theorem dL_law_955 : decode cL_law 955 = .ok (.lor, 1) := by decide +kernel
theorem dL_law_956 : decode cL_law 956 = .ok (.invokevirtual 81, 3) := by decide +kernel
theorem dL_law_959 : decode cL_law 959 = .ok (.pop2, 1) := by decide +kernel
theorem dL_law_960 : decode cL_law 960 = .ok (.aload_n 2, 1) := by decide +kernel
theorem dL_law_961 : decode cL_law 961 = .ok (.aload_n 0, 1) := by decide +kernel
theorem dL_law_962 : decode cL_law 962 = .ok (.iload_n 3, 1) := by decide +kernel
theorem dL_law_963 : decode cL_law 963 = .ok (.iconst 1, 1) := by decide +kernel
theorem dL_law_964 : decode cL_law 964 = .ok (.iadd, 1) := by decide +kernel
theorem dL_law_965 : decode cL_law 965 = .ok (.iaload, 1) := by decide +kernel
theorem dL_law_966 : decode cL_law 966 = .ok (.aload_n 0, 1) := by decide +kernel
theorem dL_law_967 : decode cL_law 967 = .ok (.iload_n 3, 1) := by decide +kernel
theorem dL_law_968 : decode cL_law 968 = .ok (.iconst 2, 1) := by decide +kernel
theorem dL_law_969 : decode cL_law 969 = .ok (.iadd, 1) := by decide +kernel
theorem dL_law_970 : decode cL_law 970 = .ok (.iaload, 1) := by decide +kernel
theorem dL_law_971 : decode cL_law 971 = .ok (.i2l, 1) := by decide +kernel
theorem dL_law_972 : decode cL_law 972 = .ok (.bipush 32, 2) := by decide +kernel
theorem dL_law_974 : decode cL_law 974 = .ok (.lshl, 1) := by decide +kernel
theorem dL_law_975 : decode cL_law 975 = .ok (.aload_n 0, 1) := by decide +kernel
theorem dL_law_976 : decode cL_law 976 = .ok (.iload_n 3, 1) := by decide +kernel
theorem dL_law_977 : decode cL_law 977 = .ok (.iconst 3, 1) := by decide +kernel
theorem dL_law_978 : decode cL_law 978 = .ok (.iadd, 1) := by decide +kernel
theorem dL_law_979 : decode cL_law 979 = .ok (.iaload, 1) := by decide +kernel
theorem dL_law_980 : decode cL_law 980 = .ok (.i2l, 1) := by decide +kernel
theorem dL_law_981 : decode cL_law 981 = .ok (.ldc2_w 21, 3) := by decide +kernel
theorem dL_law_984 : decode cL_law 984 = .ok (.land, 1) := by decide +kernel
theorem dL_law_985 : decode cL_law 985 = .ok (.lor, 1) := by decide +kernel
theorem dL_law_986 : decode cL_law 986 = .ok (.invokevirtual 85, 3) := by decide +kernel
theorem dL_law_989 : decode cL_law 989 = .ok (.pop2, 1) := by decide +kernel
theorem dL_law_990 : decode cL_law 990 = .ok (.goto 237, 3) := by decide +kernel
theorem dL_law_993 : decode cL_law 993 = .ok (.aload_n 1, 1) := by decide +kernel
theorem dL_law_994 : decode cL_law 994 = .ok (.aload_n 0, 1) := by decide +kernel
theorem dL_law_995 : decode cL_law 995 = .ok (.iload_n 3, 1) := by decide +kernel
theorem dL_law_996 : decode cL_law 996 = .ok (.iconst 1, 1) := by decide +kernel
theorem dL_law_997 : decode cL_law 997 = .ok (.iadd, 1) := by decide +kernel
theorem dL_law_998 : decode cL_law 998 = .ok (.iaload, 1) := by decide +kernel
theorem dL_law_999 : decode cL_law 999 = .ok (.invokevirtual 86, 3) := by decide +kernel
theorem dL_law_1002 : decode cL_law 1002 = .ok (.pop, 1) := by decide +kernel
theorem dL_law_1003 : decode cL_law 1003 = .ok (.aload_n 2, 1) := by decide +kernel
theorem dL_law_1004 : decode cL_law 1004 = .ok (.aload_n 0, 1) := by decide +kernel
theorem dL_law_1005 : decode cL_law 1005 = .ok (.iload_n 3, 1) := by decide +kernel
theorem dL_law_1006 : decode cL_law 1006 = .ok (.iconst 1, 1) := by decide +kernel
theorem dL_law_1007 : decode cL_law 1007 = .ok (.iadd, 1) := by decide +kernel
theorem dL_law_1008 : decode cL_law 1008 = .ok (.iaload, 1) := by decide +kernel
theorem dL_law_1009 : decode cL_law 1009 = .ok (.invokevirtual 90, 3) := by decide +kernel
theorem dL_law_1012 : decode cL_law 1012 = .ok (.pop, 1) := by decide +kernel
theorem dL_law_1013 : decode cL_law 1013 = .ok (.goto 214, 3) := by decide +kernel
theorem dL_law_1016 : decode cL_law 1016 = .ok (.aload_n 1, 1) := by decide +kernel
theorem dL_law_1017 : decode cL_law 1017 = .ok (.aload_n 0, 1) := by decide +kernel
theorem dL_law_1018 : decode cL_law 1018 = .ok (.iload_n 3, 1) := by decide +kernel
theorem dL_law_1019 : decode cL_law 1019 = .ok (.iconst 1, 1) := by decide +kernel
theorem dL_law_1020 : decode cL_law 1020 = .ok (.iadd, 1) := by decide +kernel
theorem dL_law_1021 : decode cL_law 1021 = .ok (.iaload, 1) := by decide +kernel
theorem dL_law_1022 : decode cL_law 1022 = .ok (.invokevirtual 91, 3) := by decide +kernel
theorem dL_law_1025 : decode cL_law 1025 = .ok (.pop, 1) := by decide +kernel
theorem dL_law_1026 : decode cL_law 1026 = .ok (.aload_n 2, 1) := by decide +kernel
theorem dL_law_1027 : decode cL_law 1027 = .ok (.aload_n 0, 1) := by decide +kernel
theorem dL_law_1028 : decode cL_law 1028 = .ok (.iload_n 3, 1) := by decide +kernel
theorem dL_law_1029 : decode cL_law 1029 = .ok (.iconst 1, 1) := by decide +kernel
theorem dL_law_1030 : decode cL_law 1030 = .ok (.iadd, 1) := by decide +kernel
theorem dL_law_1031 : decode cL_law 1031 = .ok (.iaload, 1) := by decide +kernel
theorem dL_law_1032 : decode cL_law 1032 = .ok (.invokevirtual 94, 3) := by decide +kernel
theorem dL_law_1035 : decode cL_law 1035 = .ok (.pop, 1) := by decide +kernel
theorem dL_law_1036 : decode cL_law 1036 = .ok (.goto 191, 3) := by decide +kernel
theorem dL_law_1039 : decode cL_law 1039 = .ok (.aload_n 1, 1) := by decide +kernel
theorem dL_law_1040 : decode cL_law 1040 = .ok (.aload_n 0, 1) := by decide +kernel
theorem dL_law_1041 : decode cL_law 1041 = .ok (.iload_n 3, 1) := by decide +kernel
theorem dL_law_1042 : decode cL_law 1042 = .ok (.iconst 1, 1) := by decide +kernel
theorem dL_law_1043 : decode cL_law 1043 = .ok (.iadd, 1) := by decide +kernel
theorem dL_law_1044 : decode cL_law 1044 = .ok (.iaload, 1) := by decide +kernel
theorem dL_law_1045 : decode cL_law 1045 = .ok (.aload_n 0, 1) := by decide +kernel
theorem dL_law_1046 : decode cL_law 1046 = .ok (.iload_n 3, 1) := by decide +kernel
theorem dL_law_1047 : decode cL_law 1047 = .ok (.iconst 2, 1) := by decide +kernel
theorem dL_law_1048 : decode cL_law 1048 = .ok (.iadd, 1) := by decide +kernel
theorem dL_law_1049 : decode cL_law 1049 = .ok (.iaload, 1) := by decide +kernel
theorem dL_law_1050 : decode cL_law 1050 = .ok (.invokevirtual 95, 3) := by decide +kernel
theorem dL_law_1053 : decode cL_law 1053 = .ok (.pop, 1) := by decide +kernel
theorem dL_law_1054 : decode cL_law 1054 = .ok (.aload_n 2, 1) := by decide +kernel
theorem dL_law_1055 : decode cL_law 1055 = .ok (.aload_n 0, 1) := by decide +kernel
theorem dL_law_1056 : decode cL_law 1056 = .ok (.iload_n 3, 1) := by decide +kernel
theorem dL_law_1057 : decode cL_law 1057 = .ok (.iconst 1, 1) := by decide +kernel
theorem dL_law_1058 : decode cL_law 1058 = .ok (.iadd, 1) := by decide +kernel
theorem dL_law_1059 : decode cL_law 1059 = .ok (.iaload, 1) := by decide +kernel
theorem dL_law_1060 : decode cL_law 1060 = .ok (.aload_n 0, 1) := by decide +kernel
theorem dL_law_1061 : decode cL_law 1061 = .ok (.iload_n 3, 1) := by decide +kernel
theorem dL_law_1062 : decode cL_law 1062 = .ok (.iconst 2, 1) := by decide +kernel
theorem dL_law_1063 : decode cL_law 1063 = .ok (.iadd, 1) := by decide +kernel
theorem dL_law_1064 : decode cL_law 1064 = .ok (.iaload, 1) := by decide +kernel
theorem dL_law_1065 : decode cL_law 1065 = .ok (.invokevirtual 99, 3) := by decide +kernel
theorem dL_law_1068 : decode cL_law 1068 = .ok (.pop, 1) := by decide +kernel
theorem dL_law_1069 : decode cL_law 1069 = .ok (.goto 158, 3) := by decide +kernel
theorem dL_law_1072 : decode cL_law 1072 = .ok (.aload_n 1, 1) := by decide +kernel
theorem dL_law_1073 : decode cL_law 1073 = .ok (.aload_n 0, 1) := by decide +kernel
theorem dL_law_1074 : decode cL_law 1074 = .ok (.iload_n 3, 1) := by decide +kernel
theorem dL_law_1075 : decode cL_law 1075 = .ok (.iconst 1, 1) := by decide +kernel
theorem dL_law_1076 : decode cL_law 1076 = .ok (.iadd, 1) := by decide +kernel
theorem dL_law_1077 : decode cL_law 1077 = .ok (.iaload, 1) := by decide +kernel
theorem dL_law_1078 : decode cL_law 1078 = .ok (.aload_n 0, 1) := by decide +kernel
theorem dL_law_1079 : decode cL_law 1079 = .ok (.iload_n 3, 1) := by decide +kernel
theorem dL_law_1080 : decode cL_law 1080 = .ok (.iconst 2, 1) := by decide +kernel
theorem dL_law_1081 : decode cL_law 1081 = .ok (.iadd, 1) := by decide +kernel
theorem dL_law_1082 : decode cL_law 1082 = .ok (.iaload, 1) := by decide +kernel
theorem dL_law_1083 : decode cL_law 1083 = .ok (.invokevirtual 100, 3) := by decide +kernel
theorem dL_law_1086 : decode cL_law 1086 = .ok (.pop, 1) := by decide +kernel
theorem dL_law_1087 : decode cL_law 1087 = .ok (.aload_n 2, 1) := by decide +kernel
theorem dL_law_1088 : decode cL_law 1088 = .ok (.aload_n 0, 1) := by decide +kernel
theorem dL_law_1089 : decode cL_law 1089 = .ok (.iload_n 3, 1) := by decide +kernel
theorem dL_law_1090 : decode cL_law 1090 = .ok (.iconst 1, 1) := by decide +kernel
theorem dL_law_1091 : decode cL_law 1091 = .ok (.iadd, 1) := by decide +kernel
theorem dL_law_1092 : decode cL_law 1092 = .ok (.iaload, 1) := by decide +kernel
theorem dL_law_1093 : decode cL_law 1093 = .ok (.aload_n 0, 1) := by decide +kernel
theorem dL_law_1094 : decode cL_law 1094 = .ok (.iload_n 3, 1) := by decide +kernel
theorem dL_law_1095 : decode cL_law 1095 = .ok (.iconst 2, 1) := by decide +kernel
theorem dL_law_1096 : decode cL_law 1096 = .ok (.iadd, 1) := by decide +kernel
theorem dL_law_1097 : decode cL_law 1097 = .ok (.iaload, 1) := by decide +kernel
theorem dL_law_1098 : decode cL_law 1098 = .ok (.invokevirtual 103, 3) := by decide +kernel
theorem dL_law_1101 : decode cL_law 1101 = .ok (.pop, 1) := by decide +kernel
theorem dL_law_1102 : decode cL_law 1102 = .ok (.goto 125, 3) := by decide +kernel
theorem dL_law_1105 : decode cL_law 1105 = .ok (.aload_n 1, 1) := by decide +kernel
theorem dL_law_1106 : decode cL_law 1106 = .ok (.aload_n 0, 1) := by decide +kernel
theorem dL_law_1107 : decode cL_law 1107 = .ok (.iload_n 3, 1) := by decide +kernel
theorem dL_law_1108 : decode cL_law 1108 = .ok (.iconst 1, 1) := by decide +kernel
theorem dL_law_1109 : decode cL_law 1109 = .ok (.iadd, 1) := by decide +kernel
theorem dL_law_1110 : decode cL_law 1110 = .ok (.iaload, 1) := by decide +kernel
theorem dL_law_1111 : decode cL_law 1111 = .ok (.invokevirtual 104, 3) := by decide +kernel
theorem dL_law_1114 : decode cL_law 1114 = .ok (.pop, 1) := by decide +kernel
theorem dL_law_1115 : decode cL_law 1115 = .ok (.aload_n 2, 1) := by decide +kernel
theorem dL_law_1116 : decode cL_law 1116 = .ok (.aload_n 0, 1) := by decide +kernel
theorem dL_law_1117 : decode cL_law 1117 = .ok (.iload_n 3, 1) := by decide +kernel
theorem dL_law_1118 : decode cL_law 1118 = .ok (.iconst 1, 1) := by decide +kernel
theorem dL_law_1119 : decode cL_law 1119 = .ok (.iadd, 1) := by decide +kernel
theorem dL_law_1120 : decode cL_law 1120 = .ok (.iaload, 1) := by decide +kernel
theorem dL_law_1121 : decode cL_law 1121 = .ok (.invokevirtual 107, 3) := by decide +kernel
theorem dL_law_1124 : decode cL_law 1124 = .ok (.pop, 1) := by decide +kernel
theorem dL_law_1125 : decode cL_law 1125 = .ok (.goto 102, 3) := by decide +kernel
theorem dL_law_1128 : decode cL_law 1128 = .ok (.aload_n 1, 1) := by decide +kernel
theorem dL_law_1129 : decode cL_law 1129 = .ok (.aload_n 0, 1) := by decide +kernel
theorem dL_law_1130 : decode cL_law 1130 = .ok (.iload_n 3, 1) := by decide +kernel
theorem dL_law_1131 : decode cL_law 1131 = .ok (.iconst 1, 1) := by decide +kernel
theorem dL_law_1132 : decode cL_law 1132 = .ok (.iadd, 1) := by decide +kernel
theorem dL_law_1133 : decode cL_law 1133 = .ok (.iaload, 1) := by decide +kernel
theorem dL_law_1134 : decode cL_law 1134 = .ok (.aload_n 0, 1) := by decide +kernel
theorem dL_law_1135 : decode cL_law 1135 = .ok (.iload_n 3, 1) := by decide +kernel
theorem dL_law_1136 : decode cL_law 1136 = .ok (.iconst 2, 1) := by decide +kernel
theorem dL_law_1137 : decode cL_law 1137 = .ok (.iadd, 1) := by decide +kernel
theorem dL_law_1138 : decode cL_law 1138 = .ok (.iaload, 1) := by decide +kernel
theorem dL_law_1139 : decode cL_law 1139 = .ok (.invokevirtual 108, 3) := by decide +kernel
theorem dL_law_1142 : decode cL_law 1142 = .ok (.pop, 1) := by decide +kernel
theorem dL_law_1143 : decode cL_law 1143 = .ok (.aload_n 2, 1) := by decide +kernel
theorem dL_law_1144 : decode cL_law 1144 = .ok (.aload_n 0, 1) := by decide +kernel
theorem dL_law_1145 : decode cL_law 1145 = .ok (.iload_n 3, 1) := by decide +kernel
theorem dL_law_1146 : decode cL_law 1146 = .ok (.iconst 1, 1) := by decide +kernel
theorem dL_law_1147 : decode cL_law 1147 = .ok (.iadd, 1) := by decide +kernel
theorem dL_law_1148 : decode cL_law 1148 = .ok (.iaload, 1) := by decide +kernel
theorem dL_law_1149 : decode cL_law 1149 = .ok (.aload_n 0, 1) := by decide +kernel
theorem dL_law_1150 : decode cL_law 1150 = .ok (.iload_n 3, 1) := by decide +kernel
theorem dL_law_1151 : decode cL_law 1151 = .ok (.iconst 2, 1) := by decide +kernel
theorem dL_law_1152 : decode cL_law 1152 = .ok (.iadd, 1) := by decide +kernel
theorem dL_law_1153 : decode cL_law 1153 = .ok (.iaload, 1) := by decide +kernel
theorem dL_law_1154 : decode cL_law 1154 = .ok (.invokevirtual 111, 3) := by decide +kernel
theorem dL_law_1157 : decode cL_law 1157 = .ok (.pop, 1) := by decide +kernel
theorem dL_law_1158 : decode cL_law 1158 = .ok (.goto 69, 3) := by decide +kernel
theorem dL_law_1161 : decode cL_law 1161 = .ok (.aload_n 1, 1) := by decide +kernel
theorem dL_law_1162 : decode cL_law 1162 = .ok (.aload_n 0, 1) := by decide +kernel
theorem dL_law_1163 : decode cL_law 1163 = .ok (.iload_n 3, 1) := by decide +kernel
theorem dL_law_1164 : decode cL_law 1164 = .ok (.iconst 1, 1) := by decide +kernel
theorem dL_law_1165 : decode cL_law 1165 = .ok (.iadd, 1) := by decide +kernel
theorem dL_law_1166 : decode cL_law 1166 = .ok (.iaload, 1) := by decide +kernel
theorem dL_law_1167 : decode cL_law 1167 = .ok (.aload_n 0, 1) := by decide +kernel
theorem dL_law_1168 : decode cL_law 1168 = .ok (.iload_n 3, 1) := by decide +kernel
theorem dL_law_1169 : decode cL_law 1169 = .ok (.iconst 2, 1) := by decide +kernel
theorem dL_law_1170 : decode cL_law 1170 = .ok (.iadd, 1) := by decide +kernel
theorem dL_law_1171 : decode cL_law 1171 = .ok (.iaload, 1) := by decide +kernel
theorem dL_law_1172 : decode cL_law 1172 = .ok (.aload_n 0, 1) := by decide +kernel
theorem dL_law_1173 : decode cL_law 1173 = .ok (.iload_n 3, 1) := by decide +kernel
theorem dL_law_1174 : decode cL_law 1174 = .ok (.iconst 3, 1) := by decide +kernel
theorem dL_law_1175 : decode cL_law 1175 = .ok (.iadd, 1) := by decide +kernel
theorem dL_law_1176 : decode cL_law 1176 = .ok (.iaload, 1) := by decide +kernel
theorem dL_law_1177 : decode cL_law 1177 = .ok (.invokevirtual 112, 3) := by decide +kernel
theorem dL_law_1180 : decode cL_law 1180 = .ok (.aload_n 2, 1) := by decide +kernel
theorem dL_law_1181 : decode cL_law 1181 = .ok (.aload_n 0, 1) := by decide +kernel
theorem dL_law_1182 : decode cL_law 1182 = .ok (.iload_n 3, 1) := by decide +kernel
theorem dL_law_1183 : decode cL_law 1183 = .ok (.iconst 1, 1) := by decide +kernel
theorem dL_law_1184 : decode cL_law 1184 = .ok (.iadd, 1) := by decide +kernel
theorem dL_law_1185 : decode cL_law 1185 = .ok (.iaload, 1) := by decide +kernel
theorem dL_law_1186 : decode cL_law 1186 = .ok (.aload_n 0, 1) := by decide +kernel
theorem dL_law_1187 : decode cL_law 1187 = .ok (.iload_n 3, 1) := by decide +kernel
theorem dL_law_1188 : decode cL_law 1188 = .ok (.iconst 2, 1) := by decide +kernel
theorem dL_law_1189 : decode cL_law 1189 = .ok (.iadd, 1) := by decide +kernel
theorem dL_law_1190 : decode cL_law 1190 = .ok (.iaload, 1) := by decide +kernel
theorem dL_law_1191 : decode cL_law 1191 = .ok (.aload_n 0, 1) := by decide +kernel
theorem dL_law_1192 : decode cL_law 1192 = .ok (.iload_n 3, 1) := by decide +kernel
theorem dL_law_1193 : decode cL_law 1193 = .ok (.iconst 3, 1) := by decide +kernel
theorem dL_law_1194 : decode cL_law 1194 = .ok (.iadd, 1) := by decide +kernel
theorem dL_law_1195 : decode cL_law 1195 = .ok (.iaload, 1) := by decide +kernel
theorem dL_law_1196 : decode cL_law 1196 = .ok (.invokevirtual 116, 3) := by decide +kernel
theorem dL_law_1199 : decode cL_law 1199 = .ok (.if_icmp .eq 28, 3) := by decide +kernel
theorem dL_law_1202 : decode cL_law 1202 = .ok (.iconst 0, 1) := by decide +kernel
theorem dL_law_1203 : decode cL_law 1203 = .ok (.ireturn, 1) := by decide +kernel
theorem dL_law_1204 : decode cL_law 1204 = .ok (.aload_n 1, 1) := by decide +kernel
theorem dL_law_1205 : decode cL_law 1205 = .ok (.aload_n 0, 1) := by decide +kernel
theorem dL_law_1206 : decode cL_law 1206 = .ok (.iload_n 3, 1) := by decide +kernel
theorem dL_law_1207 : decode cL_law 1207 = .ok (.iconst 1, 1) := by decide +kernel
theorem dL_law_1208 : decode cL_law 1208 = .ok (.iadd, 1) := by decide +kernel
theorem dL_law_1209 : decode cL_law 1209 = .ok (.iaload, 1) := by decide +kernel
theorem dL_law_1210 : decode cL_law 1210 = .ok (.invokevirtual 117, 3) := by decide +kernel
theorem dL_law_1213 : decode cL_law 1213 = .ok (.pop, 1) := by decide +kernel
theorem dL_law_1214 : decode cL_law 1214 = .ok (.aload_n 2, 1) := by decide +kernel
theorem dL_law_1215 : decode cL_law 1215 = .ok (.aload_n 0, 1) := by decide +kernel
theorem dL_law_1216 : decode cL_law 1216 = .ok (.iload_n 3, 1) := by decide +kernel
theorem dL_law_1217 : decode cL_law 1217 = .ok (.iconst 1, 1) := by decide +kernel
theorem dL_law_1218 : decode cL_law 1218 = .ok (.iadd, 1) := by decide +kernel
theorem dL_law_1219 : decode cL_law 1219 = .ok (.iaload, 1) := by decide +kernel
theorem dL_law_1220 : decode cL_law 1220 = .ok (.invokevirtual 120, 3) := by decide +kernel
theorem dL_law_1223 : decode cL_law 1223 = .ok (.pop, 1) := by decide +kernel
theorem dL_law_1224 : decode cL_law 1224 = .ok (.goto 3, 3) := by decide +kernel
theorem dL_law_1227 : decode cL_law 1227 = .ok (.iinc 3 9, 3) := by decide +kernel
end
section
theorem dL_law_1230 : decode cL_law 1230 = .ok (.goto (-1200), 3) := by decide +kernel
theorem dL_law_1233 : decode cL_law 1233 = .ok (.iconst 1, 1) := by decide +kernel
theorem dL_law_1234 : decode cL_law 1234 = .ok (.ireturn, 1) := by decide +kernel
end
