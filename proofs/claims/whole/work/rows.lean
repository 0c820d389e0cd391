section
-- ===== PART A: goes FIRST, ahead of the names: the tables' words, and 'selects' of the private methods out of them =====
/-- a private method of a class that the tables say can be made, by its rows of tables_1 -/
def lw_okq (q : MethodName × Nat) : Prop := (q.1.cls ≠ "java/lang/invoke/MethodHandle" ∧ q.1.cls ≠ "java/lang/invoke/VarHandle") ∧ Cond.instantiable q.1.cls q.2 ∈ tables_1 ∧ Cond.privateMethod q.1 ∈ tables_1 ∧ Cond.instanceMethod q.1 ∈ tables_1
theorem lw_p0 : lw_okq (⟨"StageDesk", "stageAt", "(I)LStageDesk$Stage;"⟩, 7) := ⟨⟨by decide +kernel, by decide +kernel⟩, List.mem_of_getElem? (i := 14) (by decide +kernel), List.mem_of_getElem? (i := 295) (by decide +kernel), List.mem_of_getElem? (i := 296) (by decide +kernel)⟩
theorem lw_p1 : lw_okq (⟨"StageDesk", "isTarget", "(I)Z"⟩, 7) := ⟨⟨by decide +kernel, by decide +kernel⟩, List.mem_of_getElem? (i := 14) (by decide +kernel), List.mem_of_getElem? (i := 299) (by decide +kernel), List.mem_of_getElem? (i := 300) (by decide +kernel)⟩
theorem lw_p2 : lw_okq (⟨"StageDesk", "makeEvent", "()I"⟩, 7) := ⟨⟨by decide +kernel, by decide +kernel⟩, List.mem_of_getElem? (i := 14) (by decide +kernel), List.mem_of_getElem? (i := 322) (by decide +kernel), List.mem_of_getElem? (i := 323) (by decide +kernel)⟩
theorem lw_p3 : lw_okq (⟨"StageDesk", "passTick", "()V"⟩, 7) := ⟨⟨by decide +kernel, by decide +kernel⟩, List.mem_of_getElem? (i := 14) (by decide +kernel), List.mem_of_getElem? (i := 376) (by decide +kernel), List.mem_of_getElem? (i := 377) (by decide +kernel)⟩
theorem lw_p4 : lw_okq (⟨"StageDesk", "fireTimers", "()V"⟩, 7) := ⟨⟨by decide +kernel, by decide +kernel⟩, List.mem_of_getElem? (i := 14) (by decide +kernel), List.mem_of_getElem? (i := 385) (by decide +kernel), List.mem_of_getElem? (i := 386) (by decide +kernel)⟩
theorem lw_p5 : lw_okq (⟨"StageDesk", "fire", "(LStageDesk$Stage;I)V"⟩, 7) := ⟨⟨by decide +kernel, by decide +kernel⟩, List.mem_of_getElem? (i := 14) (by decide +kernel), List.mem_of_getElem? (i := 389) (by decide +kernel), List.mem_of_getElem? (i := 390) (by decide +kernel)⟩
theorem lw_p6 : lw_okq (⟨"StageDesk", "letWork", "(LStageDesk$Stage;LStageDesk$Worker;)V"⟩, 7) := ⟨⟨by decide +kernel, by decide +kernel⟩, List.mem_of_getElem? (i := 14) (by decide +kernel), List.mem_of_getElem? (i := 394) (by decide +kernel), List.mem_of_getElem? (i := 395) (by decide +kernel)⟩
theorem lw_p7 : lw_okq (⟨"StageDesk", "workOnBatch", "(LStageDesk$Stage;LStageDesk$Worker;)V"⟩, 7) := ⟨⟨by decide +kernel, by decide +kernel⟩, List.mem_of_getElem? (i := 14) (by decide +kernel), List.mem_of_getElem? (i := 398) (by decide +kernel), List.mem_of_getElem? (i := 399) (by decide +kernel)⟩
theorem lw_p8 : lw_okq (⟨"StageDesk", "offerGifts", "(LStageDesk$Gifts;)Z"⟩, 7) := ⟨⟨by decide +kernel, by decide +kernel⟩, List.mem_of_getElem? (i := 14) (by decide +kernel), List.mem_of_getElem? (i := 418) (by decide +kernel), List.mem_of_getElem? (i := 419) (by decide +kernel)⟩
theorem lw_p9 : lw_okq (⟨"StageDesk", "finishBatch", "(LStageDesk$Stage;LStageDesk$Worker;)V"⟩, 7) := ⟨⟨by decide +kernel, by decide +kernel⟩, List.mem_of_getElem? (i := 14) (by decide +kernel), List.mem_of_getElem? (i := 422) (by decide +kernel), List.mem_of_getElem? (i := 423) (by decide +kernel)⟩
theorem lw_p10 : lw_okq (⟨"StageDeskModel", "isStage", "(I)Z"⟩, 48) := ⟨⟨by decide +kernel, by decide +kernel⟩, List.mem_of_getElem? (i := 538) (by decide +kernel), List.mem_of_getElem? (i := 703) (by decide +kernel), List.mem_of_getElem? (i := 704) (by decide +kernel)⟩
theorem lw_p11 : lw_okq (⟨"StageDeskModel", "refusal", "(I)I"⟩, 48) := ⟨⟨by decide +kernel, by decide +kernel⟩, List.mem_of_getElem? (i := 538) (by decide +kernel), List.mem_of_getElem? (i := 715) (by decide +kernel), List.mem_of_getElem? (i := 716) (by decide +kernel)⟩
theorem lw_p12 : lw_okq (⟨"StageDeskModel", "offer", "(II)Z"⟩, 48) := ⟨⟨by decide +kernel, by decide +kernel⟩, List.mem_of_getElem? (i := 538) (by decide +kernel), List.mem_of_getElem? (i := 719) (by decide +kernel), List.mem_of_getElem? (i := 720) (by decide +kernel)⟩
theorem lw_p13 : lw_okq (⟨"StageDeskModel", "stand", "(II)V"⟩, 48) := ⟨⟨by decide +kernel, by decide +kernel⟩, List.mem_of_getElem? (i := 538) (by decide +kernel), List.mem_of_getElem? (i := 723) (by decide +kernel), List.mem_of_getElem? (i := 724) (by decide +kernel)⟩
theorem lw_p14 : lw_okq (⟨"StageDeskModel", "make", "(II)I"⟩, 48) := ⟨⟨by decide +kernel, by decide +kernel⟩, List.mem_of_getElem? (i := 538) (by decide +kernel), List.mem_of_getElem? (i := 727) (by decide +kernel), List.mem_of_getElem? (i := 728) (by decide +kernel)⟩
theorem lw_p15 : lw_okq (⟨"StageDeskModel", "forgetTimer", "(I)V"⟩, 48) := ⟨⟨by decide +kernel, by decide +kernel⟩, List.mem_of_getElem? (i := 538) (by decide +kernel), List.mem_of_getElem? (i := 751) (by decide +kernel), List.mem_of_getElem? (i := 752) (by decide +kernel)⟩
def lw_privs_1 : List (MethodName × Nat) := [(⟨"StageDesk", "stageAt", "(I)LStageDesk$Stage;"⟩, 7), (⟨"StageDesk", "isTarget", "(I)Z"⟩, 7), (⟨"StageDesk", "makeEvent", "()I"⟩, 7), (⟨"StageDesk", "passTick", "()V"⟩, 7), (⟨"StageDesk", "fireTimers", "()V"⟩, 7), (⟨"StageDesk", "fire", "(LStageDesk$Stage;I)V"⟩, 7), (⟨"StageDesk", "letWork", "(LStageDesk$Stage;LStageDesk$Worker;)V"⟩, 7), (⟨"StageDesk", "workOnBatch", "(LStageDesk$Stage;LStageDesk$Worker;)V"⟩, 7), (⟨"StageDesk", "offerGifts", "(LStageDesk$Gifts;)Z"⟩, 7), (⟨"StageDesk", "finishBatch", "(LStageDesk$Stage;LStageDesk$Worker;)V"⟩, 7), (⟨"StageDeskModel", "isStage", "(I)Z"⟩, 48), (⟨"StageDeskModel", "refusal", "(I)I"⟩, 48), (⟨"StageDeskModel", "offer", "(II)Z"⟩, 48), (⟨"StageDeskModel", "stand", "(II)V"⟩, 48), (⟨"StageDeskModel", "make", "(II)I"⟩, 48), (⟨"StageDeskModel", "forgetTimer", "(I)V"⟩, 48)]
theorem lw_r1 : ∀ q ∈ lw_privs_1, lw_okq q := List.forall_mem_cons.mpr ⟨lw_p0, List.forall_mem_cons.mpr ⟨lw_p1, List.forall_mem_cons.mpr ⟨lw_p2, List.forall_mem_cons.mpr ⟨lw_p3, List.forall_mem_cons.mpr ⟨lw_p4, List.forall_mem_cons.mpr ⟨lw_p5, List.forall_mem_cons.mpr ⟨lw_p6, List.forall_mem_cons.mpr ⟨lw_p7, List.forall_mem_cons.mpr ⟨lw_p8, List.forall_mem_cons.mpr ⟨lw_p9, List.forall_mem_cons.mpr ⟨lw_p10, List.forall_mem_cons.mpr ⟨lw_p11, List.forall_mem_cons.mpr ⟨lw_p12, List.forall_mem_cons.mpr ⟨lw_p13, List.forall_mem_cons.mpr ⟨lw_p14, List.forall_mem_cons.mpr ⟨lw_p15, fun _ h => absurd h List.not_mem_nil⟩⟩⟩⟩⟩⟩⟩⟩⟩⟩⟩⟩⟩⟩⟩⟩
theorem lw_p16 : lw_okq (⟨"StageDeskModel", "oneTick", "()V"⟩, 48) := ⟨⟨by decide +kernel, by decide +kernel⟩, List.mem_of_getElem? (i := 538) (by decide +kernel), List.mem_of_getElem? (i := 763) (by decide +kernel), List.mem_of_getElem? (i := 764) (by decide +kernel)⟩
theorem lw_p17 : lw_okq (⟨"StageDeskModel", "ring", "()V"⟩, 48) := ⟨⟨by decide +kernel, by decide +kernel⟩, List.mem_of_getElem? (i := 538) (by decide +kernel), List.mem_of_getElem? (i := 767) (by decide +kernel), List.mem_of_getElem? (i := 768) (by decide +kernel)⟩
theorem lw_p18 : lw_okq (⟨"StageDeskModel", "work", "(II)V"⟩, 48) := ⟨⟨by decide +kernel, by decide +kernel⟩, List.mem_of_getElem? (i := 538) (by decide +kernel), List.mem_of_getElem? (i := 771) (by decide +kernel), List.mem_of_getElem? (i := 772) (by decide +kernel)⟩
theorem lw_p19 : lw_okq (⟨"StageDeskModel", "give", "(II)V"⟩, 48) := ⟨⟨by decide +kernel, by decide +kernel⟩, List.mem_of_getElem? (i := 538) (by decide +kernel), List.mem_of_getElem? (i := 775) (by decide +kernel), List.mem_of_getElem? (i := 776) (by decide +kernel)⟩
theorem lw_p20 : lw_okq (⟨"StageDeskModel", "listGifts", "(II)V"⟩, 48) := ⟨⟨by decide +kernel, by decide +kernel⟩, List.mem_of_getElem? (i := 538) (by decide +kernel), List.mem_of_getElem? (i := 779) (by decide +kernel), List.mem_of_getElem? (i := 780) (by decide +kernel)⟩
theorem lw_p21 : lw_okq (⟨"StageDeskModel", "gift", "(IIII)V"⟩, 48) := ⟨⟨by decide +kernel, by decide +kernel⟩, List.mem_of_getElem? (i := 538) (by decide +kernel), List.mem_of_getElem? (i := 783) (by decide +kernel), List.mem_of_getElem? (i := 784) (by decide +kernel)⟩
theorem lw_p22 : lw_okq (⟨"StageDeskModel", "finish", "(II)V"⟩, 48) := ⟨⟨by decide +kernel, by decide +kernel⟩, List.mem_of_getElem? (i := 538) (by decide +kernel), List.mem_of_getElem? (i := 787) (by decide +kernel), List.mem_of_getElem? (i := 788) (by decide +kernel)⟩
theorem lw_p23 : lw_okq (⟨"StageDeskModel", "control", "(I)V"⟩, 48) := ⟨⟨by decide +kernel, by decide +kernel⟩, List.mem_of_getElem? (i := 538) (by decide +kernel), List.mem_of_getElem? (i := 791) (by decide +kernel), List.mem_of_getElem? (i := 792) (by decide +kernel)⟩
theorem lw_p24 : lw_okq (⟨"StageDeskModel", "response", "(I)I"⟩, 48) := ⟨⟨by decide +kernel, by decide +kernel⟩, List.mem_of_getElem? (i := 538) (by decide +kernel), List.mem_of_getElem? (i := 795) (by decide +kernel), List.mem_of_getElem? (i := 796) (by decide +kernel)⟩
def lw_privs_2 : List (MethodName × Nat) := [(⟨"StageDeskModel", "oneTick", "()V"⟩, 48), (⟨"StageDeskModel", "ring", "()V"⟩, 48), (⟨"StageDeskModel", "work", "(II)V"⟩, 48), (⟨"StageDeskModel", "give", "(II)V"⟩, 48), (⟨"StageDeskModel", "listGifts", "(II)V"⟩, 48), (⟨"StageDeskModel", "gift", "(IIII)V"⟩, 48), (⟨"StageDeskModel", "finish", "(II)V"⟩, 48), (⟨"StageDeskModel", "control", "(I)V"⟩, 48), (⟨"StageDeskModel", "response", "(I)I"⟩, 48)]
theorem lw_r2 : ∀ q ∈ lw_privs_2, lw_okq q := List.forall_mem_cons.mpr ⟨lw_p16, List.forall_mem_cons.mpr ⟨lw_p17, List.forall_mem_cons.mpr ⟨lw_p18, List.forall_mem_cons.mpr ⟨lw_p19, List.forall_mem_cons.mpr ⟨lw_p20, List.forall_mem_cons.mpr ⟨lw_p21, List.forall_mem_cons.mpr ⟨lw_p22, List.forall_mem_cons.mpr ⟨lw_p23, List.forall_mem_cons.mpr ⟨lw_p24, fun _ h => absurd h List.not_mem_nil⟩⟩⟩⟩⟩⟩⟩⟩⟩
def lw_privs : List (MethodName × Nat) := lw_privs_1 ++ (lw_privs_2)
def lw_tbl : List Cond := k2_sels lw_privs ++ tables_1
theorem lw_privs_ok : ∀ q ∈ lw_privs, lw_okq q := by
  show ∀ q ∈ lw_privs_1 ++ (lw_privs_2), lw_okq q
  exact List.forall_mem_append.mpr ⟨lw_r1, lw_r2⟩
end
section
/-! ===== BEGIN words of one list among another's, by their places ===== -/
theorem goodIn_r {big : List Cond} (ws : List Cond) (ps : List Nat) (hp : ws = ps.filterMap (fun i => big[i]?)) (h : ws.all goodWord = true) : GoodIn big ws := by
  intro w hw
  have h1 := List.all_eq_true.mp h w hw
  rw [hp] at hw
  obtain ⟨i, -, hi⟩ := List.mem_filterMap.mp hw
  have hm : w ∈ big := by first | exact List.mem_of_getElem? hi | exact List.getElem?_mem hi
  exact ⟨hm, good_of_word h1⟩
theorem goodIn_app {big a b : List Cond} (ha : GoodIn big a) (hb : GoodIn big b) : GoodIn big (a ++ b) := fun w h => (List.mem_append.mp h).elim (ha w) (hb w)
theorem goodIn_ca {big a b : List Cond} {c : Cond} (ha : GoodIn big (c :: a)) (hb : GoodIn big b) : GoodIn big (c :: (a ++ b)) := fun w h => (List.mem_cons.mp h).elim (fun e => ha w (List.mem_cons.mpr (Or.inl e))) (fun h => (List.mem_append.mp h).elim (fun h => ha w (List.mem_cons.mpr (Or.inr h))) (hb w))
theorem goodIn_sub {big ws : List Cond} (hm : ∀ w ∈ ws, w ∈ big) (h : ws.all goodWord = true) : GoodIn big ws := fun w hw => ⟨hm w hw, good_of_word (List.all_eq_true.mp h w hw)⟩
/-! ===== END ===== -/

/-! ===== BEGIN printed: names, fields, word lists, decode rows ===== -/
def RX0 : String := "StageDesk$DoneRow"
def TX0 : u_T := fun k => match k with
  | 0 => ("StageDesk$DoneRow", "numbers", "[I", false)
  | 1 => ("StageDesk$DoneRow", "values", "[I", false)
  | _ => ("StageDesk$DoneRow", "size", "I", false)
def tyX0 : Nat → FieldType := fun k => match k with
  | 0 => .array .int
  | 1 => .array .int
  | _ => .int
abbrev wsX00 : List Cond := u_ws RX0 TX0 3
theorem nmX0 : ∀ a, a < 3 → ∀ b, b < 3 → a ≠ b → (TX0 a).2.1 ≠ (TX0 b).2.1 := by decide +kernel
theorem tyX0_ok : ∀ k, k < 3 → parseFieldDescriptor (TX0 k).2.2.1 = some (tyX0 k) := by decide +kernel
abbrev cX0_init : ByteArray := prog_2_method_1_code
def yX0_init : MethodName := ⟨RX0, "<init>", "()V"⟩
abbrev cX0_append : ByteArray := prog_2_method_2_code
def yX0_append : MethodName := ⟨RX0, "append", "(II)V"⟩
def RX1 : String := "StageDesk$EventRow"
def TX1 : u_T := fun k => match k with
  | 0 => ("StageDesk$EventRow", "numbers", "[I", true)
  | 1 => ("StageDesk$EventRow", "values", "[I", true)
  | 2 => ("StageDesk$EventRow", "births", "[I", true)
  | _ => ("StageDesk$EventRow", "size", "I", false)
def tyX1 : Nat → FieldType := fun k => match k with
  | 0 => .array .int
  | 1 => .array .int
  | 2 => .array .int
  | _ => .int
abbrev wsX10 : List Cond := u_ws RX1 TX1 4
theorem nmX1 : ∀ a, a < 4 → ∀ b, b < 4 → a ≠ b → (TX1 a).2.1 ≠ (TX1 b).2.1 := by decide +kernel
theorem tyX1_ok : ∀ k, k < 4 → parseFieldDescriptor (TX1 k).2.2.1 = some (tyX1 k) := by decide +kernel
abbrev cX1_init : ByteArray := prog_3_method_1_code
def yX1_init : MethodName := ⟨RX1, "<init>", "(I)V"⟩
abbrev cX1_append : ByteArray := prog_3_method_2_code
def yX1_append : MethodName := ⟨RX1, "append", "(III)V"⟩
abbrev cX1_becomeFirstOf : ByteArray := prog_3_method_3_code
def yX1_becomeFirstOf : MethodName := ⟨RX1, "becomeFirstOf", "(LStageDesk$EventRow;I)V"⟩
abbrev cX1_dropFirst : ByteArray := prog_3_method_4_code
def yX1_dropFirst : MethodName := ⟨RX1, "dropFirst", "(I)V"⟩
def RX2 : String := "StageDesk$Gifts"
def TX2 : u_T := fun k => match k with
  | 0 => ("StageDesk$Gifts", "targets", "[LStageDesk$Stage;", true)
  | 1 => ("StageDesk$Gifts", "values", "[I", true)
  | 2 => ("StageDesk$Gifts", "births", "[I", true)
  | 3 => ("StageDesk$Gifts", "size", "I", false)
  | 4 => ("StageDesk$Gifts", "next", "I", false)
  | _ => ("StageDesk$Gifts", "number", "I", false)
def tyX2 : Nat → FieldType := fun k => match k with
  | 0 => .array (.object "StageDesk$Stage")
  | 1 => .array .int
  | 2 => .array .int
  | 3 => .int
  | 4 => .int
  | _ => .int
abbrev wsX20 : List Cond := u_ws RX2 TX2 6
theorem nmX2 : ∀ a, a < 6 → ∀ b, b < 6 → a ≠ b → (TX2 a).2.1 ≠ (TX2 b).2.1 := by decide +kernel
theorem tyX2_ok : ∀ k, k < 6 → parseFieldDescriptor (TX2 k).2.2.1 = some (tyX2 k) := by decide +kernel
abbrev cX2_init : ByteArray := prog_4_method_1_code
def yX2_init : MethodName := ⟨RX2, "<init>", "()V"⟩
abbrev cX2_clear : ByteArray := prog_4_method_2_code
def yX2_clear : MethodName := ⟨RX2, "clear", "()V"⟩
abbrev cX2_append : ByteArray := prog_4_method_3_code
def yX2_append : MethodName := ⟨RX2, "append", "(LStageDesk$Stage;II)V"⟩
def RX3 : String := "StageDesk$Stage"
def TX3 : u_T := fun k => match k with
  | 0 => ("StageDesk$Stage", "sort", "I", true)
  | 1 => ("StageDesk$Stage", "bound", "I", true)
  | 2 => ("StageDesk$Stage", "cost", "I", true)
  | 3 => ("StageDesk$Stage", "queue", "LStageDesk$EventRow;", true)
  | 4 => ("StageDesk$Stage", "workers", "[LStageDesk$Worker;", true)
  | 5 => ("StageDesk$Stage", "times", "LStageDesk$Times;", true)
  | 6 => ("StageDesk$Stage", "first", "LStageDesk$Stage;", false)
  | 7 => ("StageDesk$Stage", "second", "LStageDesk$Stage;", false)
  | 8 => ("StageDesk$Stage", "closed", "Z", false)
  | 9 => ("StageDesk$Stage", "reserved", "I", false)
  | 10 => ("StageDesk$Stage", "rate", "I", false)
  | 11 => ("StageDesk$Stage", "depth", "I", false)
  | 12 => ("StageDesk$Stage", "tokens", "I", false)
  | 13 => ("StageDesk$Stage", "goal", "I", false)
  | 14 => ("StageDesk$Stage", "workerCount", "I", false)
  | 15 => ("StageDesk$Stage", "batchSize", "I", false)
  | 16 => ("StageDesk$Stage", "refusals", "I", false)
  | 17 => ("StageDesk$Stage", "batchesHandled", "I", false)
  | _ => ("StageDesk$Stage", "eventsHandled", "I", false)
def tyX3 : Nat → FieldType := fun k => match k with
  | 0 => .int
  | 1 => .int
  | 2 => .int
  | 3 => .object "StageDesk$EventRow"
  | 4 => .array (.object "StageDesk$Worker")
  | 5 => .object "StageDesk$Times"
  | 6 => .object "StageDesk$Stage"
  | 7 => .object "StageDesk$Stage"
  | 8 => .boolean
  | 9 => .int
  | 10 => .int
  | 11 => .int
  | 12 => .int
  | 13 => .int
  | 14 => .int
  | 15 => .int
  | 16 => .int
  | 17 => .int
  | _ => .int
abbrev wsX30 : List Cond := u_ws RX3 TX3 19
theorem nmX3 : ∀ a, a < 19 → ∀ b, b < 19 → a ≠ b → (TX3 a).2.1 ≠ (TX3 b).2.1 := by decide +kernel
theorem tyX3_ok : ∀ k, k < 19 → parseFieldDescriptor (TX3 k).2.2.1 = some (tyX3 k) := by decide +kernel
abbrev cX3_init : ByteArray := prog_5_method_1_code
def yX3_init : MethodName := ⟨RX3, "<init>", "(IIII)V"⟩
abbrev cX3_freePlaces : ByteArray := prog_5_method_2_code
def yX3_freePlaces : MethodName := ⟨RX3, "freePlaces", "()I"⟩
abbrev cX3_ask : ByteArray := prog_5_method_3_code
def yX3_ask : MethodName := ⟨RX3, "ask", "()I"⟩
abbrev cX3_take : ByteArray := prog_5_method_4_code
def yX3_take : MethodName := ⟨RX3, "take", "(III)V"⟩
abbrev cX3_growTokens : ByteArray := prog_5_method_5_code
def yX3_growTokens : MethodName := ⟨RX3, "growTokens", "()V"⟩
abbrev cX3_startBatch : ByteArray := prog_5_method_6_code
def yX3_startBatch : MethodName := ⟨RX3, "startBatch", "(LStageDesk$Worker;)V"⟩
abbrev cX3_collectGifts : ByteArray := prog_5_method_7_code
def yX3_collectGifts : MethodName := ⟨RX3, "collectGifts", "(LStageDesk$Worker;)V"⟩
abbrev cX3_collectSum : ByteArray := prog_5_method_8_code
def yX3_collectSum : MethodName := ⟨RX3, "collectSum", "(LStageDesk$Worker;)V"⟩
abbrev cX3_collectFrom : ByteArray := prog_5_method_9_code
def yX3_collectFrom : MethodName := ⟨RX3, "collectFrom", "(IILStageDesk$Gifts;)V"⟩
abbrev cX3_control : ByteArray := prog_5_method_10_code
def yX3_control : MethodName := ⟨RX3, "control", "()V"⟩
abbrev cX3_controlWorkers : ByteArray := prog_5_method_11_code
def yX3_controlWorkers : MethodName := ⟨RX3, "controlWorkers", "()V"⟩
abbrev cX3_isLongIdle : ByteArray := prog_5_method_12_code
def yX3_isLongIdle : MethodName := ⟨RX3, "isLongIdle", "(LStageDesk$Worker;)Z"⟩
abbrev cX3_controlBatch : ByteArray := prog_5_method_13_code
def yX3_controlBatch : MethodName := ⟨RX3, "controlBatch", "()V"⟩
abbrev cX3_controlRate : ByteArray := prog_5_method_14_code
def yX3_controlRate : MethodName := ⟨RX3, "controlRate", "()V"⟩
abbrev cX3_figure : ByteArray := prog_5_method_15_code
def yX3_figure : MethodName := ⟨RX3, "figure", "(I)I"⟩
def RX4 : String := "StageDesk$Timers"
def TX4 : u_T := fun k => match k with
  | 0 => ("StageDesk$Timers", "numbers", "[I", true)
  | 1 => ("StageDesk$Timers", "stages", "[LStageDesk$Stage;", true)
  | 2 => ("StageDesk$Timers", "values", "[I", true)
  | 3 => ("StageDesk$Timers", "dues", "[I", true)
  | 4 => ("StageDesk$Timers", "size", "I", false)
  | _ => ("StageDesk$Timers", "set", "I", false)
def tyX4 : Nat → FieldType := fun k => match k with
  | 0 => .array .int
  | 1 => .array (.object "StageDesk$Stage")
  | 2 => .array .int
  | 3 => .array .int
  | 4 => .int
  | _ => .int
abbrev wsX40 : List Cond := u_ws RX4 TX4 6
theorem nmX4 : ∀ a, a < 6 → ∀ b, b < 6 → a ≠ b → (TX4 a).2.1 ≠ (TX4 b).2.1 := by decide +kernel
theorem tyX4_ok : ∀ k, k < 6 → parseFieldDescriptor (TX4 k).2.2.1 = some (tyX4 k) := by decide +kernel
abbrev cX4_init : ByteArray := prog_6_method_1_code
def yX4_init : MethodName := ⟨RX4, "<init>", "()V"⟩
abbrev cX4_append : ByteArray := prog_6_method_2_code
def yX4_append : MethodName := ⟨RX4, "append", "(LStageDesk$Stage;II)I"⟩
abbrev cX4_remove : ByteArray := prog_6_method_3_code
def yX4_remove : MethodName := ⟨RX4, "remove", "(I)Z"⟩
abbrev cX4_move : ByteArray := prog_6_method_4_code
def yX4_move : MethodName := ⟨RX4, "move", "(II)V"⟩
def RX5 : String := "StageDesk$Times"
def TX5 : u_T := fun k => match k with
  | 0 => ("StageDesk$Times", "kept", "[I", true)
  | 1 => ("StageDesk$Times", "sorted", "[I", true)
  | _ => ("StageDesk$Times", "size", "I", false)
def tyX5 : Nat → FieldType := fun k => match k with
  | 0 => .array .int
  | 1 => .array .int
  | _ => .int
abbrev wsX50 : List Cond := u_ws RX5 TX5 3
theorem nmX5 : ∀ a, a < 3 → ∀ b, b < 3 → a ≠ b → (TX5 a).2.1 ≠ (TX5 b).2.1 := by decide +kernel
theorem tyX5_ok : ∀ k, k < 3 → parseFieldDescriptor (TX5 k).2.2.1 = some (tyX5 k) := by decide +kernel
abbrev cX5_init : ByteArray := prog_7_method_1_code
def yX5_init : MethodName := ⟨RX5, "<init>", "()V"⟩
abbrev cX5_append : ByteArray := prog_7_method_2_code
def yX5_append : MethodName := ⟨RX5, "append", "(I)V"⟩
abbrev cX5_response : ByteArray := prog_7_method_3_code
def yX5_response : MethodName := ⟨RX5, "response", "()I"⟩
def RX6 : String := "StageDesk$Worker"
def TX6 : u_T := fun k => match k with
  | 0 => ("StageDesk$Worker", "batch", "LStageDesk$EventRow;", true)
  | 1 => ("StageDesk$Worker", "gifts", "LStageDesk$Gifts;", true)
  | 2 => ("StageDesk$Worker", "rest", "I", false)
  | 3 => ("StageDesk$Worker", "idleTicks", "I", false)
  | _ => ("StageDesk$Worker", "giving", "Z", false)
def tyX6 : Nat → FieldType := fun k => match k with
  | 0 => .object "StageDesk$EventRow"
  | 1 => .object "StageDesk$Gifts"
  | 2 => .int
  | 3 => .int
  | _ => .boolean
abbrev wsX60 : List Cond := u_ws RX6 TX6 5
theorem nmX6 : ∀ a, a < 5 → ∀ b, b < 5 → a ≠ b → (TX6 a).2.1 ≠ (TX6 b).2.1 := by decide +kernel
theorem tyX6_ok : ∀ k, k < 5 → parseFieldDescriptor (TX6 k).2.2.1 = some (tyX6 k) := by decide +kernel
abbrev cX6_init : ByteArray := prog_8_method_1_code
def yX6_init : MethodName := ⟨RX6, "<init>", "()V"⟩
abbrev cX6_figure : ByteArray := prog_8_method_2_code
def yX6_figure : MethodName := ⟨RX6, "figure", "(I)I"⟩
def RX7 : String := "StageDesk"
def TX7 : u_T := fun k => match k with
  | 0 => ("StageDesk", "stages", "[LStageDesk$Stage;", true)
  | 1 => ("StageDesk", "timers", "LStageDesk$Timers;", true)
  | 2 => ("StageDesk", "doneRow", "LStageDesk$DoneRow;", true)
  | 3 => ("StageDesk", "stageCount", "I", false)
  | 4 => ("StageDesk", "now", "I", false)
  | 5 => ("StageDesk", "made", "I", false)
  | _ => ("StageDesk", "lostCount", "I", false)
def tyX7 : Nat → FieldType := fun k => match k with
  | 0 => .array (.object "StageDesk$Stage")
  | 1 => .object "StageDesk$Timers"
  | 2 => .object "StageDesk$DoneRow"
  | 3 => .int
  | 4 => .int
  | 5 => .int
  | _ => .int
abbrev wsX70 : List Cond := u_ws RX7 TX7 7
theorem nmX7 : ∀ a, a < 7 → ∀ b, b < 7 → a ≠ b → (TX7 a).2.1 ≠ (TX7 b).2.1 := by decide +kernel
theorem tyX7_ok : ∀ k, k < 7 → parseFieldDescriptor (TX7 k).2.2.1 = some (tyX7 k) := by decide +kernel
abbrev cX7_init : ByteArray := prog_1_method_1_code
def yX7_init : MethodName := ⟨RX7, "<init>", "()V"⟩
abbrev cX7_stage : ByteArray := prog_1_method_2_code
def yX7_stage : MethodName := ⟨RX7, "stage", "(IIII)I"⟩
abbrev cX7_targets : ByteArray := prog_1_method_3_code
def yX7_targets : MethodName := ⟨RX7, "targets", "(III)I"⟩
abbrev cX7_admit : ByteArray := prog_1_method_4_code
def yX7_admit : MethodName := ⟨RX7, "admit", "(IIII)I"⟩
abbrev cX7_put : ByteArray := prog_1_method_5_code
def yX7_put : MethodName := ⟨RX7, "put", "(II)I"⟩
abbrev cX7_prepare : ByteArray := prog_1_method_6_code
def yX7_prepare : MethodName := ⟨RX7, "prepare", "(II)I"⟩
abbrev cX7_commit : ByteArray := prog_1_method_7_code
def yX7_commit : MethodName := ⟨RX7, "commit", "(II)I"⟩
abbrev cX7_abort : ByteArray := prog_1_method_8_code
def yX7_abort : MethodName := ⟨RX7, "abort", "(I)I"⟩
abbrev cX7_timer : ByteArray := prog_1_method_9_code
def yX7_timer : MethodName := ⟨RX7, "timer", "(III)I"⟩
abbrev cX7_cancel : ByteArray := prog_1_method_10_code
def yX7_cancel : MethodName := ⟨RX7, "cancel", "(I)I"⟩
abbrev cX7_close : ByteArray := prog_1_method_11_code
def yX7_close : MethodName := ⟨RX7, "close", "(I)I"⟩
abbrev cX7_tick : ByteArray := prog_1_method_12_code
def yX7_tick : MethodName := ⟨RX7, "tick", "(I)I"⟩
abbrev cX7_told : ByteArray := prog_1_method_13_code
def yX7_told : MethodName := ⟨RX7, "told", "(II)I"⟩
abbrev cX7_queued : ByteArray := prog_1_method_14_code
def yX7_queued : MethodName := ⟨RX7, "queued", "(II)I"⟩
abbrev cX7_worker : ByteArray := prog_1_method_15_code
def yX7_worker : MethodName := ⟨RX7, "worker", "(III)I"⟩
abbrev cX7_done : ByteArray := prog_1_method_16_code
def yX7_done : MethodName := ⟨RX7, "done", "(I)I"⟩
abbrev cX7_value : ByteArray := prog_1_method_17_code
def yX7_value : MethodName := ⟨RX7, "value", "(I)I"⟩
abbrev cX7_events : ByteArray := prog_1_method_18_code
def yX7_events : MethodName := ⟨RX7, "events", "()I"⟩
abbrev cX7_ended : ByteArray := prog_1_method_19_code
def yX7_ended : MethodName := ⟨RX7, "ended", "()I"⟩
abbrev cX7_lost : ByteArray := prog_1_method_20_code
def yX7_lost : MethodName := ⟨RX7, "lost", "()I"⟩
abbrev cX7_clock : ByteArray := prog_1_method_21_code
def yX7_clock : MethodName := ⟨RX7, "clock", "()I"⟩
abbrev cX7_within : ByteArray := prog_1_method_22_code
def yX7_within : MethodName := ⟨RX7, "within", "(III)Z"⟩
abbrev cX7_stageAt : ByteArray := prog_1_method_23_code
def yX7_stageAt : MethodName := ⟨RX7, "stageAt", "(I)LStageDesk$Stage;"⟩
abbrev cX7_isTarget : ByteArray := prog_1_method_24_code
def yX7_isTarget : MethodName := ⟨RX7, "isTarget", "(I)Z"⟩
abbrev cX7_makeEvent : ByteArray := prog_1_method_25_code
def yX7_makeEvent : MethodName := ⟨RX7, "makeEvent", "()I"⟩
abbrev cX7_passTick : ByteArray := prog_1_method_26_code
def yX7_passTick : MethodName := ⟨RX7, "passTick", "()V"⟩
abbrev cX7_fireTimers : ByteArray := prog_1_method_27_code
def yX7_fireTimers : MethodName := ⟨RX7, "fireTimers", "()V"⟩
abbrev cX7_fire : ByteArray := prog_1_method_28_code
def yX7_fire : MethodName := ⟨RX7, "fire", "(LStageDesk$Stage;I)V"⟩
abbrev cX7_letWork : ByteArray := prog_1_method_29_code
def yX7_letWork : MethodName := ⟨RX7, "letWork", "(LStageDesk$Stage;LStageDesk$Worker;)V"⟩
abbrev cX7_workOnBatch : ByteArray := prog_1_method_30_code
def yX7_workOnBatch : MethodName := ⟨RX7, "workOnBatch", "(LStageDesk$Stage;LStageDesk$Worker;)V"⟩
abbrev cX7_offerGifts : ByteArray := prog_1_method_31_code
def yX7_offerGifts : MethodName := ⟨RX7, "offerGifts", "(LStageDesk$Gifts;)Z"⟩
abbrev cX7_finishBatch : ByteArray := prog_1_method_32_code
def yX7_finishBatch : MethodName := ⟨RX7, "finishBatch", "(LStageDesk$Stage;LStageDesk$Worker;)V"⟩
def RX8 : String := "StageDeskModel"
def TX8 : u_T := fun k => match k with
  | 0 => ("StageDeskModel", "clock", "I", false)
  | 1 => ("StageDeskModel", "events", "I", false)
  | 2 => ("StageDeskModel", "values", "[I", true)
  | 3 => ("StageDeskModel", "births", "[I", true)
  | 4 => ("StageDeskModel", "ended", "I", false)
  | 5 => ("StageDeskModel", "done", "[I", true)
  | 6 => ("StageDeskModel", "lost", "I", false)
  | 7 => ("StageDeskModel", "stages", "I", false)
  | 8 => ("StageDeskModel", "sorts", "[I", true)
  | 9 => ("StageDeskModel", "first", "[I", true)
  | 10 => ("StageDeskModel", "second", "[I", true)
  | 11 => ("StageDeskModel", "bounds", "[I", true)
  | 12 => ("StageDeskModel", "reserved", "[I", true)
  | 13 => ("StageDeskModel", "tokens", "[I", true)
  | 14 => ("StageDeskModel", "depths", "[I", true)
  | 15 => ("StageDeskModel", "rates", "[I", true)
  | 16 => ("StageDeskModel", "goals", "[I", true)
  | 17 => ("StageDeskModel", "workers", "[I", true)
  | 18 => ("StageDeskModel", "caps", "[I", true)
  | 19 => ("StageDeskModel", "batches", "[I", true)
  | 20 => ("StageDeskModel", "costs", "[I", true)
  | 21 => ("StageDeskModel", "shut", "[Z", true)
  | 22 => ("StageDeskModel", "refusals", "[I", true)
  | 23 => ("StageDeskModel", "handled", "[I", true)
  | 24 => ("StageDeskModel", "stood", "[I", true)
  | 25 => ("StageDeskModel", "waiting", "[I", true)
  | 26 => ("StageDeskModel", "queue", "[I", true)
  | 27 => ("StageDeskModel", "timeCount", "[I", true)
  | 28 => ("StageDeskModel", "times", "[I", true)
  | 29 => ("StageDeskModel", "sorted", "[I", true)
  | 30 => ("StageDeskModel", "size", "[I", true)
  | 31 => ("StageDeskModel", "batch", "[I", true)
  | 32 => ("StageDeskModel", "rest", "[I", true)
  | 33 => ("StageDeskModel", "offers", "[Z", true)
  | 34 => ("StageDeskModel", "gifts", "[I", true)
  | 35 => ("StageDeskModel", "given", "[I", true)
  | 36 => ("StageDeskModel", "giftValue", "[I", true)
  | 37 => ("StageDeskModel", "giftBirth", "[I", true)
  | 38 => ("StageDeskModel", "giftTo", "[I", true)
  | 39 => ("StageDeskModel", "giftEvent", "[I", true)
  | 40 => ("StageDeskModel", "idle", "[I", true)
  | 41 => ("StageDeskModel", "there", "[I", true)
  | 42 => ("StageDeskModel", "timers", "I", false)
  | 43 => ("StageDeskModel", "timersWait", "I", false)
  | 44 => ("StageDeskModel", "timerNumber", "[I", true)
  | 45 => ("StageDeskModel", "timerStage", "[I", true)
  | 46 => ("StageDeskModel", "timerValue", "[I", true)
  | _ => ("StageDeskModel", "timerAt", "[I", true)
def tyX8 : Nat → FieldType := fun k => match k with
  | 0 => .int
  | 1 => .int
  | 2 => .array .int
  | 3 => .array .int
  | 4 => .int
  | 5 => .array .int
  | 6 => .int
  | 7 => .int
  | 8 => .array .int
  | 9 => .array .int
  | 10 => .array .int
  | 11 => .array .int
  | 12 => .array .int
  | 13 => .array .int
  | 14 => .array .int
  | 15 => .array .int
  | 16 => .array .int
  | 17 => .array .int
  | 18 => .array .int
  | 19 => .array .int
  | 20 => .array .int
  | 21 => .array .boolean
  | 22 => .array .int
  | 23 => .array .int
  | 24 => .array .int
  | 25 => .array .int
  | 26 => .array .int
  | 27 => .array .int
  | 28 => .array .int
  | 29 => .array .int
  | 30 => .array .int
  | 31 => .array .int
  | 32 => .array .int
  | 33 => .array .boolean
  | 34 => .array .int
  | 35 => .array .int
  | 36 => .array .int
  | 37 => .array .int
  | 38 => .array .int
  | 39 => .array .int
  | 40 => .array .int
  | 41 => .array .int
  | 42 => .int
  | 43 => .int
  | 44 => .array .int
  | 45 => .array .int
  | 46 => .array .int
  | _ => .array .int
abbrev wsX80 : List Cond := u_ws RX8 TX8 48
theorem nmX8 : ∀ a, a < 48 → ∀ b, b < 48 → a ≠ b → (TX8 a).2.1 ≠ (TX8 b).2.1 := by decide +kernel
theorem tyX8_ok : ∀ k, k < 48 → parseFieldDescriptor (TX8 k).2.2.1 = some (tyX8 k) := by decide +kernel
abbrev cX8_init : ByteArray := prog_10_method_1_code
def yX8_init : MethodName := ⟨RX8, "<init>", "()V"⟩
abbrev cX8_isStage : ByteArray := prog_10_method_2_code
def yX8_isStage : MethodName := ⟨RX8, "isStage", "(I)Z"⟩
abbrev cX8_in : ByteArray := prog_10_method_3_code
def yX8_in : MethodName := ⟨RX8, "in", "(III)Z"⟩
abbrev cX8_stage : ByteArray := prog_10_method_4_code
def yX8_stage : MethodName := ⟨RX8, "stage", "(IIII)I"⟩
abbrev cX8_targets : ByteArray := prog_10_method_5_code
def yX8_targets : MethodName := ⟨RX8, "targets", "(III)I"⟩
abbrev cX8_admit : ByteArray := prog_10_method_6_code
def yX8_admit : MethodName := ⟨RX8, "admit", "(IIII)I"⟩
abbrev cX8_make : ByteArray := prog_10_method_7_code
def yX8_make : MethodName := ⟨RX8, "make", "(II)I"⟩
abbrev cX8_refusal : ByteArray := prog_10_method_8_code
def yX8_refusal : MethodName := ⟨RX8, "refusal", "(I)I"⟩
abbrev cX8_stand : ByteArray := prog_10_method_9_code
def yX8_stand : MethodName := ⟨RX8, "stand", "(II)V"⟩
abbrev cX8_offer : ByteArray := prog_10_method_10_code
def yX8_offer : MethodName := ⟨RX8, "offer", "(II)Z"⟩
abbrev cX8_put : ByteArray := prog_10_method_11_code
def yX8_put : MethodName := ⟨RX8, "put", "(II)I"⟩
abbrev cX8_prepare : ByteArray := prog_10_method_12_code
def yX8_prepare : MethodName := ⟨RX8, "prepare", "(II)I"⟩
abbrev cX8_commit : ByteArray := prog_10_method_13_code
def yX8_commit : MethodName := ⟨RX8, "commit", "(II)I"⟩
abbrev cX8_abort : ByteArray := prog_10_method_14_code
def yX8_abort : MethodName := ⟨RX8, "abort", "(I)I"⟩
abbrev cX8_timer : ByteArray := prog_10_method_15_code
def yX8_timer : MethodName := ⟨RX8, "timer", "(III)I"⟩
abbrev cX8_forgetTimer : ByteArray := prog_10_method_16_code
def yX8_forgetTimer : MethodName := ⟨RX8, "forgetTimer", "(I)V"⟩
abbrev cX8_cancel : ByteArray := prog_10_method_17_code
def yX8_cancel : MethodName := ⟨RX8, "cancel", "(I)I"⟩
abbrev cX8_close : ByteArray := prog_10_method_18_code
def yX8_close : MethodName := ⟨RX8, "close", "(I)I"⟩
abbrev cX8_ring : ByteArray := prog_10_method_19_code
def yX8_ring : MethodName := ⟨RX8, "ring", "()V"⟩
abbrev cX8_gift : ByteArray := prog_10_method_20_code
def yX8_gift : MethodName := ⟨RX8, "gift", "(IIII)V"⟩
abbrev cX8_listGifts : ByteArray := prog_10_method_21_code
def yX8_listGifts : MethodName := ⟨RX8, "listGifts", "(II)V"⟩
abbrev cX8_finish : ByteArray := prog_10_method_22_code
def yX8_finish : MethodName := ⟨RX8, "finish", "(II)V"⟩
abbrev cX8_work : ByteArray := prog_10_method_23_code
def yX8_work : MethodName := ⟨RX8, "work", "(II)V"⟩
abbrev cX8_give : ByteArray := prog_10_method_24_code
def yX8_give : MethodName := ⟨RX8, "give", "(II)V"⟩
abbrev cX8_response : ByteArray := prog_10_method_25_code
def yX8_response : MethodName := ⟨RX8, "response", "(I)I"⟩
abbrev cX8_control : ByteArray := prog_10_method_26_code
def yX8_control : MethodName := ⟨RX8, "control", "(I)V"⟩
abbrev cX8_oneTick : ByteArray := prog_10_method_27_code
def yX8_oneTick : MethodName := ⟨RX8, "oneTick", "()V"⟩
abbrev cX8_tick : ByteArray := prog_10_method_28_code
def yX8_tick : MethodName := ⟨RX8, "tick", "(I)I"⟩
abbrev cX8_told : ByteArray := prog_10_method_29_code
def yX8_told : MethodName := ⟨RX8, "told", "(II)I"⟩
abbrev cX8_queued : ByteArray := prog_10_method_30_code
def yX8_queued : MethodName := ⟨RX8, "queued", "(II)I"⟩
abbrev cX8_worker : ByteArray := prog_10_method_31_code
def yX8_worker : MethodName := ⟨RX8, "worker", "(III)I"⟩
abbrev cX8_done : ByteArray := prog_10_method_32_code
def yX8_done : MethodName := ⟨RX8, "done", "(I)I"⟩
abbrev cX8_value : ByteArray := prog_10_method_33_code
def yX8_value : MethodName := ⟨RX8, "value", "(I)I"⟩
abbrev cX8_events : ByteArray := prog_10_method_34_code
def yX8_events : MethodName := ⟨RX8, "events", "()I"⟩
abbrev cX8_ended : ByteArray := prog_10_method_35_code
def yX8_ended : MethodName := ⟨RX8, "ended", "()I"⟩
abbrev cX8_lost : ByteArray := prog_10_method_36_code
def yX8_lost : MethodName := ⟨RX8, "lost", "()I"⟩
abbrev cX8_clock : ByteArray := prog_10_method_37_code
def yX8_clock : MethodName := ⟨RX8, "clock", "()I"⟩
def RJx8e188 : String := "java/lang/Cloneable"
def TJx8e188 : u_T := fun k => match k with
  | _ => ("", "", "", false)
def tyJx8e188 : Nat → FieldType := fun k => match k with
  | _ => .int
abbrev wsJx8e1880 : List Cond := u_ws RJx8e188 TJx8e188 0
theorem nmJx8e188 : ∀ a, a < 0 → ∀ b, b < 0 → a ≠ b → (TJx8e188 a).2.1 ≠ (TJx8e188 b).2.1 := by decide +kernel
theorem tyJx8e188_ok : ∀ k, k < 0 → parseFieldDescriptor (TJx8e188 k).2.2.1 = some (tyJx8e188 k) := by decide +kernel
def RJ9 : String := "java/lang/Math"
def TJ9 : u_T := fun k => match k with
  | _ => ("", "", "", false)
def tyJ9 : Nat → FieldType := fun k => match k with
  | _ => .int
abbrev wsJ90 : List Cond := u_ws RJ9 TJ9 0
theorem nmJ9 : ∀ a, a < 0 → ∀ b, b < 0 → a ≠ b → (TJ9 a).2.1 ≠ (TJ9 b).2.1 := by decide +kernel
theorem tyJ9_ok : ∀ k, k < 0 → parseFieldDescriptor (TJ9 k).2.2.1 = some (tyJ9 k) := by decide +kernel
abbrev cJ9_max_7cf53 : ByteArray := prog_12_method_65_code
def yJ9_max_7cf53 : MethodName := ⟨RJ9, "max", "(II)I"⟩
abbrev cJ9_min_7cf53 : ByteArray := prog_12_method_69_code
def yJ9_min_7cf53 : MethodName := ⟨RJ9, "min", "(II)I"⟩
def RJ10 : String := "java/lang/System"
def TJ10 : u_T := fun k => match k with
  | _ => ("", "", "", false)
def tyJ10 : Nat → FieldType := fun k => match k with
  | _ => .int
abbrev wsJ100 : List Cond := u_ws RJ10 TJ10 0
theorem nmJ10 : ∀ a, a < 0 → ∀ b, b < 0 → a ≠ b → (TJ10 a).2.1 ≠ (TJ10 b).2.1 := by decide +kernel
theorem tyJ10_ok : ∀ k, k < 0 → parseFieldDescriptor (TJ10 k).2.2.1 = some (tyJ10 k) := by decide +kernel
def RJ7 : String := "java/util/Arrays"
def TJ7 : u_T := fun k => match k with
  | _ => ("", "", "", false)
def tyJ7 : Nat → FieldType := fun k => match k with
  | _ => .int
abbrev wsJ70 : List Cond := u_ws RJ7 TJ7 0
theorem nmJ7 : ∀ a, a < 0 → ∀ b, b < 0 → a ≠ b → (TJ7 a).2.1 ≠ (TJ7 b).2.1 := by decide +kernel
theorem tyJ7_ok : ∀ k, k < 0 → parseFieldDescriptor (TJ7 k).2.2.1 = some (tyJ7 k) := by decide +kernel
abbrev cJ7_copyOf_59c91 : ByteArray := prog_14_method_123_code
def yJ7_copyOf_59c91 : MethodName := ⟨RJ7, "copyOf", "([II)[I"⟩
def RL : String := "StageDeskLaw"
abbrev cL_law : ByteArray := code
def yL_law : MethodName := ⟨RL, "law", "([I)Z"⟩
def wsX0_init : List Cond := .code yX0_init cX0_init 1 none :: ([.methodLink RX0 1 objectInit, .instanceMethod objectInit, .code objectInit ⟨#[0xb1]⟩ 1 none, .arrayClass .int, .fieldLink RX0 7 "StageDesk$DoneRow" "numbers" "[I", .fieldLink RX0 13 "StageDesk$DoneRow" "values" "[I"] ++ wsX00)
def wsJ7_copyOf_59c91 : List Cond := .code yJ7_copyOf_59c91 cJ7_copyOf_59c91 3 (some (.array .int)) :: ([.methodLink RJ7 316 ⟨"[I", "clone", "()Ljava/lang/Object;"⟩, .sameMethod "[I" "java/lang/Object" "clone" "()Ljava/lang/Object;", .native ⟨"java/lang/Object", "clone", "()Ljava/lang/Object;"⟩, .instanceMethod ⟨"java/lang/Object", "clone", "()Ljava/lang/Object;"⟩, .selects "[I" ⟨"[I", "clone", "()Ljava/lang/Object;"⟩ ⟨"java/lang/Object", "clone", "()Ljava/lang/Object;"⟩, .classLink RJ7 317 "[I", .arrayClass .int, .methodLink RJ7 304 Lib.Math.min.name, .static Lib.Math.min.name, .initialized "java/lang/Math", .code Lib.Math.min.name Lib.Math.min.code 2 (some .int), .methodLink RJ7 150 arraycopyName, .native arraycopyName, .static arraycopyName, .initialized "java/lang/System"])
def wsX0_append : List Cond := .code yX0_append cX0_append 3 none :: ([.fieldLink RX0 16 "StageDesk$DoneRow" "size" "I", .fieldLink RX0 7 "StageDesk$DoneRow" "numbers" "[I", .fieldLink RX0 13 "StageDesk$DoneRow" "values" "[I", .methodLink RX0 20 yJ7_copyOf_59c91, .static yJ7_copyOf_59c91, .initialized RJ7, .code yJ7_copyOf_59c91 cJ7_copyOf_59c91 3 (some (.array .int)), .methodLink RJ7 316 ⟨"[I", "clone", "()Ljava/lang/Object;"⟩, .sameMethod "[I" "java/lang/Object" "clone" "()Ljava/lang/Object;", .native ⟨"java/lang/Object", "clone", "()Ljava/lang/Object;"⟩, .instanceMethod ⟨"java/lang/Object", "clone", "()Ljava/lang/Object;"⟩, .selects "[I" ⟨"[I", "clone", "()Ljava/lang/Object;"⟩ ⟨"java/lang/Object", "clone", "()Ljava/lang/Object;"⟩, .classLink RJ7 317 "[I", .arrayClass .int, .methodLink RJ7 304 Lib.Math.min.name, .static Lib.Math.min.name, .initialized "java/lang/Math", .code Lib.Math.min.name Lib.Math.min.code 2 (some .int), .methodLink RJ7 150 arraycopyName, .native arraycopyName, .static arraycopyName, .initialized "java/lang/System"] ++ wsX00)
def wsX1_init : List Cond := .code yX1_init cX1_init 2 none :: ([.methodLink RX1 1 objectInit, .instanceMethod objectInit, .code objectInit ⟨#[0xb1]⟩ 1 none, .arrayClass .int, .fieldLink RX1 7 "StageDesk$EventRow" "numbers" "[I", .fieldLink RX1 13 "StageDesk$EventRow" "values" "[I", .fieldLink RX1 16 "StageDesk$EventRow" "births" "[I"] ++ wsX10)
def wsX1_append : List Cond := .code yX1_append cX1_append 4 none :: ([.fieldLink RX1 19 "StageDesk$EventRow" "size" "I", .fieldLink RX1 7 "StageDesk$EventRow" "numbers" "[I", .fieldLink RX1 13 "StageDesk$EventRow" "values" "[I", .fieldLink RX1 16 "StageDesk$EventRow" "births" "[I"] ++ wsX10)
def wsX1_dropFirst : List Cond := .code yX1_dropFirst cX1_dropFirst 3 none :: ([.fieldLink RX1 19 "StageDesk$EventRow" "size" "I", .fieldLink RX1 7 "StageDesk$EventRow" "numbers" "[I", .methodLink RX1 29 arraycopyName, .native arraycopyName, .static arraycopyName, .initialized "java/lang/System", .fieldLink RX1 13 "StageDesk$EventRow" "values" "[I", .fieldLink RX1 16 "StageDesk$EventRow" "births" "[I"] ++ wsX10)
def wsX1_becomeFirstOf : List Cond := .code yX1_becomeFirstOf cX1_becomeFirstOf 4 none :: ([.fieldLink RX1 19 "StageDesk$EventRow" "size" "I", .methodLink RX1 23 Lib.Math.min.name, .static Lib.Math.min.name, .initialized "java/lang/Math", .code Lib.Math.min.name Lib.Math.min.code 2 (some .int), .fieldLink RX1 7 "StageDesk$EventRow" "numbers" "[I", .methodLink RX1 29 arraycopyName, .native arraycopyName, .static arraycopyName, .initialized "java/lang/System", .fieldLink RX1 13 "StageDesk$EventRow" "values" "[I", .fieldLink RX1 16 "StageDesk$EventRow" "births" "[I", .methodLink RX1 35 yX1_dropFirst, .instanceMethod yX1_dropFirst, .selects RX1 yX1_dropFirst yX1_dropFirst, .initialized RX1, .code yX1_dropFirst cX1_dropFirst 3 none] ++ wsX10)
def wsX2_init : List Cond := .code yX2_init cX2_init 1 none :: ([.methodLink RX2 3 objectInit, .instanceMethod objectInit, .code objectInit ⟨#[0xb1]⟩ 1 none, .classLink RX2 9 RX3, .fieldLink RX2 11 "StageDesk$Gifts" "targets" "[LStageDesk$Stage;", .arrayClass .int, .fieldLink RX2 17 "StageDesk$Gifts" "values" "[I", .fieldLink RX2 21 "StageDesk$Gifts" "births" "[I", .fieldLink RX2 24 "StageDesk$Gifts" "number" "I"] ++ wsX20)
def wsX2_clear : List Cond := .code yX2_clear cX2_clear 1 none :: ([.fieldLink RX2 28 "StageDesk$Gifts" "size" "I", .fieldLink RX2 31 "StageDesk$Gifts" "next" "I", .fieldLink RX2 24 "StageDesk$Gifts" "number" "I"] ++ wsX20)
def wsX2_append : List Cond := .code yX2_append cX2_append 4 none :: ([.fieldLink RX2 28 "StageDesk$Gifts" "size" "I", .fieldLink RX2 11 "StageDesk$Gifts" "targets" "[LStageDesk$Stage;", .fieldLink RX2 17 "StageDesk$Gifts" "values" "[I", .fieldLink RX2 21 "StageDesk$Gifts" "births" "[I"] ++ wsX20)
def wsX5_init : List Cond := .code yX5_init cX5_init 1 none :: ([.methodLink RX5 3 objectInit, .instanceMethod objectInit, .code objectInit ⟨#[0xb1]⟩ 1 none, .arrayClass .int, .fieldLink RX5 9 "StageDesk$Times" "kept" "[I", .fieldLink RX5 15 "StageDesk$Times" "sorted" "[I"] ++ wsX50)
def wsX6_init_r1 : List Cond := [Cond.methodLink RX6 3 objectInit, Cond.instanceMethod objectInit, Cond.code objectInit ⟨#[0xb1]⟩ 1 none, Cond.classLink RX6 9 RX1, Cond.instantiable RX1 4, Cond.initialized RX1, Cond.fieldLink RX6 14 "StageDesk$Worker" "batch" "LStageDesk$EventRow;", Cond.classLink RX6 20 RX2, Cond.instantiable RX2 6, Cond.initialized RX2, Cond.fieldLink RX6 23 "StageDesk$Worker" "gifts" "LStageDesk$Gifts;", Cond.methodLink RX6 11 yX1_init, Cond.instanceMethod yX1_init, Cond.code yX1_init cX1_init 2 none, Cond.methodLink RX1 1 objectInit, Cond.arrayClass .int, Cond.fieldLink RX1 7 "StageDesk$EventRow" "numbers" "[I", Cond.fieldLink RX1 13 "StageDesk$EventRow" "values" "[I", Cond.fieldLink RX1 16 "StageDesk$EventRow" "births" "[I", Cond.instanceMethod yX2_init, Cond.code yX2_init cX2_init 1 none, Cond.methodLink RX2 3 objectInit, Cond.classLink RX2 9 RX3, Cond.fieldLink RX2 11 "StageDesk$Gifts" "targets" "[LStageDesk$Stage;"]
def wsX6_init_r2 : List Cond := [Cond.fieldLink RX2 17 "StageDesk$Gifts" "values" "[I", Cond.fieldLink RX2 21 "StageDesk$Gifts" "births" "[I", Cond.fieldLink RX2 24 "StageDesk$Gifts" "number" "I"]
def wsX6_init : List Cond := .code yX6_init cX6_init 1 none :: ((wsX6_init_r1 ++ wsX6_init_r2) ++ wsX10 ++ wsX60 ++ wsX20)
def wsX3_init_r1 : List Cond := [Cond.methodLink RX3 3 objectInit, Cond.instanceMethod objectInit, Cond.code objectInit ⟨#[0xb1]⟩ 1 none, Cond.classLink RX3 9 RX5, Cond.instantiable RX5 3, Cond.initialized RX5, Cond.fieldLink RX3 12 "StageDesk$Stage" "times" "LStageDesk$Times;", Cond.fieldLink RX3 18 "StageDesk$Stage" "rate" "I", Cond.fieldLink RX3 22 "StageDesk$Stage" "depth" "I", Cond.fieldLink RX3 25 "StageDesk$Stage" "tokens" "I", Cond.fieldLink RX3 28 "StageDesk$Stage" "workerCount" "I", Cond.fieldLink RX3 31 "StageDesk$Stage" "batchSize" "I", Cond.fieldLink RX3 34 "StageDesk$Stage" "sort" "I", Cond.fieldLink RX3 37 "StageDesk$Stage" "bound" "I", Cond.fieldLink RX3 40 "StageDesk$Stage" "cost" "I", Cond.classLink RX3 43 RX1, Cond.instantiable RX1 4, Cond.initialized RX1, Cond.fieldLink RX3 48 "StageDesk$Stage" "queue" "LStageDesk$EventRow;", Cond.classLink RX3 52 RX6, Cond.fieldLink RX3 54 "StageDesk$Stage" "workers" "[LStageDesk$Worker;", Cond.instantiable RX6 5, Cond.initialized RX6, Cond.instanceMethod yX5_init]
def wsX3_init_r2 : List Cond := [Cond.code yX5_init cX5_init 1 none, Cond.methodLink RX5 3 objectInit, Cond.arrayClass .int, Cond.fieldLink RX5 9 "StageDesk$Times" "kept" "[I", Cond.fieldLink RX5 15 "StageDesk$Times" "sorted" "[I", Cond.methodLink RX3 45 yX1_init, Cond.instanceMethod yX1_init, Cond.code yX1_init cX1_init 2 none, Cond.methodLink RX1 1 objectInit, Cond.fieldLink RX1 7 "StageDesk$EventRow" "numbers" "[I", Cond.fieldLink RX1 13 "StageDesk$EventRow" "values" "[I", Cond.fieldLink RX1 16 "StageDesk$EventRow" "births" "[I", Cond.instanceMethod yX6_init, Cond.code yX6_init cX6_init 1 none, Cond.methodLink RX6 3 objectInit, Cond.classLink RX6 9 RX1, Cond.fieldLink RX6 14 "StageDesk$Worker" "batch" "LStageDesk$EventRow;", Cond.classLink RX6 20 RX2, Cond.instantiable RX2 6, Cond.initialized RX2, Cond.fieldLink RX6 23 "StageDesk$Worker" "gifts" "LStageDesk$Gifts;", Cond.methodLink RX6 11 yX1_init, Cond.instanceMethod yX2_init, Cond.code yX2_init cX2_init 1 none]
def wsX3_init_r3 : List Cond := [Cond.methodLink RX2 3 objectInit, Cond.classLink RX2 9 RX3, Cond.fieldLink RX2 11 "StageDesk$Gifts" "targets" "[LStageDesk$Stage;", Cond.fieldLink RX2 17 "StageDesk$Gifts" "values" "[I", Cond.fieldLink RX2 21 "StageDesk$Gifts" "births" "[I", Cond.fieldLink RX2 24 "StageDesk$Gifts" "number" "I"]
def wsX3_init : List Cond := .code yX3_init cX3_init 6 none :: ((wsX3_init_r1 ++ (wsX3_init_r2 ++ wsX3_init_r3)) ++ wsX50 ++ wsX30 ++ wsX10 ++ wsX60 ++ wsX20)
def wsX3_freePlaces : List Cond := .code yX3_freePlaces cX3_freePlaces 1 (some .int) :: ([.fieldLink RX3 37 "StageDesk$Stage" "bound" "I", .fieldLink RX3 48 "StageDesk$Stage" "queue" "LStageDesk$EventRow;", .fieldLink RX3 59 "StageDesk$EventRow" "size" "I", .fieldLink RX3 62 "StageDesk$Stage" "reserved" "I"] ++ wsX30 ++ wsX10)
def wsX3_ask : List Cond := .code yX3_ask cX3_ask 2 (some .int) :: ([.fieldLink RX3 65 "StageDesk$Stage" "closed" "Z", .fieldLink RX3 25 "StageDesk$Stage" "tokens" "I", .fieldLink RX3 73 "StageDesk$Stage" "refusals" "I", .methodLink RX3 69 yX3_freePlaces, .instanceMethod yX3_freePlaces, .selects RX3 yX3_freePlaces yX3_freePlaces, .initialized RX3, .code yX3_freePlaces cX3_freePlaces 1 (some .int), .fieldLink RX3 37 "StageDesk$Stage" "bound" "I", .fieldLink RX3 48 "StageDesk$Stage" "queue" "LStageDesk$EventRow;", .fieldLink RX3 59 "StageDesk$EventRow" "size" "I", .fieldLink RX3 62 "StageDesk$Stage" "reserved" "I"] ++ wsX30 ++ wsX10)
def wsX3_take : List Cond := .code yX3_take cX3_take 4 none :: ([.fieldLink RX3 48 "StageDesk$Stage" "queue" "LStageDesk$EventRow;", .fieldLink RX3 25 "StageDesk$Stage" "tokens" "I", .methodLink RX3 76 yX1_append, .instanceMethod yX1_append, .selects RX1 yX1_append yX1_append, .initialized RX1, .code yX1_append cX1_append 4 none, .fieldLink RX1 19 "StageDesk$EventRow" "size" "I", .fieldLink RX1 7 "StageDesk$EventRow" "numbers" "[I", .fieldLink RX1 13 "StageDesk$EventRow" "values" "[I", .fieldLink RX1 16 "StageDesk$EventRow" "births" "[I"] ++ wsX30 ++ wsX10)
def wsX3_growTokens : List Cond := .code yX3_growTokens cX3_growTokens 1 none :: ([.fieldLink RX3 25 "StageDesk$Stage" "tokens" "I", .fieldLink RX3 18 "StageDesk$Stage" "rate" "I", .fieldLink RX3 22 "StageDesk$Stage" "depth" "I", .methodLink RX3 80 Lib.Math.min.name, .static Lib.Math.min.name, .initialized "java/lang/Math", .code Lib.Math.min.name Lib.Math.min.code 2 (some .int)] ++ wsX30)
def wsX3_startBatch_r1 : List Cond := [Cond.fieldLink RX3 86 "StageDesk$Worker" "batch" "LStageDesk$EventRow;", Cond.fieldLink RX3 48 "StageDesk$Stage" "queue" "LStageDesk$EventRow;", Cond.fieldLink RX3 31 "StageDesk$Stage" "batchSize" "I", Cond.fieldLink RX3 40 "StageDesk$Stage" "cost" "I", Cond.fieldLink RX3 59 "StageDesk$EventRow" "size" "I", Cond.fieldLink RX3 93 "StageDesk$Worker" "rest" "I", Cond.methodLink RX3 89 yX1_becomeFirstOf, Cond.instanceMethod yX1_becomeFirstOf, Cond.selects RX1 yX1_becomeFirstOf yX1_becomeFirstOf, Cond.initialized RX1, Cond.code yX1_becomeFirstOf cX1_becomeFirstOf 4 none, Cond.fieldLink RX1 19 "StageDesk$EventRow" "size" "I", Cond.methodLink RX1 23 Lib.Math.min.name, Cond.static Lib.Math.min.name, Cond.initialized "java/lang/Math", Cond.code Lib.Math.min.name Lib.Math.min.code 2 (some .int), Cond.fieldLink RX1 7 "StageDesk$EventRow" "numbers" "[I", Cond.methodLink RX1 29 arraycopyName, Cond.native arraycopyName, Cond.static arraycopyName, Cond.initialized "java/lang/System", Cond.fieldLink RX1 13 "StageDesk$EventRow" "values" "[I", Cond.fieldLink RX1 16 "StageDesk$EventRow" "births" "[I", Cond.methodLink RX1 35 yX1_dropFirst]
def wsX3_startBatch_r2 : List Cond := [Cond.instanceMethod yX1_dropFirst, Cond.selects RX1 yX1_dropFirst yX1_dropFirst, Cond.code yX1_dropFirst cX1_dropFirst 3 none]
def wsX3_startBatch : List Cond := .code yX3_startBatch cX3_startBatch 2 none :: ((wsX3_startBatch_r1 ++ wsX3_startBatch_r2) ++ wsX60 ++ wsX30 ++ wsX10)
def wsX3_collectSum : List Cond := .code yX3_collectSum cX3_collectSum 4 none :: ([.fieldLink RX3 86 "StageDesk$Worker" "batch" "LStageDesk$EventRow;", .fieldLink RX3 59 "StageDesk$EventRow" "size" "I", .fieldLink RX3 100 "StageDesk$EventRow" "values" "[I", .fieldLink RX3 107 "StageDesk$Worker" "gifts" "LStageDesk$Gifts;", .fieldLink RX3 115 "StageDesk$Stage" "first" "LStageDesk$Stage;", .fieldLink RX3 104 "StageDesk$EventRow" "births" "[I", .methodLink RX3 119 yX2_append, .instanceMethod yX2_append, .selects RX2 yX2_append yX2_append, .initialized RX2, .code yX2_append cX2_append 4 none, .fieldLink RX2 28 "StageDesk$Gifts" "size" "I", .fieldLink RX2 11 "StageDesk$Gifts" "targets" "[LStageDesk$Stage;", .fieldLink RX2 17 "StageDesk$Gifts" "values" "[I", .fieldLink RX2 21 "StageDesk$Gifts" "births" "[I"] ++ wsX60 ++ wsX10 ++ wsX30 ++ wsX20)
def wsX3_collectFrom : List Cond := .code yX3_collectFrom cX3_collectFrom 4 none :: ([.fieldLink RX3 34 "StageDesk$Stage" "sort" "I", .fieldLink RX3 115 "StageDesk$Stage" "first" "LStageDesk$Stage;", .fieldLink RX3 124 "StageDesk$Stage" "second" "LStageDesk$Stage;", .methodLink RX3 119 yX2_append, .instanceMethod yX2_append, .selects RX2 yX2_append yX2_append, .initialized RX2, .code yX2_append cX2_append 4 none, .fieldLink RX2 28 "StageDesk$Gifts" "size" "I", .fieldLink RX2 11 "StageDesk$Gifts" "targets" "[LStageDesk$Stage;", .fieldLink RX2 17 "StageDesk$Gifts" "values" "[I", .fieldLink RX2 21 "StageDesk$Gifts" "births" "[I"] ++ wsX30 ++ wsX20)
def wsX3_collectGifts_r1 : List Cond := [Cond.fieldLink RX3 34 "StageDesk$Stage" "sort" "I", Cond.fieldLink RX3 86 "StageDesk$Worker" "batch" "LStageDesk$EventRow;", Cond.fieldLink RX3 59 "StageDesk$EventRow" "size" "I", Cond.fieldLink RX3 100 "StageDesk$EventRow" "values" "[I", Cond.fieldLink RX3 104 "StageDesk$EventRow" "births" "[I", Cond.fieldLink RX3 107 "StageDesk$Worker" "gifts" "LStageDesk$Gifts;", Cond.methodLink RX3 96 yX3_collectSum, Cond.instanceMethod yX3_collectSum, Cond.selects RX3 yX3_collectSum yX3_collectSum, Cond.initialized RX3, Cond.code yX3_collectSum cX3_collectSum 4 none, Cond.fieldLink RX3 115 "StageDesk$Stage" "first" "LStageDesk$Stage;", Cond.methodLink RX3 119 yX2_append, Cond.instanceMethod yX2_append, Cond.selects RX2 yX2_append yX2_append, Cond.initialized RX2, Cond.code yX2_append cX2_append 4 none, Cond.fieldLink RX2 28 "StageDesk$Gifts" "size" "I", Cond.fieldLink RX2 11 "StageDesk$Gifts" "targets" "[LStageDesk$Stage;", Cond.fieldLink RX2 17 "StageDesk$Gifts" "values" "[I", Cond.fieldLink RX2 21 "StageDesk$Gifts" "births" "[I", Cond.methodLink RX3 111 yX3_collectFrom, Cond.instanceMethod yX3_collectFrom, Cond.selects RX3 yX3_collectFrom yX3_collectFrom]
def wsX3_collectGifts_r2 : List Cond := [Cond.code yX3_collectFrom cX3_collectFrom 4 none, Cond.fieldLink RX3 124 "StageDesk$Stage" "second" "LStageDesk$Stage;"]
def wsX3_collectGifts : List Cond := .code yX3_collectGifts cX3_collectGifts 3 none :: ((wsX3_collectGifts_r1 ++ wsX3_collectGifts_r2) ++ wsX30 ++ wsX60 ++ wsX10 ++ wsX20)
def wsX3_isLongIdle : List Cond := .code yX3_isLongIdle cX3_isLongIdle 2 (some .boolean) :: ([.fieldLink RX3 86 "StageDesk$Worker" "batch" "LStageDesk$EventRow;", .fieldLink RX3 59 "StageDesk$EventRow" "size" "I", .fieldLink RX3 140 "StageDesk$Worker" "idleTicks" "I"] ++ wsX60 ++ wsX10)
def wsX3_controlWorkers : List Cond := .code yX3_controlWorkers cX3_controlWorkers 1 none :: ([.fieldLink RX3 48 "StageDesk$Stage" "queue" "LStageDesk$EventRow;", .fieldLink RX3 59 "StageDesk$EventRow" "size" "I", .fieldLink RX3 37 "StageDesk$Stage" "bound" "I", .fieldLink RX3 28 "StageDesk$Stage" "workerCount" "I", .fieldLink RX3 54 "StageDesk$Stage" "workers" "[LStageDesk$Worker;", .fieldLink RX3 140 "StageDesk$Worker" "idleTicks" "I", .methodLink RX3 143 yX3_isLongIdle, .instanceMethod yX3_isLongIdle, .selects RX3 yX3_isLongIdle yX3_isLongIdle, .initialized RX3, .code yX3_isLongIdle cX3_isLongIdle 2 (some .boolean), .fieldLink RX3 86 "StageDesk$Worker" "batch" "LStageDesk$EventRow;"] ++ wsX30 ++ wsX10 ++ wsX60)
def wsX3_controlBatch : List Cond := .code yX3_controlBatch cX3_controlBatch 1 none :: ([.fieldLink RX3 48 "StageDesk$Stage" "queue" "LStageDesk$EventRow;", .fieldLink RX3 59 "StageDesk$EventRow" "size" "I", .fieldLink RX3 31 "StageDesk$Stage" "batchSize" "I", .methodLink RX3 80 Lib.Math.min.name, .static Lib.Math.min.name, .initialized "java/lang/Math", .code Lib.Math.min.name Lib.Math.min.code 2 (some .int), .methodLink RX3 147 Lib.Math.max.name, .static Lib.Math.max.name, .code Lib.Math.max.name Lib.Math.max.code 2 (some .int)] ++ wsX30 ++ wsX10)
def wsX5_response : List Cond := .code yX5_response cX5_response 3 (some .int) :: ([.fieldLink RX5 18 "StageDesk$Times" "size" "I", .fieldLink RX5 15 "StageDesk$Times" "sorted" "[I", .fieldLink RX5 9 "StageDesk$Times" "kept" "[I"] ++ wsX50)
def wsX3_controlRate : List Cond := .code yX3_controlRate cX3_controlRate 1 none :: ([.fieldLink RX3 12 "StageDesk$Stage" "times" "LStageDesk$Times;", .fieldLink RX3 133 "StageDesk$Stage" "goal" "I", .fieldLink RX3 18 "StageDesk$Stage" "rate" "I", .methodLink RX3 147 Lib.Math.max.name, .static Lib.Math.max.name, .initialized "java/lang/Math", .code Lib.Math.max.name Lib.Math.max.code 2 (some .int), .methodLink RX3 80 Lib.Math.min.name, .static Lib.Math.min.name, .code Lib.Math.min.name Lib.Math.min.code 2 (some .int), .methodLink RX3 150 yX5_response, .instanceMethod yX5_response, .selects RX5 yX5_response yX5_response, .initialized RX5, .code yX5_response cX5_response 3 (some .int), .fieldLink RX5 18 "StageDesk$Times" "size" "I", .fieldLink RX5 15 "StageDesk$Times" "sorted" "[I", .fieldLink RX5 9 "StageDesk$Times" "kept" "[I"] ++ wsX30 ++ wsX50)
def wsX3_control_r1 : List Cond := [Cond.fieldLink RX3 34 "StageDesk$Stage" "sort" "I", Cond.fieldLink RX3 133 "StageDesk$Stage" "goal" "I", Cond.fieldLink RX3 12 "StageDesk$Stage" "times" "LStageDesk$Times;", Cond.fieldLink RX3 136 "StageDesk$Times" "size" "I", Cond.methodLink RX3 127 yX3_controlWorkers, Cond.instanceMethod yX3_controlWorkers, Cond.selects RX3 yX3_controlWorkers yX3_controlWorkers, Cond.initialized RX3, Cond.code yX3_controlWorkers cX3_controlWorkers 1 none, Cond.fieldLink RX3 48 "StageDesk$Stage" "queue" "LStageDesk$EventRow;", Cond.fieldLink RX3 59 "StageDesk$EventRow" "size" "I", Cond.fieldLink RX3 37 "StageDesk$Stage" "bound" "I", Cond.fieldLink RX3 28 "StageDesk$Stage" "workerCount" "I", Cond.fieldLink RX3 54 "StageDesk$Stage" "workers" "[LStageDesk$Worker;", Cond.fieldLink RX3 140 "StageDesk$Worker" "idleTicks" "I", Cond.methodLink RX3 143 yX3_isLongIdle, Cond.instanceMethod yX3_isLongIdle, Cond.selects RX3 yX3_isLongIdle yX3_isLongIdle, Cond.code yX3_isLongIdle cX3_isLongIdle 2 (some .boolean), Cond.fieldLink RX3 86 "StageDesk$Worker" "batch" "LStageDesk$EventRow;", Cond.methodLink RX3 130 yX3_controlBatch, Cond.instanceMethod yX3_controlBatch, Cond.selects RX3 yX3_controlBatch yX3_controlBatch, Cond.code yX3_controlBatch cX3_controlBatch 1 none]
def wsX3_control_r2 : List Cond := [Cond.fieldLink RX3 31 "StageDesk$Stage" "batchSize" "I", Cond.methodLink RX3 80 Lib.Math.min.name, Cond.static Lib.Math.min.name, Cond.initialized "java/lang/Math", Cond.code Lib.Math.min.name Lib.Math.min.code 2 (some .int), Cond.methodLink RX3 147 Lib.Math.max.name, Cond.static Lib.Math.max.name, Cond.code Lib.Math.max.name Lib.Math.max.code 2 (some .int), Cond.methodLink RX3 137 yX3_controlRate, Cond.instanceMethod yX3_controlRate, Cond.selects RX3 yX3_controlRate yX3_controlRate, Cond.code yX3_controlRate cX3_controlRate 1 none, Cond.fieldLink RX3 18 "StageDesk$Stage" "rate" "I", Cond.methodLink RX3 150 yX5_response, Cond.instanceMethod yX5_response, Cond.selects RX5 yX5_response yX5_response, Cond.initialized RX5, Cond.code yX5_response cX5_response 3 (some .int), Cond.fieldLink RX5 18 "StageDesk$Times" "size" "I", Cond.fieldLink RX5 15 "StageDesk$Times" "sorted" "[I", Cond.fieldLink RX5 9 "StageDesk$Times" "kept" "[I"]
def wsX3_control : List Cond := .code yX3_control cX3_control 1 none :: ((wsX3_control_r1 ++ wsX3_control_r2) ++ wsX30 ++ wsX50 ++ wsX10 ++ wsX60)
def wsX3_figure : List Cond := .code yX3_figure cX3_figure 2 (some .int) :: ([.fieldLink RX3 48 "StageDesk$Stage" "queue" "LStageDesk$EventRow;", .fieldLink RX3 59 "StageDesk$EventRow" "size" "I", .fieldLink RX3 62 "StageDesk$Stage" "reserved" "I", .fieldLink RX3 28 "StageDesk$Stage" "workerCount" "I", .fieldLink RX3 31 "StageDesk$Stage" "batchSize" "I", .fieldLink RX3 18 "StageDesk$Stage" "rate" "I", .fieldLink RX3 25 "StageDesk$Stage" "tokens" "I", .fieldLink RX3 73 "StageDesk$Stage" "refusals" "I", .fieldLink RX3 153 "StageDesk$Stage" "batchesHandled" "I", .fieldLink RX3 156 "StageDesk$Stage" "eventsHandled" "I", .fieldLink RX3 12 "StageDesk$Stage" "times" "LStageDesk$Times;", .methodLink RX3 150 yX5_response, .instanceMethod yX5_response, .selects RX5 yX5_response yX5_response, .initialized RX5, .code yX5_response cX5_response 3 (some .int), .fieldLink RX5 18 "StageDesk$Times" "size" "I", .fieldLink RX5 15 "StageDesk$Times" "sorted" "[I", .fieldLink RX5 9 "StageDesk$Times" "kept" "[I"] ++ wsX30 ++ wsX10 ++ wsX50)
def wsX4_init : List Cond := .code yX4_init cX4_init 1 none :: ([.methodLink RX4 3 objectInit, .instanceMethod objectInit, .code objectInit ⟨#[0xb1]⟩ 1 none, .arrayClass .int, .fieldLink RX4 9 "StageDesk$Timers" "numbers" "[I", .classLink RX4 15 RX3, .fieldLink RX4 17 "StageDesk$Timers" "stages" "[LStageDesk$Stage;", .fieldLink RX4 21 "StageDesk$Timers" "values" "[I", .fieldLink RX4 24 "StageDesk$Timers" "dues" "[I"] ++ wsX40)
def wsX4_append : List Cond := .code yX4_append cX4_append 4 (some .int) :: ([.fieldLink RX4 27 "StageDesk$Timers" "size" "I", .fieldLink RX4 9 "StageDesk$Timers" "numbers" "[I", .fieldLink RX4 31 "StageDesk$Timers" "set" "I", .fieldLink RX4 17 "StageDesk$Timers" "stages" "[LStageDesk$Stage;", .fieldLink RX4 21 "StageDesk$Timers" "values" "[I", .fieldLink RX4 24 "StageDesk$Timers" "dues" "[I"] ++ wsX40)
def wsX4_move : List Cond := .code yX4_move cX4_move 3 none :: ([.fieldLink RX4 9 "StageDesk$Timers" "numbers" "[I", .fieldLink RX4 17 "StageDesk$Timers" "stages" "[LStageDesk$Stage;", .fieldLink RX4 21 "StageDesk$Timers" "values" "[I", .fieldLink RX4 24 "StageDesk$Timers" "dues" "[I"] ++ wsX40)
def wsX4_remove : List Cond := .code yX4_remove cX4_remove 4 (some .boolean) :: ([.fieldLink RX4 27 "StageDesk$Timers" "size" "I", .fieldLink RX4 9 "StageDesk$Timers" "numbers" "[I", .methodLink RX4 34 yX4_move, .instanceMethod yX4_move, .selects RX4 yX4_move yX4_move, .initialized RX4, .code yX4_move cX4_move 3 none, .fieldLink RX4 17 "StageDesk$Timers" "stages" "[LStageDesk$Stage;", .fieldLink RX4 21 "StageDesk$Timers" "values" "[I", .fieldLink RX4 24 "StageDesk$Timers" "dues" "[I"] ++ wsX40)
def wsX5_append : List Cond := .code yX5_append cX5_append 2 none :: ([.fieldLink RX5 18 "StageDesk$Times" "size" "I", .fieldLink RX5 9 "StageDesk$Times" "kept" "[I", .methodLink RX5 22 arraycopyName, .native arraycopyName, .static arraycopyName, .initialized "java/lang/System"] ++ wsX50)
def wsX6_figure : List Cond := .code yX6_figure cX6_figure 2 (some .int) :: ([.fieldLink RX6 14 "StageDesk$Worker" "batch" "LStageDesk$EventRow;", .fieldLink RX6 27 "StageDesk$EventRow" "size" "I", .fieldLink RX6 31 "StageDesk$Worker" "rest" "I", .fieldLink RX6 23 "StageDesk$Worker" "gifts" "LStageDesk$Gifts;", .fieldLink RX6 34 "StageDesk$Gifts" "size" "I", .fieldLink RX6 35 "StageDesk$Gifts" "next" "I"] ++ wsX60 ++ wsX10 ++ wsX20)
def wsX7_init_r1 : List Cond := [Cond.methodLink RX7 3 objectInit, Cond.instanceMethod objectInit, Cond.code objectInit ⟨#[0xb1]⟩ 1 none, Cond.classLink RX7 9 RX3, Cond.fieldLink RX7 11 "StageDesk" "stages" "[LStageDesk$Stage;", Cond.classLink RX7 15 RX4, Cond.instantiable RX4 6, Cond.initialized RX4, Cond.fieldLink RX7 18 "StageDesk" "timers" "LStageDesk$Timers;", Cond.classLink RX7 22 RX0, Cond.instantiable RX0 3, Cond.initialized RX0, Cond.fieldLink RX7 25 "StageDesk" "doneRow" "LStageDesk$DoneRow;", Cond.instanceMethod yX4_init, Cond.code yX4_init cX4_init 1 none, Cond.methodLink RX4 3 objectInit, Cond.arrayClass .int, Cond.fieldLink RX4 9 "StageDesk$Timers" "numbers" "[I", Cond.classLink RX4 15 RX3, Cond.fieldLink RX4 17 "StageDesk$Timers" "stages" "[LStageDesk$Stage;", Cond.fieldLink RX4 21 "StageDesk$Timers" "values" "[I", Cond.fieldLink RX4 24 "StageDesk$Timers" "dues" "[I", Cond.instanceMethod yX0_init, Cond.code yX0_init cX0_init 1 none]
def wsX7_init_r2 : List Cond := [Cond.methodLink RX0 1 objectInit, Cond.fieldLink RX0 7 "StageDesk$DoneRow" "numbers" "[I", Cond.fieldLink RX0 13 "StageDesk$DoneRow" "values" "[I"]
def wsX7_init : List Cond := .code yX7_init cX7_init 1 none :: ((wsX7_init_r1 ++ wsX7_init_r2) ++ wsX70 ++ wsX40 ++ wsX00)
def wsX7_within : List Cond := .code yX7_within cX7_within 3 (some .boolean) :: ([])
def wsX7_stage_r1 : List Cond := [Cond.fieldLink RX7 33 "StageDesk" "stageCount" "I", Cond.fieldLink RX7 11 "StageDesk" "stages" "[LStageDesk$Stage;", Cond.classLink RX7 9 RX3, Cond.instantiable RX3 19, Cond.initialized RX3, Cond.methodLink RX7 29 yX7_within, Cond.static yX7_within, Cond.initialized RX7, Cond.code yX7_within cX7_within 3 (some .boolean), Cond.methodLink RX7 37 yX3_init, Cond.instanceMethod yX3_init, Cond.code yX3_init cX3_init 6 none, Cond.methodLink RX3 3 objectInit, Cond.instanceMethod objectInit, Cond.code objectInit ⟨#[0xb1]⟩ 1 none, Cond.classLink RX3 9 RX5, Cond.instantiable RX5 3, Cond.initialized RX5, Cond.fieldLink RX3 12 "StageDesk$Stage" "times" "LStageDesk$Times;", Cond.fieldLink RX3 18 "StageDesk$Stage" "rate" "I", Cond.fieldLink RX3 22 "StageDesk$Stage" "depth" "I", Cond.fieldLink RX3 25 "StageDesk$Stage" "tokens" "I", Cond.fieldLink RX3 28 "StageDesk$Stage" "workerCount" "I", Cond.fieldLink RX3 31 "StageDesk$Stage" "batchSize" "I"]
def wsX7_stage_r2 : List Cond := [Cond.fieldLink RX3 34 "StageDesk$Stage" "sort" "I", Cond.fieldLink RX3 37 "StageDesk$Stage" "bound" "I", Cond.fieldLink RX3 40 "StageDesk$Stage" "cost" "I", Cond.classLink RX3 43 RX1, Cond.instantiable RX1 4, Cond.initialized RX1, Cond.fieldLink RX3 48 "StageDesk$Stage" "queue" "LStageDesk$EventRow;", Cond.classLink RX3 52 RX6, Cond.fieldLink RX3 54 "StageDesk$Stage" "workers" "[LStageDesk$Worker;", Cond.instantiable RX6 5, Cond.initialized RX6, Cond.instanceMethod yX5_init, Cond.code yX5_init cX5_init 1 none, Cond.methodLink RX5 3 objectInit, Cond.arrayClass .int, Cond.fieldLink RX5 9 "StageDesk$Times" "kept" "[I", Cond.fieldLink RX5 15 "StageDesk$Times" "sorted" "[I", Cond.methodLink RX3 45 yX1_init, Cond.instanceMethod yX1_init, Cond.code yX1_init cX1_init 2 none, Cond.methodLink RX1 1 objectInit, Cond.fieldLink RX1 7 "StageDesk$EventRow" "numbers" "[I", Cond.fieldLink RX1 13 "StageDesk$EventRow" "values" "[I", Cond.fieldLink RX1 16 "StageDesk$EventRow" "births" "[I"]
def wsX7_stage_r3 : List Cond := [Cond.instanceMethod yX6_init, Cond.code yX6_init cX6_init 1 none, Cond.methodLink RX6 3 objectInit, Cond.classLink RX6 9 RX1, Cond.fieldLink RX6 14 "StageDesk$Worker" "batch" "LStageDesk$EventRow;", Cond.classLink RX6 20 RX2, Cond.instantiable RX2 6, Cond.initialized RX2, Cond.fieldLink RX6 23 "StageDesk$Worker" "gifts" "LStageDesk$Gifts;", Cond.methodLink RX6 11 yX1_init, Cond.instanceMethod yX2_init, Cond.code yX2_init cX2_init 1 none, Cond.methodLink RX2 3 objectInit, Cond.classLink RX2 9 RX3, Cond.fieldLink RX2 11 "StageDesk$Gifts" "targets" "[LStageDesk$Stage;", Cond.fieldLink RX2 17 "StageDesk$Gifts" "values" "[I", Cond.fieldLink RX2 21 "StageDesk$Gifts" "births" "[I", Cond.fieldLink RX2 24 "StageDesk$Gifts" "number" "I"]
def wsX7_stage : List Cond := .code yX7_stage cX7_stage 5 (some .int) :: ((wsX7_stage_r1 ++ (wsX7_stage_r2 ++ wsX7_stage_r3)) ++ wsX70 ++ wsX30 ++ wsX50 ++ wsX10 ++ wsX60 ++ wsX20)
def wsX7_stageAt : List Cond := .code yX7_stageAt cX7_stageAt 2 (some (.object "StageDesk$Stage")) :: ([.fieldLink RX7 33 "StageDesk" "stageCount" "I", .fieldLink RX7 11 "StageDesk" "stages" "[LStageDesk$Stage;", .methodLink RX7 29 yX7_within, .static yX7_within, .initialized RX7, .code yX7_within cX7_within 3 (some .boolean)] ++ wsX70)
def wsX7_isTarget : List Cond := .code yX7_isTarget cX7_isTarget 2 (some .boolean) :: ([.fieldLink RX7 33 "StageDesk" "stageCount" "I", .methodLink RX7 29 yX7_within, .static yX7_within, .initialized RX7, .code yX7_within cX7_within 3 (some .boolean)] ++ wsX70)
def wsX7_targets : List Cond := .code yX7_targets cX7_targets 5 (some .int) :: ([.fieldLink RX7 48 "StageDesk$Stage" "first" "LStageDesk$Stage;", .fieldLink RX7 52 "StageDesk$Stage" "second" "LStageDesk$Stage;", .methodLink RX7 40 yX7_stageAt, .instanceMethod yX7_stageAt, .selects RX7 yX7_stageAt yX7_stageAt, .initialized RX7, .code yX7_stageAt cX7_stageAt 2 (some (.object "StageDesk$Stage")), .fieldLink RX7 33 "StageDesk" "stageCount" "I", .fieldLink RX7 11 "StageDesk" "stages" "[LStageDesk$Stage;", .methodLink RX7 29 yX7_within, .static yX7_within, .code yX7_within cX7_within 3 (some .boolean), .methodLink RX7 44 yX7_isTarget, .instanceMethod yX7_isTarget, .selects RX7 yX7_isTarget yX7_isTarget, .code yX7_isTarget cX7_isTarget 2 (some .boolean)] ++ wsX30 ++ wsX70)
def wsX7_admit : List Cond := .code yX7_admit cX7_admit 6 (some .int) :: ([.fieldLink RX7 55 "StageDesk$Stage" "rate" "I", .fieldLink RX7 58 "StageDesk$Stage" "depth" "I", .fieldLink RX7 61 "StageDesk$Stage" "goal" "I", .fieldLink RX7 64 "StageDesk$Stage" "tokens" "I", .methodLink RX7 67 Lib.Math.min.name, .static Lib.Math.min.name, .initialized "java/lang/Math", .code Lib.Math.min.name Lib.Math.min.code 2 (some .int), .methodLink RX7 40 yX7_stageAt, .instanceMethod yX7_stageAt, .selects RX7 yX7_stageAt yX7_stageAt, .initialized RX7, .code yX7_stageAt cX7_stageAt 2 (some (.object "StageDesk$Stage")), .fieldLink RX7 33 "StageDesk" "stageCount" "I", .fieldLink RX7 11 "StageDesk" "stages" "[LStageDesk$Stage;", .methodLink RX7 29 yX7_within, .static yX7_within, .code yX7_within cX7_within 3 (some .boolean)] ++ wsX30 ++ wsX70)
def wsX7_makeEvent : List Cond := .code yX7_makeEvent cX7_makeEvent 1 (some .int) :: ([.fieldLink RX7 97 "StageDesk" "made" "I"] ++ wsX70)
def wsX7_put_r1 : List Cond := [Cond.fieldLink RX7 80 "StageDesk" "now" "I", Cond.methodLink RX7 40 yX7_stageAt, Cond.instanceMethod yX7_stageAt, Cond.selects RX7 yX7_stageAt yX7_stageAt, Cond.initialized RX7, Cond.code yX7_stageAt cX7_stageAt 2 (some (.object "StageDesk$Stage")), Cond.fieldLink RX7 33 "StageDesk" "stageCount" "I", Cond.fieldLink RX7 11 "StageDesk" "stages" "[LStageDesk$Stage;", Cond.methodLink RX7 29 yX7_within, Cond.static yX7_within, Cond.code yX7_within cX7_within 3 (some .boolean), Cond.methodLink RX7 73 yX3_ask, Cond.instanceMethod yX3_ask, Cond.selects RX3 yX3_ask yX3_ask, Cond.initialized RX3, Cond.code yX3_ask cX3_ask 2 (some .int), Cond.fieldLink RX3 65 "StageDesk$Stage" "closed" "Z", Cond.fieldLink RX3 25 "StageDesk$Stage" "tokens" "I", Cond.fieldLink RX3 73 "StageDesk$Stage" "refusals" "I", Cond.methodLink RX3 69 yX3_freePlaces, Cond.instanceMethod yX3_freePlaces, Cond.selects RX3 yX3_freePlaces yX3_freePlaces, Cond.code yX3_freePlaces cX3_freePlaces 1 (some .int), Cond.fieldLink RX3 37 "StageDesk$Stage" "bound" "I"]
def wsX7_put_r2 : List Cond := [Cond.fieldLink RX3 48 "StageDesk$Stage" "queue" "LStageDesk$EventRow;", Cond.fieldLink RX3 59 "StageDesk$EventRow" "size" "I", Cond.fieldLink RX3 62 "StageDesk$Stage" "reserved" "I", Cond.methodLink RX7 77 yX7_makeEvent, Cond.instanceMethod yX7_makeEvent, Cond.selects RX7 yX7_makeEvent yX7_makeEvent, Cond.code yX7_makeEvent cX7_makeEvent 1 (some .int), Cond.fieldLink RX7 97 "StageDesk" "made" "I", Cond.methodLink RX7 83 yX3_take, Cond.instanceMethod yX3_take, Cond.selects RX3 yX3_take yX3_take, Cond.code yX3_take cX3_take 4 none, Cond.methodLink RX3 76 yX1_append, Cond.instanceMethod yX1_append, Cond.selects RX1 yX1_append yX1_append, Cond.initialized RX1, Cond.code yX1_append cX1_append 4 none, Cond.fieldLink RX1 19 "StageDesk$EventRow" "size" "I", Cond.fieldLink RX1 7 "StageDesk$EventRow" "numbers" "[I", Cond.fieldLink RX1 13 "StageDesk$EventRow" "values" "[I", Cond.fieldLink RX1 16 "StageDesk$EventRow" "births" "[I"]
def wsX7_put : List Cond := .code yX7_put cX7_put 6 (some .int) :: ((wsX7_put_r1 ++ wsX7_put_r2) ++ wsX70 ++ wsX30 ++ wsX10)
def wsX7_prepare : List Cond := .code yX7_prepare cX7_prepare 4 (some .int) :: ([.fieldLink RX7 87 "StageDesk$Stage" "closed" "Z", .fieldLink RX7 94 "StageDesk$Stage" "reserved" "I", .methodLink RX7 40 yX7_stageAt, .instanceMethod yX7_stageAt, .selects RX7 yX7_stageAt yX7_stageAt, .initialized RX7, .code yX7_stageAt cX7_stageAt 2 (some (.object "StageDesk$Stage")), .fieldLink RX7 33 "StageDesk" "stageCount" "I", .fieldLink RX7 11 "StageDesk" "stages" "[LStageDesk$Stage;", .methodLink RX7 29 yX7_within, .static yX7_within, .code yX7_within cX7_within 3 (some .boolean), .methodLink RX7 91 yX3_freePlaces, .instanceMethod yX3_freePlaces, .selects RX3 yX3_freePlaces yX3_freePlaces, .initialized RX3, .code yX3_freePlaces cX3_freePlaces 1 (some .int), .fieldLink RX3 37 "StageDesk$Stage" "bound" "I", .fieldLink RX3 48 "StageDesk$Stage" "queue" "LStageDesk$EventRow;", .fieldLink RX3 59 "StageDesk$EventRow" "size" "I", .fieldLink RX3 62 "StageDesk$Stage" "reserved" "I"] ++ wsX30 ++ wsX70 ++ wsX10)
def wsX7_commit_r1 : List Cond := [Cond.fieldLink RX7 94 "StageDesk$Stage" "reserved" "I", Cond.fieldLink RX7 87 "StageDesk$Stage" "closed" "Z", Cond.fieldLink RX7 97 "StageDesk" "made" "I", Cond.fieldLink RX7 100 "StageDesk$Stage" "queue" "LStageDesk$EventRow;", Cond.fieldLink RX7 80 "StageDesk" "now" "I", Cond.methodLink RX7 40 yX7_stageAt, Cond.instanceMethod yX7_stageAt, Cond.selects RX7 yX7_stageAt yX7_stageAt, Cond.initialized RX7, Cond.code yX7_stageAt cX7_stageAt 2 (some (.object "StageDesk$Stage")), Cond.fieldLink RX7 33 "StageDesk" "stageCount" "I", Cond.fieldLink RX7 11 "StageDesk" "stages" "[LStageDesk$Stage;", Cond.methodLink RX7 29 yX7_within, Cond.static yX7_within, Cond.code yX7_within cX7_within 3 (some .boolean), Cond.methodLink RX7 77 yX7_makeEvent, Cond.instanceMethod yX7_makeEvent, Cond.selects RX7 yX7_makeEvent yX7_makeEvent, Cond.code yX7_makeEvent cX7_makeEvent 1 (some .int), Cond.methodLink RX7 104 yX1_append, Cond.instanceMethod yX1_append, Cond.selects RX1 yX1_append yX1_append, Cond.initialized RX1, Cond.code yX1_append cX1_append 4 none]
def wsX7_commit_r2 : List Cond := [Cond.fieldLink RX1 19 "StageDesk$EventRow" "size" "I", Cond.fieldLink RX1 7 "StageDesk$EventRow" "numbers" "[I", Cond.fieldLink RX1 13 "StageDesk$EventRow" "values" "[I", Cond.fieldLink RX1 16 "StageDesk$EventRow" "births" "[I"]
def wsX7_commit : List Cond := .code yX7_commit cX7_commit 6 (some .int) :: ((wsX7_commit_r1 ++ wsX7_commit_r2) ++ wsX30 ++ wsX70 ++ wsX10)
def wsX7_abort : List Cond := .code yX7_abort cX7_abort 4 (some .int) :: ([.fieldLink RX7 94 "StageDesk$Stage" "reserved" "I", .methodLink RX7 40 yX7_stageAt, .instanceMethod yX7_stageAt, .selects RX7 yX7_stageAt yX7_stageAt, .initialized RX7, .code yX7_stageAt cX7_stageAt 2 (some (.object "StageDesk$Stage")), .fieldLink RX7 33 "StageDesk" "stageCount" "I", .fieldLink RX7 11 "StageDesk" "stages" "[LStageDesk$Stage;", .methodLink RX7 29 yX7_within, .static yX7_within, .code yX7_within cX7_within 3 (some .boolean)] ++ wsX30 ++ wsX70)
def wsX7_timer : List Cond := .code yX7_timer cX7_timer 5 (some .int) :: ([.fieldLink RX7 18 "StageDesk" "timers" "LStageDesk$Timers;", .fieldLink RX7 80 "StageDesk" "now" "I", .methodLink RX7 40 yX7_stageAt, .instanceMethod yX7_stageAt, .selects RX7 yX7_stageAt yX7_stageAt, .initialized RX7, .code yX7_stageAt cX7_stageAt 2 (some (.object "StageDesk$Stage")), .fieldLink RX7 33 "StageDesk" "stageCount" "I", .fieldLink RX7 11 "StageDesk" "stages" "[LStageDesk$Stage;", .methodLink RX7 29 yX7_within, .static yX7_within, .code yX7_within cX7_within 3 (some .boolean), .methodLink RX7 109 yX4_append, .instanceMethod yX4_append, .selects RX4 yX4_append yX4_append, .initialized RX4, .code yX4_append cX4_append 4 (some .int), .fieldLink RX4 27 "StageDesk$Timers" "size" "I", .fieldLink RX4 9 "StageDesk$Timers" "numbers" "[I", .fieldLink RX4 31 "StageDesk$Timers" "set" "I", .fieldLink RX4 17 "StageDesk$Timers" "stages" "[LStageDesk$Stage;", .fieldLink RX4 21 "StageDesk$Timers" "values" "[I", .fieldLink RX4 24 "StageDesk$Timers" "dues" "[I"] ++ wsX70 ++ wsX40)
def wsX7_cancel : List Cond := .code yX7_cancel cX7_cancel 2 (some .int) :: ([.fieldLink RX7 18 "StageDesk" "timers" "LStageDesk$Timers;", .methodLink RX7 112 yX4_remove, .instanceMethod yX4_remove, .selects RX4 yX4_remove yX4_remove, .initialized RX4, .code yX4_remove cX4_remove 4 (some .boolean), .fieldLink RX4 27 "StageDesk$Timers" "size" "I", .fieldLink RX4 9 "StageDesk$Timers" "numbers" "[I", .methodLink RX4 34 yX4_move, .instanceMethod yX4_move, .selects RX4 yX4_move yX4_move, .code yX4_move cX4_move 3 none, .fieldLink RX4 17 "StageDesk$Timers" "stages" "[LStageDesk$Stage;", .fieldLink RX4 21 "StageDesk$Timers" "values" "[I", .fieldLink RX4 24 "StageDesk$Timers" "dues" "[I"] ++ wsX70 ++ wsX40)
def wsX7_close : List Cond := .code yX7_close cX7_close 3 (some .int) :: ([.fieldLink RX7 87 "StageDesk$Stage" "closed" "Z", .methodLink RX7 40 yX7_stageAt, .instanceMethod yX7_stageAt, .selects RX7 yX7_stageAt yX7_stageAt, .initialized RX7, .code yX7_stageAt cX7_stageAt 2 (some (.object "StageDesk$Stage")), .fieldLink RX7 33 "StageDesk" "stageCount" "I", .fieldLink RX7 11 "StageDesk" "stages" "[LStageDesk$Stage;", .methodLink RX7 29 yX7_within, .static yX7_within, .code yX7_within cX7_within 3 (some .boolean)] ++ wsX30 ++ wsX70)
def wsX7_fire_r1 : List Cond := [Cond.fieldLink RX7 80 "StageDesk" "now" "I", Cond.fieldLink RX7 144 "StageDesk" "lostCount" "I", Cond.methodLink RX7 77 yX7_makeEvent, Cond.instanceMethod yX7_makeEvent, Cond.selects RX7 yX7_makeEvent yX7_makeEvent, Cond.initialized RX7, Cond.code yX7_makeEvent cX7_makeEvent 1 (some .int), Cond.fieldLink RX7 97 "StageDesk" "made" "I", Cond.methodLink RX7 73 yX3_ask, Cond.instanceMethod yX3_ask, Cond.selects RX3 yX3_ask yX3_ask, Cond.initialized RX3, Cond.code yX3_ask cX3_ask 2 (some .int), Cond.fieldLink RX3 65 "StageDesk$Stage" "closed" "Z", Cond.fieldLink RX3 25 "StageDesk$Stage" "tokens" "I", Cond.fieldLink RX3 73 "StageDesk$Stage" "refusals" "I", Cond.methodLink RX3 69 yX3_freePlaces, Cond.instanceMethod yX3_freePlaces, Cond.selects RX3 yX3_freePlaces yX3_freePlaces, Cond.code yX3_freePlaces cX3_freePlaces 1 (some .int), Cond.fieldLink RX3 37 "StageDesk$Stage" "bound" "I", Cond.fieldLink RX3 48 "StageDesk$Stage" "queue" "LStageDesk$EventRow;", Cond.fieldLink RX3 59 "StageDesk$EventRow" "size" "I", Cond.fieldLink RX3 62 "StageDesk$Stage" "reserved" "I"]
def wsX7_fire_r2 : List Cond := [Cond.methodLink RX7 83 yX3_take, Cond.instanceMethod yX3_take, Cond.selects RX3 yX3_take yX3_take, Cond.code yX3_take cX3_take 4 none, Cond.methodLink RX3 76 yX1_append, Cond.instanceMethod yX1_append, Cond.selects RX1 yX1_append yX1_append, Cond.initialized RX1, Cond.code yX1_append cX1_append 4 none, Cond.fieldLink RX1 19 "StageDesk$EventRow" "size" "I", Cond.fieldLink RX1 7 "StageDesk$EventRow" "numbers" "[I", Cond.fieldLink RX1 13 "StageDesk$EventRow" "values" "[I", Cond.fieldLink RX1 16 "StageDesk$EventRow" "births" "[I"]
def wsX7_fire : List Cond := .code yX7_fire cX7_fire 4 none :: ((wsX7_fire_r1 ++ wsX7_fire_r2) ++ wsX70 ++ wsX30 ++ wsX10)
def wsX7_fireTimers_r1 : List Cond := [Cond.fieldLink RX7 18 "StageDesk" "timers" "LStageDesk$Timers;", Cond.fieldLink RX7 160 "StageDesk$Timers" "size" "I", Cond.fieldLink RX7 161 "StageDesk$Timers" "dues" "[I", Cond.fieldLink RX7 80 "StageDesk" "now" "I", Cond.fieldLink RX7 164 "StageDesk$Timers" "stages" "[LStageDesk$Stage;", Cond.fieldLink RX7 165 "StageDesk$Timers" "values" "[I", Cond.methodLink RX7 166 yX7_fire, Cond.instanceMethod yX7_fire, Cond.selects RX7 yX7_fire yX7_fire, Cond.initialized RX7, Cond.code yX7_fire cX7_fire 4 none, Cond.fieldLink RX7 144 "StageDesk" "lostCount" "I", Cond.methodLink RX7 77 yX7_makeEvent, Cond.instanceMethod yX7_makeEvent, Cond.selects RX7 yX7_makeEvent yX7_makeEvent, Cond.code yX7_makeEvent cX7_makeEvent 1 (some .int), Cond.fieldLink RX7 97 "StageDesk" "made" "I", Cond.methodLink RX7 73 yX3_ask, Cond.instanceMethod yX3_ask, Cond.selects RX3 yX3_ask yX3_ask, Cond.initialized RX3, Cond.code yX3_ask cX3_ask 2 (some .int), Cond.fieldLink RX3 65 "StageDesk$Stage" "closed" "Z", Cond.fieldLink RX3 25 "StageDesk$Stage" "tokens" "I"]
def wsX7_fireTimers_r2 : List Cond := [Cond.fieldLink RX3 73 "StageDesk$Stage" "refusals" "I", Cond.methodLink RX3 69 yX3_freePlaces, Cond.instanceMethod yX3_freePlaces, Cond.selects RX3 yX3_freePlaces yX3_freePlaces, Cond.code yX3_freePlaces cX3_freePlaces 1 (some .int), Cond.fieldLink RX3 37 "StageDesk$Stage" "bound" "I", Cond.fieldLink RX3 48 "StageDesk$Stage" "queue" "LStageDesk$EventRow;", Cond.fieldLink RX3 59 "StageDesk$EventRow" "size" "I", Cond.fieldLink RX3 62 "StageDesk$Stage" "reserved" "I", Cond.methodLink RX7 83 yX3_take, Cond.instanceMethod yX3_take, Cond.selects RX3 yX3_take yX3_take, Cond.code yX3_take cX3_take 4 none, Cond.methodLink RX3 76 yX1_append, Cond.instanceMethod yX1_append, Cond.selects RX1 yX1_append yX1_append, Cond.initialized RX1, Cond.code yX1_append cX1_append 4 none, Cond.fieldLink RX1 19 "StageDesk$EventRow" "size" "I", Cond.fieldLink RX1 7 "StageDesk$EventRow" "numbers" "[I", Cond.fieldLink RX1 13 "StageDesk$EventRow" "values" "[I", Cond.fieldLink RX1 16 "StageDesk$EventRow" "births" "[I", Cond.methodLink RX7 170 yX4_move, Cond.instanceMethod yX4_move]
def wsX7_fireTimers_r3 : List Cond := [Cond.selects RX4 yX4_move yX4_move, Cond.initialized RX4, Cond.code yX4_move cX4_move 3 none, Cond.fieldLink RX4 9 "StageDesk$Timers" "numbers" "[I", Cond.fieldLink RX4 17 "StageDesk$Timers" "stages" "[LStageDesk$Stage;", Cond.fieldLink RX4 21 "StageDesk$Timers" "values" "[I", Cond.fieldLink RX4 24 "StageDesk$Timers" "dues" "[I"]
def wsX7_fireTimers : List Cond := .code yX7_fireTimers cX7_fireTimers 3 none :: ((wsX7_fireTimers_r1 ++ (wsX7_fireTimers_r2 ++ wsX7_fireTimers_r3)) ++ wsX70 ++ wsX40 ++ wsX30 ++ wsX10)
def wsX7_offerGifts_r1 : List Cond := [Cond.fieldLink RX7 207 "StageDesk$Gifts" "next" "I", Cond.fieldLink RX7 212 "StageDesk$Gifts" "size" "I", Cond.fieldLink RX7 213 "StageDesk$Gifts" "number" "I", Cond.fieldLink RX7 216 "StageDesk$Gifts" "targets" "[LStageDesk$Stage;", Cond.fieldLink RX7 219 "StageDesk$Gifts" "values" "[I", Cond.fieldLink RX7 220 "StageDesk$Gifts" "births" "[I", Cond.methodLink RX7 77 yX7_makeEvent, Cond.instanceMethod yX7_makeEvent, Cond.selects RX7 yX7_makeEvent yX7_makeEvent, Cond.initialized RX7, Cond.code yX7_makeEvent cX7_makeEvent 1 (some .int), Cond.fieldLink RX7 97 "StageDesk" "made" "I", Cond.methodLink RX7 73 yX3_ask, Cond.instanceMethod yX3_ask, Cond.selects RX3 yX3_ask yX3_ask, Cond.initialized RX3, Cond.code yX3_ask cX3_ask 2 (some .int), Cond.fieldLink RX3 65 "StageDesk$Stage" "closed" "Z", Cond.fieldLink RX3 25 "StageDesk$Stage" "tokens" "I", Cond.fieldLink RX3 73 "StageDesk$Stage" "refusals" "I", Cond.methodLink RX3 69 yX3_freePlaces, Cond.instanceMethod yX3_freePlaces, Cond.selects RX3 yX3_freePlaces yX3_freePlaces, Cond.code yX3_freePlaces cX3_freePlaces 1 (some .int)]
def wsX7_offerGifts_r2 : List Cond := [Cond.fieldLink RX3 37 "StageDesk$Stage" "bound" "I", Cond.fieldLink RX3 48 "StageDesk$Stage" "queue" "LStageDesk$EventRow;", Cond.fieldLink RX3 59 "StageDesk$EventRow" "size" "I", Cond.fieldLink RX3 62 "StageDesk$Stage" "reserved" "I", Cond.methodLink RX7 83 yX3_take, Cond.instanceMethod yX3_take, Cond.selects RX3 yX3_take yX3_take, Cond.code yX3_take cX3_take 4 none, Cond.methodLink RX3 76 yX1_append, Cond.instanceMethod yX1_append, Cond.selects RX1 yX1_append yX1_append, Cond.initialized RX1, Cond.code yX1_append cX1_append 4 none, Cond.fieldLink RX1 19 "StageDesk$EventRow" "size" "I", Cond.fieldLink RX1 7 "StageDesk$EventRow" "numbers" "[I", Cond.fieldLink RX1 13 "StageDesk$EventRow" "values" "[I", Cond.fieldLink RX1 16 "StageDesk$EventRow" "births" "[I"]
def wsX7_offerGifts : List Cond := .code yX7_offerGifts cX7_offerGifts 3 (some .boolean) :: ((wsX7_offerGifts_r1 ++ wsX7_offerGifts_r2) ++ wsX20 ++ wsX70 ++ wsX30 ++ wsX10)
def wsX7_finishBatch_r1 : List Cond := [Cond.fieldLink RX7 174 "StageDesk$Worker" "batch" "LStageDesk$EventRow;", Cond.fieldLink RX7 223 "StageDesk$Stage" "batchesHandled" "I", Cond.fieldLink RX7 226 "StageDesk$Stage" "eventsHandled" "I", Cond.fieldLink RX7 122 "StageDesk$EventRow" "size" "I", Cond.fieldLink RX7 229 "StageDesk$Stage" "sort" "I", Cond.fieldLink RX7 232 "StageDesk$Stage" "times" "LStageDesk$Times;", Cond.fieldLink RX7 80 "StageDesk" "now" "I", Cond.fieldLink RX7 236 "StageDesk$EventRow" "births" "[I", Cond.fieldLink RX7 25 "StageDesk" "doneRow" "LStageDesk$DoneRow;", Cond.fieldLink RX7 125 "StageDesk$EventRow" "numbers" "[I", Cond.fieldLink RX7 242 "StageDesk$EventRow" "values" "[I", Cond.fieldLink RX7 190 "StageDesk$Worker" "giving" "Z", Cond.fieldLink RX7 196 "StageDesk$Worker" "gifts" "LStageDesk$Gifts;", Cond.methodLink RX7 237 yX5_append, Cond.instanceMethod yX5_append, Cond.selects RX5 yX5_append yX5_append, Cond.initialized RX5, Cond.code yX5_append cX5_append 2 none, Cond.fieldLink RX5 18 "StageDesk$Times" "size" "I", Cond.fieldLink RX5 9 "StageDesk$Times" "kept" "[I", Cond.methodLink RX5 22 arraycopyName, Cond.native arraycopyName, Cond.static arraycopyName, Cond.initialized "java/lang/System"]
def wsX7_finishBatch_r2 : List Cond := [Cond.methodLink RX7 243 yX0_append, Cond.instanceMethod yX0_append, Cond.selects RX0 yX0_append yX0_append, Cond.initialized RX0, Cond.code yX0_append cX0_append 3 none, Cond.fieldLink RX0 16 "StageDesk$DoneRow" "size" "I", Cond.fieldLink RX0 7 "StageDesk$DoneRow" "numbers" "[I", Cond.fieldLink RX0 13 "StageDesk$DoneRow" "values" "[I", Cond.methodLink RX0 20 yJ7_copyOf_59c91, Cond.static yJ7_copyOf_59c91, Cond.initialized RJ7, Cond.code yJ7_copyOf_59c91 cJ7_copyOf_59c91 3 (some (.array .int)), Cond.methodLink RJ7 316 ⟨"[I", "clone", "()Ljava/lang/Object;"⟩, Cond.sameMethod "[I" "java/lang/Object" "clone" "()Ljava/lang/Object;", Cond.native ⟨"java/lang/Object", "clone", "()Ljava/lang/Object;"⟩, Cond.instanceMethod ⟨"java/lang/Object", "clone", "()Ljava/lang/Object;"⟩, Cond.selects "[I" ⟨"[I", "clone", "()Ljava/lang/Object;"⟩ ⟨"java/lang/Object", "clone", "()Ljava/lang/Object;"⟩, Cond.classLink RJ7 317 "[I", Cond.arrayClass .int, Cond.methodLink RJ7 304 Lib.Math.min.name, Cond.static Lib.Math.min.name, Cond.initialized "java/lang/Math", Cond.code Lib.Math.min.name Lib.Math.min.code 2 (some .int), Cond.methodLink RJ7 150 arraycopyName]
def wsX7_finishBatch_r3 : List Cond := [Cond.methodLink RX7 245 yX2_clear, Cond.instanceMethod yX2_clear, Cond.selects RX2 yX2_clear yX2_clear, Cond.initialized RX2, Cond.code yX2_clear cX2_clear 1 none, Cond.fieldLink RX2 28 "StageDesk$Gifts" "size" "I", Cond.fieldLink RX2 31 "StageDesk$Gifts" "next" "I", Cond.fieldLink RX2 24 "StageDesk$Gifts" "number" "I"]
def wsX7_finishBatch : List Cond := .code yX7_finishBatch cX7_finishBatch 5 none :: ((wsX7_finishBatch_r1 ++ (wsX7_finishBatch_r2 ++ wsX7_finishBatch_r3)) ++ wsX60 ++ wsX30 ++ wsX10 ++ wsX70 ++ wsX50 ++ wsX00 ++ wsX20)
def wsX7_workOnBatch_r1 : List Cond := [Cond.fieldLink RX7 187 "StageDesk$Worker" "rest" "I", Cond.fieldLink RX7 190 "StageDesk$Worker" "giving" "Z", Cond.fieldLink RX7 196 "StageDesk$Worker" "gifts" "LStageDesk$Gifts;", Cond.methodLink RX7 193 yX3_collectGifts, Cond.instanceMethod yX3_collectGifts, Cond.selects RX3 yX3_collectGifts yX3_collectGifts, Cond.initialized RX3, Cond.code yX3_collectGifts cX3_collectGifts 3 none, Cond.fieldLink RX3 34 "StageDesk$Stage" "sort" "I", Cond.fieldLink RX3 86 "StageDesk$Worker" "batch" "LStageDesk$EventRow;", Cond.fieldLink RX3 59 "StageDesk$EventRow" "size" "I", Cond.fieldLink RX3 100 "StageDesk$EventRow" "values" "[I", Cond.fieldLink RX3 104 "StageDesk$EventRow" "births" "[I", Cond.fieldLink RX3 107 "StageDesk$Worker" "gifts" "LStageDesk$Gifts;", Cond.methodLink RX3 96 yX3_collectSum, Cond.instanceMethod yX3_collectSum, Cond.selects RX3 yX3_collectSum yX3_collectSum, Cond.code yX3_collectSum cX3_collectSum 4 none, Cond.fieldLink RX3 115 "StageDesk$Stage" "first" "LStageDesk$Stage;", Cond.methodLink RX3 119 yX2_append, Cond.instanceMethod yX2_append, Cond.selects RX2 yX2_append yX2_append, Cond.initialized RX2, Cond.code yX2_append cX2_append 4 none]
def wsX7_workOnBatch_r2 : List Cond := [Cond.fieldLink RX2 28 "StageDesk$Gifts" "size" "I", Cond.fieldLink RX2 11 "StageDesk$Gifts" "targets" "[LStageDesk$Stage;", Cond.fieldLink RX2 17 "StageDesk$Gifts" "values" "[I", Cond.fieldLink RX2 21 "StageDesk$Gifts" "births" "[I", Cond.methodLink RX3 111 yX3_collectFrom, Cond.instanceMethod yX3_collectFrom, Cond.selects RX3 yX3_collectFrom yX3_collectFrom, Cond.code yX3_collectFrom cX3_collectFrom 4 none, Cond.fieldLink RX3 124 "StageDesk$Stage" "second" "LStageDesk$Stage;", Cond.methodLink RX7 200 yX7_offerGifts, Cond.instanceMethod yX7_offerGifts, Cond.selects RX7 yX7_offerGifts yX7_offerGifts, Cond.initialized RX7, Cond.code yX7_offerGifts cX7_offerGifts 3 (some .boolean), Cond.fieldLink RX7 207 "StageDesk$Gifts" "next" "I", Cond.fieldLink RX7 212 "StageDesk$Gifts" "size" "I", Cond.fieldLink RX7 213 "StageDesk$Gifts" "number" "I", Cond.fieldLink RX7 216 "StageDesk$Gifts" "targets" "[LStageDesk$Stage;", Cond.fieldLink RX7 219 "StageDesk$Gifts" "values" "[I", Cond.fieldLink RX7 220 "StageDesk$Gifts" "births" "[I", Cond.methodLink RX7 77 yX7_makeEvent, Cond.instanceMethod yX7_makeEvent, Cond.selects RX7 yX7_makeEvent yX7_makeEvent, Cond.code yX7_makeEvent cX7_makeEvent 1 (some .int)]
def wsX7_workOnBatch_r3 : List Cond := [Cond.fieldLink RX7 97 "StageDesk" "made" "I", Cond.methodLink RX7 73 yX3_ask, Cond.instanceMethod yX3_ask, Cond.selects RX3 yX3_ask yX3_ask, Cond.code yX3_ask cX3_ask 2 (some .int), Cond.fieldLink RX3 65 "StageDesk$Stage" "closed" "Z", Cond.fieldLink RX3 25 "StageDesk$Stage" "tokens" "I", Cond.fieldLink RX3 73 "StageDesk$Stage" "refusals" "I", Cond.methodLink RX3 69 yX3_freePlaces, Cond.instanceMethod yX3_freePlaces, Cond.selects RX3 yX3_freePlaces yX3_freePlaces, Cond.code yX3_freePlaces cX3_freePlaces 1 (some .int), Cond.fieldLink RX3 37 "StageDesk$Stage" "bound" "I", Cond.fieldLink RX3 48 "StageDesk$Stage" "queue" "LStageDesk$EventRow;", Cond.fieldLink RX3 62 "StageDesk$Stage" "reserved" "I", Cond.methodLink RX7 83 yX3_take, Cond.instanceMethod yX3_take, Cond.selects RX3 yX3_take yX3_take, Cond.code yX3_take cX3_take 4 none, Cond.methodLink RX3 76 yX1_append, Cond.instanceMethod yX1_append, Cond.selects RX1 yX1_append yX1_append, Cond.initialized RX1, Cond.code yX1_append cX1_append 4 none]
def wsX7_workOnBatch_r4 : List Cond := [Cond.fieldLink RX1 19 "StageDesk$EventRow" "size" "I", Cond.fieldLink RX1 7 "StageDesk$EventRow" "numbers" "[I", Cond.fieldLink RX1 13 "StageDesk$EventRow" "values" "[I", Cond.fieldLink RX1 16 "StageDesk$EventRow" "births" "[I", Cond.methodLink RX7 204 yX7_finishBatch, Cond.instanceMethod yX7_finishBatch, Cond.selects RX7 yX7_finishBatch yX7_finishBatch, Cond.code yX7_finishBatch cX7_finishBatch 5 none, Cond.fieldLink RX7 174 "StageDesk$Worker" "batch" "LStageDesk$EventRow;", Cond.fieldLink RX7 223 "StageDesk$Stage" "batchesHandled" "I", Cond.fieldLink RX7 226 "StageDesk$Stage" "eventsHandled" "I", Cond.fieldLink RX7 122 "StageDesk$EventRow" "size" "I", Cond.fieldLink RX7 229 "StageDesk$Stage" "sort" "I", Cond.fieldLink RX7 232 "StageDesk$Stage" "times" "LStageDesk$Times;", Cond.fieldLink RX7 80 "StageDesk" "now" "I", Cond.fieldLink RX7 236 "StageDesk$EventRow" "births" "[I", Cond.fieldLink RX7 25 "StageDesk" "doneRow" "LStageDesk$DoneRow;", Cond.fieldLink RX7 125 "StageDesk$EventRow" "numbers" "[I", Cond.fieldLink RX7 242 "StageDesk$EventRow" "values" "[I", Cond.methodLink RX7 237 yX5_append, Cond.instanceMethod yX5_append, Cond.selects RX5 yX5_append yX5_append, Cond.initialized RX5, Cond.code yX5_append cX5_append 2 none]
def wsX7_workOnBatch_r5 : List Cond := [Cond.fieldLink RX5 18 "StageDesk$Times" "size" "I", Cond.fieldLink RX5 9 "StageDesk$Times" "kept" "[I", Cond.methodLink RX5 22 arraycopyName, Cond.native arraycopyName, Cond.static arraycopyName, Cond.initialized "java/lang/System", Cond.methodLink RX7 243 yX0_append, Cond.instanceMethod yX0_append, Cond.selects RX0 yX0_append yX0_append, Cond.initialized RX0, Cond.code yX0_append cX0_append 3 none, Cond.fieldLink RX0 16 "StageDesk$DoneRow" "size" "I", Cond.fieldLink RX0 7 "StageDesk$DoneRow" "numbers" "[I", Cond.fieldLink RX0 13 "StageDesk$DoneRow" "values" "[I", Cond.methodLink RX0 20 yJ7_copyOf_59c91, Cond.static yJ7_copyOf_59c91, Cond.initialized RJ7, Cond.code yJ7_copyOf_59c91 cJ7_copyOf_59c91 3 (some (.array .int)), Cond.methodLink RJ7 316 ⟨"[I", "clone", "()Ljava/lang/Object;"⟩, Cond.sameMethod "[I" "java/lang/Object" "clone" "()Ljava/lang/Object;", Cond.native ⟨"java/lang/Object", "clone", "()Ljava/lang/Object;"⟩, Cond.instanceMethod ⟨"java/lang/Object", "clone", "()Ljava/lang/Object;"⟩, Cond.selects "[I" ⟨"[I", "clone", "()Ljava/lang/Object;"⟩ ⟨"java/lang/Object", "clone", "()Ljava/lang/Object;"⟩, Cond.classLink RJ7 317 "[I"]
def wsX7_workOnBatch_r6 : List Cond := [Cond.arrayClass .int, Cond.methodLink RJ7 304 Lib.Math.min.name, Cond.static Lib.Math.min.name, Cond.initialized "java/lang/Math", Cond.code Lib.Math.min.name Lib.Math.min.code 2 (some .int), Cond.methodLink RJ7 150 arraycopyName, Cond.methodLink RX7 245 yX2_clear, Cond.instanceMethod yX2_clear, Cond.selects RX2 yX2_clear yX2_clear, Cond.code yX2_clear cX2_clear 1 none, Cond.fieldLink RX2 31 "StageDesk$Gifts" "next" "I", Cond.fieldLink RX2 24 "StageDesk$Gifts" "number" "I"]
def wsX7_workOnBatch : List Cond := .code yX7_workOnBatch cX7_workOnBatch 3 none :: ((wsX7_workOnBatch_r1 ++ (wsX7_workOnBatch_r2 ++ (wsX7_workOnBatch_r3 ++ (wsX7_workOnBatch_r4 ++ (wsX7_workOnBatch_r5 ++ wsX7_workOnBatch_r6))))) ++ wsX60 ++ wsX30 ++ wsX10 ++ wsX20 ++ wsX70 ++ wsX50 ++ wsX00)
def wsX7_letWork_r1 : List Cond := [Cond.fieldLink RX7 174 "StageDesk$Worker" "batch" "LStageDesk$EventRow;", Cond.fieldLink RX7 122 "StageDesk$EventRow" "size" "I", Cond.fieldLink RX7 184 "StageDesk$Worker" "idleTicks" "I", Cond.methodLink RX7 177 yX7_workOnBatch, Cond.instanceMethod yX7_workOnBatch, Cond.selects RX7 yX7_workOnBatch yX7_workOnBatch, Cond.initialized RX7, Cond.code yX7_workOnBatch cX7_workOnBatch 3 none, Cond.fieldLink RX7 187 "StageDesk$Worker" "rest" "I", Cond.fieldLink RX7 190 "StageDesk$Worker" "giving" "Z", Cond.fieldLink RX7 196 "StageDesk$Worker" "gifts" "LStageDesk$Gifts;", Cond.methodLink RX7 193 yX3_collectGifts, Cond.instanceMethod yX3_collectGifts, Cond.selects RX3 yX3_collectGifts yX3_collectGifts, Cond.initialized RX3, Cond.code yX3_collectGifts cX3_collectGifts 3 none, Cond.fieldLink RX3 34 "StageDesk$Stage" "sort" "I", Cond.fieldLink RX3 86 "StageDesk$Worker" "batch" "LStageDesk$EventRow;", Cond.fieldLink RX3 59 "StageDesk$EventRow" "size" "I", Cond.fieldLink RX3 100 "StageDesk$EventRow" "values" "[I", Cond.fieldLink RX3 104 "StageDesk$EventRow" "births" "[I", Cond.fieldLink RX3 107 "StageDesk$Worker" "gifts" "LStageDesk$Gifts;", Cond.methodLink RX3 96 yX3_collectSum, Cond.instanceMethod yX3_collectSum]
def wsX7_letWork_r2 : List Cond := [Cond.selects RX3 yX3_collectSum yX3_collectSum, Cond.code yX3_collectSum cX3_collectSum 4 none, Cond.fieldLink RX3 115 "StageDesk$Stage" "first" "LStageDesk$Stage;", Cond.methodLink RX3 119 yX2_append, Cond.instanceMethod yX2_append, Cond.selects RX2 yX2_append yX2_append, Cond.initialized RX2, Cond.code yX2_append cX2_append 4 none, Cond.fieldLink RX2 28 "StageDesk$Gifts" "size" "I", Cond.fieldLink RX2 11 "StageDesk$Gifts" "targets" "[LStageDesk$Stage;", Cond.fieldLink RX2 17 "StageDesk$Gifts" "values" "[I", Cond.fieldLink RX2 21 "StageDesk$Gifts" "births" "[I", Cond.methodLink RX3 111 yX3_collectFrom, Cond.instanceMethod yX3_collectFrom, Cond.selects RX3 yX3_collectFrom yX3_collectFrom, Cond.code yX3_collectFrom cX3_collectFrom 4 none, Cond.fieldLink RX3 124 "StageDesk$Stage" "second" "LStageDesk$Stage;", Cond.methodLink RX7 200 yX7_offerGifts, Cond.instanceMethod yX7_offerGifts, Cond.selects RX7 yX7_offerGifts yX7_offerGifts, Cond.code yX7_offerGifts cX7_offerGifts 3 (some .boolean), Cond.fieldLink RX7 207 "StageDesk$Gifts" "next" "I", Cond.fieldLink RX7 212 "StageDesk$Gifts" "size" "I", Cond.fieldLink RX7 213 "StageDesk$Gifts" "number" "I"]
def wsX7_letWork_r3 : List Cond := [Cond.fieldLink RX7 216 "StageDesk$Gifts" "targets" "[LStageDesk$Stage;", Cond.fieldLink RX7 219 "StageDesk$Gifts" "values" "[I", Cond.fieldLink RX7 220 "StageDesk$Gifts" "births" "[I", Cond.methodLink RX7 77 yX7_makeEvent, Cond.instanceMethod yX7_makeEvent, Cond.selects RX7 yX7_makeEvent yX7_makeEvent, Cond.code yX7_makeEvent cX7_makeEvent 1 (some .int), Cond.fieldLink RX7 97 "StageDesk" "made" "I", Cond.methodLink RX7 73 yX3_ask, Cond.instanceMethod yX3_ask, Cond.selects RX3 yX3_ask yX3_ask, Cond.code yX3_ask cX3_ask 2 (some .int), Cond.fieldLink RX3 65 "StageDesk$Stage" "closed" "Z", Cond.fieldLink RX3 25 "StageDesk$Stage" "tokens" "I", Cond.fieldLink RX3 73 "StageDesk$Stage" "refusals" "I", Cond.methodLink RX3 69 yX3_freePlaces, Cond.instanceMethod yX3_freePlaces, Cond.selects RX3 yX3_freePlaces yX3_freePlaces, Cond.code yX3_freePlaces cX3_freePlaces 1 (some .int), Cond.fieldLink RX3 37 "StageDesk$Stage" "bound" "I", Cond.fieldLink RX3 48 "StageDesk$Stage" "queue" "LStageDesk$EventRow;", Cond.fieldLink RX3 62 "StageDesk$Stage" "reserved" "I", Cond.methodLink RX7 83 yX3_take, Cond.instanceMethod yX3_take]
def wsX7_letWork_r4 : List Cond := [Cond.selects RX3 yX3_take yX3_take, Cond.code yX3_take cX3_take 4 none, Cond.methodLink RX3 76 yX1_append, Cond.instanceMethod yX1_append, Cond.selects RX1 yX1_append yX1_append, Cond.initialized RX1, Cond.code yX1_append cX1_append 4 none, Cond.fieldLink RX1 19 "StageDesk$EventRow" "size" "I", Cond.fieldLink RX1 7 "StageDesk$EventRow" "numbers" "[I", Cond.fieldLink RX1 13 "StageDesk$EventRow" "values" "[I", Cond.fieldLink RX1 16 "StageDesk$EventRow" "births" "[I", Cond.methodLink RX7 204 yX7_finishBatch, Cond.instanceMethod yX7_finishBatch, Cond.selects RX7 yX7_finishBatch yX7_finishBatch, Cond.code yX7_finishBatch cX7_finishBatch 5 none, Cond.fieldLink RX7 223 "StageDesk$Stage" "batchesHandled" "I", Cond.fieldLink RX7 226 "StageDesk$Stage" "eventsHandled" "I", Cond.fieldLink RX7 229 "StageDesk$Stage" "sort" "I", Cond.fieldLink RX7 232 "StageDesk$Stage" "times" "LStageDesk$Times;", Cond.fieldLink RX7 80 "StageDesk" "now" "I", Cond.fieldLink RX7 236 "StageDesk$EventRow" "births" "[I", Cond.fieldLink RX7 25 "StageDesk" "doneRow" "LStageDesk$DoneRow;", Cond.fieldLink RX7 125 "StageDesk$EventRow" "numbers" "[I", Cond.fieldLink RX7 242 "StageDesk$EventRow" "values" "[I"]
def wsX7_letWork_r5 : List Cond := [Cond.methodLink RX7 237 yX5_append, Cond.instanceMethod yX5_append, Cond.selects RX5 yX5_append yX5_append, Cond.initialized RX5, Cond.code yX5_append cX5_append 2 none, Cond.fieldLink RX5 18 "StageDesk$Times" "size" "I", Cond.fieldLink RX5 9 "StageDesk$Times" "kept" "[I", Cond.methodLink RX5 22 arraycopyName, Cond.native arraycopyName, Cond.static arraycopyName, Cond.initialized "java/lang/System", Cond.methodLink RX7 243 yX0_append, Cond.instanceMethod yX0_append, Cond.selects RX0 yX0_append yX0_append, Cond.initialized RX0, Cond.code yX0_append cX0_append 3 none, Cond.fieldLink RX0 16 "StageDesk$DoneRow" "size" "I", Cond.fieldLink RX0 7 "StageDesk$DoneRow" "numbers" "[I", Cond.fieldLink RX0 13 "StageDesk$DoneRow" "values" "[I", Cond.methodLink RX0 20 yJ7_copyOf_59c91, Cond.static yJ7_copyOf_59c91, Cond.initialized RJ7, Cond.code yJ7_copyOf_59c91 cJ7_copyOf_59c91 3 (some (.array .int)), Cond.methodLink RJ7 316 ⟨"[I", "clone", "()Ljava/lang/Object;"⟩]
def wsX7_letWork_r6 : List Cond := [Cond.sameMethod "[I" "java/lang/Object" "clone" "()Ljava/lang/Object;", Cond.native ⟨"java/lang/Object", "clone", "()Ljava/lang/Object;"⟩, Cond.instanceMethod ⟨"java/lang/Object", "clone", "()Ljava/lang/Object;"⟩, Cond.selects "[I" ⟨"[I", "clone", "()Ljava/lang/Object;"⟩ ⟨"java/lang/Object", "clone", "()Ljava/lang/Object;"⟩, Cond.classLink RJ7 317 "[I", Cond.arrayClass .int, Cond.methodLink RJ7 304 Lib.Math.min.name, Cond.static Lib.Math.min.name, Cond.initialized "java/lang/Math", Cond.code Lib.Math.min.name Lib.Math.min.code 2 (some .int), Cond.methodLink RJ7 150 arraycopyName, Cond.methodLink RX7 245 yX2_clear, Cond.instanceMethod yX2_clear, Cond.selects RX2 yX2_clear yX2_clear, Cond.code yX2_clear cX2_clear 1 none, Cond.fieldLink RX2 31 "StageDesk$Gifts" "next" "I", Cond.fieldLink RX2 24 "StageDesk$Gifts" "number" "I", Cond.methodLink RX7 180 yX3_startBatch, Cond.instanceMethod yX3_startBatch, Cond.selects RX3 yX3_startBatch yX3_startBatch, Cond.code yX3_startBatch cX3_startBatch 2 none, Cond.fieldLink RX3 31 "StageDesk$Stage" "batchSize" "I", Cond.fieldLink RX3 40 "StageDesk$Stage" "cost" "I", Cond.fieldLink RX3 93 "StageDesk$Worker" "rest" "I"]
def wsX7_letWork_r7 : List Cond := [Cond.methodLink RX3 89 yX1_becomeFirstOf, Cond.instanceMethod yX1_becomeFirstOf, Cond.selects RX1 yX1_becomeFirstOf yX1_becomeFirstOf, Cond.code yX1_becomeFirstOf cX1_becomeFirstOf 4 none, Cond.methodLink RX1 23 Lib.Math.min.name, Cond.methodLink RX1 29 arraycopyName, Cond.methodLink RX1 35 yX1_dropFirst, Cond.instanceMethod yX1_dropFirst, Cond.selects RX1 yX1_dropFirst yX1_dropFirst, Cond.code yX1_dropFirst cX1_dropFirst 3 none]
def wsX7_letWork : List Cond := .code yX7_letWork cX7_letWork 3 none :: ((wsX7_letWork_r1 ++ (wsX7_letWork_r2 ++ (wsX7_letWork_r3 ++ (wsX7_letWork_r4 ++ (wsX7_letWork_r5 ++ (wsX7_letWork_r6 ++ wsX7_letWork_r7)))))) ++ wsX60 ++ wsX10 ++ wsX30 ++ wsX20 ++ wsX70 ++ wsX50 ++ wsX00)
def wsX7_passTick_r1 : List Cond := [Cond.fieldLink RX7 80 "StageDesk" "now" "I", Cond.fieldLink RX7 33 "StageDesk" "stageCount" "I", Cond.fieldLink RX7 11 "StageDesk" "stages" "[LStageDesk$Stage;", Cond.fieldLink RX7 129 "StageDesk$Stage" "workerCount" "I", Cond.fieldLink RX7 132 "StageDesk$Stage" "workers" "[LStageDesk$Worker;", Cond.methodLink RX7 147 yX3_growTokens, Cond.instanceMethod yX3_growTokens, Cond.selects RX3 yX3_growTokens yX3_growTokens, Cond.initialized RX3, Cond.code yX3_growTokens cX3_growTokens 1 none, Cond.fieldLink RX3 25 "StageDesk$Stage" "tokens" "I", Cond.fieldLink RX3 18 "StageDesk$Stage" "rate" "I", Cond.fieldLink RX3 22 "StageDesk$Stage" "depth" "I", Cond.methodLink RX3 80 Lib.Math.min.name, Cond.static Lib.Math.min.name, Cond.initialized "java/lang/Math", Cond.code Lib.Math.min.name Lib.Math.min.code 2 (some .int), Cond.methodLink RX7 150 yX7_fireTimers, Cond.instanceMethod yX7_fireTimers, Cond.selects RX7 yX7_fireTimers yX7_fireTimers, Cond.initialized RX7, Cond.code yX7_fireTimers cX7_fireTimers 3 none, Cond.fieldLink RX7 18 "StageDesk" "timers" "LStageDesk$Timers;", Cond.fieldLink RX7 160 "StageDesk$Timers" "size" "I"]
def wsX7_passTick_r2 : List Cond := [Cond.fieldLink RX7 161 "StageDesk$Timers" "dues" "[I", Cond.fieldLink RX7 164 "StageDesk$Timers" "stages" "[LStageDesk$Stage;", Cond.fieldLink RX7 165 "StageDesk$Timers" "values" "[I", Cond.methodLink RX7 166 yX7_fire, Cond.instanceMethod yX7_fire, Cond.selects RX7 yX7_fire yX7_fire, Cond.code yX7_fire cX7_fire 4 none, Cond.fieldLink RX7 144 "StageDesk" "lostCount" "I", Cond.methodLink RX7 77 yX7_makeEvent, Cond.instanceMethod yX7_makeEvent, Cond.selects RX7 yX7_makeEvent yX7_makeEvent, Cond.code yX7_makeEvent cX7_makeEvent 1 (some .int), Cond.fieldLink RX7 97 "StageDesk" "made" "I", Cond.methodLink RX7 73 yX3_ask, Cond.instanceMethod yX3_ask, Cond.selects RX3 yX3_ask yX3_ask, Cond.code yX3_ask cX3_ask 2 (some .int), Cond.fieldLink RX3 65 "StageDesk$Stage" "closed" "Z", Cond.fieldLink RX3 73 "StageDesk$Stage" "refusals" "I", Cond.methodLink RX3 69 yX3_freePlaces, Cond.instanceMethod yX3_freePlaces, Cond.selects RX3 yX3_freePlaces yX3_freePlaces, Cond.code yX3_freePlaces cX3_freePlaces 1 (some .int), Cond.fieldLink RX3 37 "StageDesk$Stage" "bound" "I"]
def wsX7_passTick_r3 : List Cond := [Cond.fieldLink RX3 48 "StageDesk$Stage" "queue" "LStageDesk$EventRow;", Cond.fieldLink RX3 59 "StageDesk$EventRow" "size" "I", Cond.fieldLink RX3 62 "StageDesk$Stage" "reserved" "I", Cond.methodLink RX7 83 yX3_take, Cond.instanceMethod yX3_take, Cond.selects RX3 yX3_take yX3_take, Cond.code yX3_take cX3_take 4 none, Cond.methodLink RX3 76 yX1_append, Cond.instanceMethod yX1_append, Cond.selects RX1 yX1_append yX1_append, Cond.initialized RX1, Cond.code yX1_append cX1_append 4 none, Cond.fieldLink RX1 19 "StageDesk$EventRow" "size" "I", Cond.fieldLink RX1 7 "StageDesk$EventRow" "numbers" "[I", Cond.fieldLink RX1 13 "StageDesk$EventRow" "values" "[I", Cond.fieldLink RX1 16 "StageDesk$EventRow" "births" "[I", Cond.methodLink RX7 170 yX4_move, Cond.instanceMethod yX4_move, Cond.selects RX4 yX4_move yX4_move, Cond.initialized RX4, Cond.code yX4_move cX4_move 3 none, Cond.fieldLink RX4 9 "StageDesk$Timers" "numbers" "[I", Cond.fieldLink RX4 17 "StageDesk$Timers" "stages" "[LStageDesk$Stage;", Cond.fieldLink RX4 21 "StageDesk$Timers" "values" "[I"]
def wsX7_passTick_r4 : List Cond := [Cond.fieldLink RX4 24 "StageDesk$Timers" "dues" "[I", Cond.methodLink RX7 153 yX7_letWork, Cond.instanceMethod yX7_letWork, Cond.selects RX7 yX7_letWork yX7_letWork, Cond.code yX7_letWork cX7_letWork 3 none, Cond.fieldLink RX7 174 "StageDesk$Worker" "batch" "LStageDesk$EventRow;", Cond.fieldLink RX7 122 "StageDesk$EventRow" "size" "I", Cond.fieldLink RX7 184 "StageDesk$Worker" "idleTicks" "I", Cond.methodLink RX7 177 yX7_workOnBatch, Cond.instanceMethod yX7_workOnBatch, Cond.selects RX7 yX7_workOnBatch yX7_workOnBatch, Cond.code yX7_workOnBatch cX7_workOnBatch 3 none, Cond.fieldLink RX7 187 "StageDesk$Worker" "rest" "I", Cond.fieldLink RX7 190 "StageDesk$Worker" "giving" "Z", Cond.fieldLink RX7 196 "StageDesk$Worker" "gifts" "LStageDesk$Gifts;", Cond.methodLink RX7 193 yX3_collectGifts, Cond.instanceMethod yX3_collectGifts, Cond.selects RX3 yX3_collectGifts yX3_collectGifts, Cond.code yX3_collectGifts cX3_collectGifts 3 none, Cond.fieldLink RX3 34 "StageDesk$Stage" "sort" "I", Cond.fieldLink RX3 86 "StageDesk$Worker" "batch" "LStageDesk$EventRow;", Cond.fieldLink RX3 100 "StageDesk$EventRow" "values" "[I", Cond.fieldLink RX3 104 "StageDesk$EventRow" "births" "[I", Cond.fieldLink RX3 107 "StageDesk$Worker" "gifts" "LStageDesk$Gifts;"]
def wsX7_passTick_r5 : List Cond := [Cond.methodLink RX3 96 yX3_collectSum, Cond.instanceMethod yX3_collectSum, Cond.selects RX3 yX3_collectSum yX3_collectSum, Cond.code yX3_collectSum cX3_collectSum 4 none, Cond.fieldLink RX3 115 "StageDesk$Stage" "first" "LStageDesk$Stage;", Cond.methodLink RX3 119 yX2_append, Cond.instanceMethod yX2_append, Cond.selects RX2 yX2_append yX2_append, Cond.initialized RX2, Cond.code yX2_append cX2_append 4 none, Cond.fieldLink RX2 28 "StageDesk$Gifts" "size" "I", Cond.fieldLink RX2 11 "StageDesk$Gifts" "targets" "[LStageDesk$Stage;", Cond.fieldLink RX2 17 "StageDesk$Gifts" "values" "[I", Cond.fieldLink RX2 21 "StageDesk$Gifts" "births" "[I", Cond.methodLink RX3 111 yX3_collectFrom, Cond.instanceMethod yX3_collectFrom, Cond.selects RX3 yX3_collectFrom yX3_collectFrom, Cond.code yX3_collectFrom cX3_collectFrom 4 none, Cond.fieldLink RX3 124 "StageDesk$Stage" "second" "LStageDesk$Stage;", Cond.methodLink RX7 200 yX7_offerGifts, Cond.instanceMethod yX7_offerGifts, Cond.selects RX7 yX7_offerGifts yX7_offerGifts, Cond.code yX7_offerGifts cX7_offerGifts 3 (some .boolean), Cond.fieldLink RX7 207 "StageDesk$Gifts" "next" "I"]
def wsX7_passTick_r6 : List Cond := [Cond.fieldLink RX7 212 "StageDesk$Gifts" "size" "I", Cond.fieldLink RX7 213 "StageDesk$Gifts" "number" "I", Cond.fieldLink RX7 216 "StageDesk$Gifts" "targets" "[LStageDesk$Stage;", Cond.fieldLink RX7 219 "StageDesk$Gifts" "values" "[I", Cond.fieldLink RX7 220 "StageDesk$Gifts" "births" "[I", Cond.methodLink RX7 204 yX7_finishBatch, Cond.instanceMethod yX7_finishBatch, Cond.selects RX7 yX7_finishBatch yX7_finishBatch, Cond.code yX7_finishBatch cX7_finishBatch 5 none, Cond.fieldLink RX7 223 "StageDesk$Stage" "batchesHandled" "I", Cond.fieldLink RX7 226 "StageDesk$Stage" "eventsHandled" "I", Cond.fieldLink RX7 229 "StageDesk$Stage" "sort" "I", Cond.fieldLink RX7 232 "StageDesk$Stage" "times" "LStageDesk$Times;", Cond.fieldLink RX7 236 "StageDesk$EventRow" "births" "[I", Cond.fieldLink RX7 25 "StageDesk" "doneRow" "LStageDesk$DoneRow;", Cond.fieldLink RX7 125 "StageDesk$EventRow" "numbers" "[I", Cond.fieldLink RX7 242 "StageDesk$EventRow" "values" "[I", Cond.methodLink RX7 237 yX5_append, Cond.instanceMethod yX5_append, Cond.selects RX5 yX5_append yX5_append, Cond.initialized RX5, Cond.code yX5_append cX5_append 2 none, Cond.fieldLink RX5 18 "StageDesk$Times" "size" "I", Cond.fieldLink RX5 9 "StageDesk$Times" "kept" "[I"]
def wsX7_passTick_r7 : List Cond := [Cond.methodLink RX5 22 arraycopyName, Cond.native arraycopyName, Cond.static arraycopyName, Cond.initialized "java/lang/System", Cond.methodLink RX7 243 yX0_append, Cond.instanceMethod yX0_append, Cond.selects RX0 yX0_append yX0_append, Cond.initialized RX0, Cond.code yX0_append cX0_append 3 none, Cond.fieldLink RX0 16 "StageDesk$DoneRow" "size" "I", Cond.fieldLink RX0 7 "StageDesk$DoneRow" "numbers" "[I", Cond.fieldLink RX0 13 "StageDesk$DoneRow" "values" "[I", Cond.methodLink RX0 20 yJ7_copyOf_59c91, Cond.static yJ7_copyOf_59c91, Cond.initialized RJ7, Cond.code yJ7_copyOf_59c91 cJ7_copyOf_59c91 3 (some (.array .int)), Cond.methodLink RJ7 316 ⟨"[I", "clone", "()Ljava/lang/Object;"⟩, Cond.sameMethod "[I" "java/lang/Object" "clone" "()Ljava/lang/Object;", Cond.native ⟨"java/lang/Object", "clone", "()Ljava/lang/Object;"⟩, Cond.instanceMethod ⟨"java/lang/Object", "clone", "()Ljava/lang/Object;"⟩, Cond.selects "[I" ⟨"[I", "clone", "()Ljava/lang/Object;"⟩ ⟨"java/lang/Object", "clone", "()Ljava/lang/Object;"⟩, Cond.classLink RJ7 317 "[I", Cond.arrayClass .int, Cond.methodLink RJ7 304 Lib.Math.min.name]
def wsX7_passTick_r8 : List Cond := [Cond.methodLink RJ7 150 arraycopyName, Cond.methodLink RX7 245 yX2_clear, Cond.instanceMethod yX2_clear, Cond.selects RX2 yX2_clear yX2_clear, Cond.code yX2_clear cX2_clear 1 none, Cond.fieldLink RX2 31 "StageDesk$Gifts" "next" "I", Cond.fieldLink RX2 24 "StageDesk$Gifts" "number" "I", Cond.methodLink RX7 180 yX3_startBatch, Cond.instanceMethod yX3_startBatch, Cond.selects RX3 yX3_startBatch yX3_startBatch, Cond.code yX3_startBatch cX3_startBatch 2 none, Cond.fieldLink RX3 31 "StageDesk$Stage" "batchSize" "I", Cond.fieldLink RX3 40 "StageDesk$Stage" "cost" "I", Cond.fieldLink RX3 93 "StageDesk$Worker" "rest" "I", Cond.methodLink RX3 89 yX1_becomeFirstOf, Cond.instanceMethod yX1_becomeFirstOf, Cond.selects RX1 yX1_becomeFirstOf yX1_becomeFirstOf, Cond.code yX1_becomeFirstOf cX1_becomeFirstOf 4 none, Cond.methodLink RX1 23 Lib.Math.min.name, Cond.methodLink RX1 29 arraycopyName, Cond.methodLink RX1 35 yX1_dropFirst, Cond.instanceMethod yX1_dropFirst, Cond.selects RX1 yX1_dropFirst yX1_dropFirst, Cond.code yX1_dropFirst cX1_dropFirst 3 none]
def wsX7_passTick_r9 : List Cond := [Cond.methodLink RX7 157 yX3_control, Cond.instanceMethod yX3_control, Cond.selects RX3 yX3_control yX3_control, Cond.code yX3_control cX3_control 1 none, Cond.fieldLink RX3 133 "StageDesk$Stage" "goal" "I", Cond.fieldLink RX3 12 "StageDesk$Stage" "times" "LStageDesk$Times;", Cond.fieldLink RX3 136 "StageDesk$Times" "size" "I", Cond.methodLink RX3 127 yX3_controlWorkers, Cond.instanceMethod yX3_controlWorkers, Cond.selects RX3 yX3_controlWorkers yX3_controlWorkers, Cond.code yX3_controlWorkers cX3_controlWorkers 1 none, Cond.fieldLink RX3 28 "StageDesk$Stage" "workerCount" "I", Cond.fieldLink RX3 54 "StageDesk$Stage" "workers" "[LStageDesk$Worker;", Cond.fieldLink RX3 140 "StageDesk$Worker" "idleTicks" "I", Cond.methodLink RX3 143 yX3_isLongIdle, Cond.instanceMethod yX3_isLongIdle, Cond.selects RX3 yX3_isLongIdle yX3_isLongIdle, Cond.code yX3_isLongIdle cX3_isLongIdle 2 (some .boolean), Cond.methodLink RX3 130 yX3_controlBatch, Cond.instanceMethod yX3_controlBatch, Cond.selects RX3 yX3_controlBatch yX3_controlBatch, Cond.code yX3_controlBatch cX3_controlBatch 1 none, Cond.methodLink RX3 147 Lib.Math.max.name, Cond.static Lib.Math.max.name]
def wsX7_passTick_r10 : List Cond := [Cond.code Lib.Math.max.name Lib.Math.max.code 2 (some .int), Cond.methodLink RX3 137 yX3_controlRate, Cond.instanceMethod yX3_controlRate, Cond.selects RX3 yX3_controlRate yX3_controlRate, Cond.code yX3_controlRate cX3_controlRate 1 none, Cond.methodLink RX3 150 yX5_response, Cond.instanceMethod yX5_response, Cond.selects RX5 yX5_response yX5_response, Cond.code yX5_response cX5_response 3 (some .int), Cond.fieldLink RX5 15 "StageDesk$Times" "sorted" "[I"]
def wsX7_passTick : List Cond := .code yX7_passTick cX7_passTick 4 none :: ((wsX7_passTick_r1 ++ (wsX7_passTick_r2 ++ (wsX7_passTick_r3 ++ (wsX7_passTick_r4 ++ (wsX7_passTick_r5 ++ (wsX7_passTick_r6 ++ (wsX7_passTick_r7 ++ (wsX7_passTick_r8 ++ (wsX7_passTick_r9 ++ wsX7_passTick_r10))))))))) ++ wsX70 ++ wsX30 ++ wsX40 ++ wsX10 ++ wsX60 ++ wsX20 ++ wsX50 ++ wsX00)
def wsX7_tick_r1 : List Cond := [Cond.fieldLink RX7 80 "StageDesk" "now" "I", Cond.methodLink RX7 29 yX7_within, Cond.static yX7_within, Cond.initialized RX7, Cond.code yX7_within cX7_within 3 (some .boolean), Cond.methodLink RX7 115 yX7_passTick, Cond.instanceMethod yX7_passTick, Cond.selects RX7 yX7_passTick yX7_passTick, Cond.code yX7_passTick cX7_passTick 4 none, Cond.fieldLink RX7 33 "StageDesk" "stageCount" "I", Cond.fieldLink RX7 11 "StageDesk" "stages" "[LStageDesk$Stage;", Cond.fieldLink RX7 129 "StageDesk$Stage" "workerCount" "I", Cond.fieldLink RX7 132 "StageDesk$Stage" "workers" "[LStageDesk$Worker;", Cond.methodLink RX7 147 yX3_growTokens, Cond.instanceMethod yX3_growTokens, Cond.selects RX3 yX3_growTokens yX3_growTokens, Cond.initialized RX3, Cond.code yX3_growTokens cX3_growTokens 1 none, Cond.fieldLink RX3 25 "StageDesk$Stage" "tokens" "I", Cond.fieldLink RX3 18 "StageDesk$Stage" "rate" "I", Cond.fieldLink RX3 22 "StageDesk$Stage" "depth" "I", Cond.methodLink RX3 80 Lib.Math.min.name, Cond.static Lib.Math.min.name, Cond.initialized "java/lang/Math"]
def wsX7_tick_r2 : List Cond := [Cond.code Lib.Math.min.name Lib.Math.min.code 2 (some .int), Cond.methodLink RX7 150 yX7_fireTimers, Cond.instanceMethod yX7_fireTimers, Cond.selects RX7 yX7_fireTimers yX7_fireTimers, Cond.code yX7_fireTimers cX7_fireTimers 3 none, Cond.fieldLink RX7 18 "StageDesk" "timers" "LStageDesk$Timers;", Cond.fieldLink RX7 160 "StageDesk$Timers" "size" "I", Cond.fieldLink RX7 161 "StageDesk$Timers" "dues" "[I", Cond.fieldLink RX7 164 "StageDesk$Timers" "stages" "[LStageDesk$Stage;", Cond.fieldLink RX7 165 "StageDesk$Timers" "values" "[I", Cond.methodLink RX7 166 yX7_fire, Cond.instanceMethod yX7_fire, Cond.selects RX7 yX7_fire yX7_fire, Cond.code yX7_fire cX7_fire 4 none, Cond.fieldLink RX7 144 "StageDesk" "lostCount" "I", Cond.methodLink RX7 77 yX7_makeEvent, Cond.instanceMethod yX7_makeEvent, Cond.selects RX7 yX7_makeEvent yX7_makeEvent, Cond.code yX7_makeEvent cX7_makeEvent 1 (some .int), Cond.fieldLink RX7 97 "StageDesk" "made" "I", Cond.methodLink RX7 73 yX3_ask, Cond.instanceMethod yX3_ask, Cond.selects RX3 yX3_ask yX3_ask, Cond.code yX3_ask cX3_ask 2 (some .int)]
def wsX7_tick_r3 : List Cond := [Cond.fieldLink RX3 65 "StageDesk$Stage" "closed" "Z", Cond.fieldLink RX3 73 "StageDesk$Stage" "refusals" "I", Cond.methodLink RX3 69 yX3_freePlaces, Cond.instanceMethod yX3_freePlaces, Cond.selects RX3 yX3_freePlaces yX3_freePlaces, Cond.code yX3_freePlaces cX3_freePlaces 1 (some .int), Cond.fieldLink RX3 37 "StageDesk$Stage" "bound" "I", Cond.fieldLink RX3 48 "StageDesk$Stage" "queue" "LStageDesk$EventRow;", Cond.fieldLink RX3 59 "StageDesk$EventRow" "size" "I", Cond.fieldLink RX3 62 "StageDesk$Stage" "reserved" "I", Cond.methodLink RX7 83 yX3_take, Cond.instanceMethod yX3_take, Cond.selects RX3 yX3_take yX3_take, Cond.code yX3_take cX3_take 4 none, Cond.methodLink RX3 76 yX1_append, Cond.instanceMethod yX1_append, Cond.selects RX1 yX1_append yX1_append, Cond.initialized RX1, Cond.code yX1_append cX1_append 4 none, Cond.fieldLink RX1 19 "StageDesk$EventRow" "size" "I", Cond.fieldLink RX1 7 "StageDesk$EventRow" "numbers" "[I", Cond.fieldLink RX1 13 "StageDesk$EventRow" "values" "[I", Cond.fieldLink RX1 16 "StageDesk$EventRow" "births" "[I", Cond.methodLink RX7 170 yX4_move]
def wsX7_tick_r4 : List Cond := [Cond.instanceMethod yX4_move, Cond.selects RX4 yX4_move yX4_move, Cond.initialized RX4, Cond.code yX4_move cX4_move 3 none, Cond.fieldLink RX4 9 "StageDesk$Timers" "numbers" "[I", Cond.fieldLink RX4 17 "StageDesk$Timers" "stages" "[LStageDesk$Stage;", Cond.fieldLink RX4 21 "StageDesk$Timers" "values" "[I", Cond.fieldLink RX4 24 "StageDesk$Timers" "dues" "[I", Cond.methodLink RX7 153 yX7_letWork, Cond.instanceMethod yX7_letWork, Cond.selects RX7 yX7_letWork yX7_letWork, Cond.code yX7_letWork cX7_letWork 3 none, Cond.fieldLink RX7 174 "StageDesk$Worker" "batch" "LStageDesk$EventRow;", Cond.fieldLink RX7 122 "StageDesk$EventRow" "size" "I", Cond.fieldLink RX7 184 "StageDesk$Worker" "idleTicks" "I", Cond.methodLink RX7 177 yX7_workOnBatch, Cond.instanceMethod yX7_workOnBatch, Cond.selects RX7 yX7_workOnBatch yX7_workOnBatch, Cond.code yX7_workOnBatch cX7_workOnBatch 3 none, Cond.fieldLink RX7 187 "StageDesk$Worker" "rest" "I", Cond.fieldLink RX7 190 "StageDesk$Worker" "giving" "Z", Cond.fieldLink RX7 196 "StageDesk$Worker" "gifts" "LStageDesk$Gifts;", Cond.methodLink RX7 193 yX3_collectGifts, Cond.instanceMethod yX3_collectGifts]
def wsX7_tick_r5 : List Cond := [Cond.selects RX3 yX3_collectGifts yX3_collectGifts, Cond.code yX3_collectGifts cX3_collectGifts 3 none, Cond.fieldLink RX3 34 "StageDesk$Stage" "sort" "I", Cond.fieldLink RX3 86 "StageDesk$Worker" "batch" "LStageDesk$EventRow;", Cond.fieldLink RX3 100 "StageDesk$EventRow" "values" "[I", Cond.fieldLink RX3 104 "StageDesk$EventRow" "births" "[I", Cond.fieldLink RX3 107 "StageDesk$Worker" "gifts" "LStageDesk$Gifts;", Cond.methodLink RX3 96 yX3_collectSum, Cond.instanceMethod yX3_collectSum, Cond.selects RX3 yX3_collectSum yX3_collectSum, Cond.code yX3_collectSum cX3_collectSum 4 none, Cond.fieldLink RX3 115 "StageDesk$Stage" "first" "LStageDesk$Stage;", Cond.methodLink RX3 119 yX2_append, Cond.instanceMethod yX2_append, Cond.selects RX2 yX2_append yX2_append, Cond.initialized RX2, Cond.code yX2_append cX2_append 4 none, Cond.fieldLink RX2 28 "StageDesk$Gifts" "size" "I", Cond.fieldLink RX2 11 "StageDesk$Gifts" "targets" "[LStageDesk$Stage;", Cond.fieldLink RX2 17 "StageDesk$Gifts" "values" "[I", Cond.fieldLink RX2 21 "StageDesk$Gifts" "births" "[I", Cond.methodLink RX3 111 yX3_collectFrom, Cond.instanceMethod yX3_collectFrom, Cond.selects RX3 yX3_collectFrom yX3_collectFrom]
def wsX7_tick_r6 : List Cond := [Cond.code yX3_collectFrom cX3_collectFrom 4 none, Cond.fieldLink RX3 124 "StageDesk$Stage" "second" "LStageDesk$Stage;", Cond.methodLink RX7 200 yX7_offerGifts, Cond.instanceMethod yX7_offerGifts, Cond.selects RX7 yX7_offerGifts yX7_offerGifts, Cond.code yX7_offerGifts cX7_offerGifts 3 (some .boolean), Cond.fieldLink RX7 207 "StageDesk$Gifts" "next" "I", Cond.fieldLink RX7 212 "StageDesk$Gifts" "size" "I", Cond.fieldLink RX7 213 "StageDesk$Gifts" "number" "I", Cond.fieldLink RX7 216 "StageDesk$Gifts" "targets" "[LStageDesk$Stage;", Cond.fieldLink RX7 219 "StageDesk$Gifts" "values" "[I", Cond.fieldLink RX7 220 "StageDesk$Gifts" "births" "[I", Cond.methodLink RX7 204 yX7_finishBatch, Cond.instanceMethod yX7_finishBatch, Cond.selects RX7 yX7_finishBatch yX7_finishBatch, Cond.code yX7_finishBatch cX7_finishBatch 5 none, Cond.fieldLink RX7 223 "StageDesk$Stage" "batchesHandled" "I", Cond.fieldLink RX7 226 "StageDesk$Stage" "eventsHandled" "I", Cond.fieldLink RX7 229 "StageDesk$Stage" "sort" "I", Cond.fieldLink RX7 232 "StageDesk$Stage" "times" "LStageDesk$Times;", Cond.fieldLink RX7 236 "StageDesk$EventRow" "births" "[I", Cond.fieldLink RX7 25 "StageDesk" "doneRow" "LStageDesk$DoneRow;", Cond.fieldLink RX7 125 "StageDesk$EventRow" "numbers" "[I", Cond.fieldLink RX7 242 "StageDesk$EventRow" "values" "[I"]
def wsX7_tick_r7 : List Cond := [Cond.methodLink RX7 237 yX5_append, Cond.instanceMethod yX5_append, Cond.selects RX5 yX5_append yX5_append, Cond.initialized RX5, Cond.code yX5_append cX5_append 2 none, Cond.fieldLink RX5 18 "StageDesk$Times" "size" "I", Cond.fieldLink RX5 9 "StageDesk$Times" "kept" "[I", Cond.methodLink RX5 22 arraycopyName, Cond.native arraycopyName, Cond.static arraycopyName, Cond.initialized "java/lang/System", Cond.methodLink RX7 243 yX0_append, Cond.instanceMethod yX0_append, Cond.selects RX0 yX0_append yX0_append, Cond.initialized RX0, Cond.code yX0_append cX0_append 3 none, Cond.fieldLink RX0 16 "StageDesk$DoneRow" "size" "I", Cond.fieldLink RX0 7 "StageDesk$DoneRow" "numbers" "[I", Cond.fieldLink RX0 13 "StageDesk$DoneRow" "values" "[I", Cond.methodLink RX0 20 yJ7_copyOf_59c91, Cond.static yJ7_copyOf_59c91, Cond.initialized RJ7, Cond.code yJ7_copyOf_59c91 cJ7_copyOf_59c91 3 (some (.array .int)), Cond.methodLink RJ7 316 ⟨"[I", "clone", "()Ljava/lang/Object;"⟩]
def wsX7_tick_r8 : List Cond := [Cond.sameMethod "[I" "java/lang/Object" "clone" "()Ljava/lang/Object;", Cond.native ⟨"java/lang/Object", "clone", "()Ljava/lang/Object;"⟩, Cond.instanceMethod ⟨"java/lang/Object", "clone", "()Ljava/lang/Object;"⟩, Cond.selects "[I" ⟨"[I", "clone", "()Ljava/lang/Object;"⟩ ⟨"java/lang/Object", "clone", "()Ljava/lang/Object;"⟩, Cond.classLink RJ7 317 "[I", Cond.arrayClass .int, Cond.methodLink RJ7 304 Lib.Math.min.name, Cond.methodLink RJ7 150 arraycopyName, Cond.methodLink RX7 245 yX2_clear, Cond.instanceMethod yX2_clear, Cond.selects RX2 yX2_clear yX2_clear, Cond.code yX2_clear cX2_clear 1 none, Cond.fieldLink RX2 31 "StageDesk$Gifts" "next" "I", Cond.fieldLink RX2 24 "StageDesk$Gifts" "number" "I", Cond.methodLink RX7 180 yX3_startBatch, Cond.instanceMethod yX3_startBatch, Cond.selects RX3 yX3_startBatch yX3_startBatch, Cond.code yX3_startBatch cX3_startBatch 2 none, Cond.fieldLink RX3 31 "StageDesk$Stage" "batchSize" "I", Cond.fieldLink RX3 40 "StageDesk$Stage" "cost" "I", Cond.fieldLink RX3 93 "StageDesk$Worker" "rest" "I", Cond.methodLink RX3 89 yX1_becomeFirstOf, Cond.instanceMethod yX1_becomeFirstOf, Cond.selects RX1 yX1_becomeFirstOf yX1_becomeFirstOf]
def wsX7_tick_r9 : List Cond := [Cond.code yX1_becomeFirstOf cX1_becomeFirstOf 4 none, Cond.methodLink RX1 23 Lib.Math.min.name, Cond.methodLink RX1 29 arraycopyName, Cond.methodLink RX1 35 yX1_dropFirst, Cond.instanceMethod yX1_dropFirst, Cond.selects RX1 yX1_dropFirst yX1_dropFirst, Cond.code yX1_dropFirst cX1_dropFirst 3 none, Cond.methodLink RX7 157 yX3_control, Cond.instanceMethod yX3_control, Cond.selects RX3 yX3_control yX3_control, Cond.code yX3_control cX3_control 1 none, Cond.fieldLink RX3 133 "StageDesk$Stage" "goal" "I", Cond.fieldLink RX3 12 "StageDesk$Stage" "times" "LStageDesk$Times;", Cond.fieldLink RX3 136 "StageDesk$Times" "size" "I", Cond.methodLink RX3 127 yX3_controlWorkers, Cond.instanceMethod yX3_controlWorkers, Cond.selects RX3 yX3_controlWorkers yX3_controlWorkers, Cond.code yX3_controlWorkers cX3_controlWorkers 1 none, Cond.fieldLink RX3 28 "StageDesk$Stage" "workerCount" "I", Cond.fieldLink RX3 54 "StageDesk$Stage" "workers" "[LStageDesk$Worker;", Cond.fieldLink RX3 140 "StageDesk$Worker" "idleTicks" "I", Cond.methodLink RX3 143 yX3_isLongIdle, Cond.instanceMethod yX3_isLongIdle, Cond.selects RX3 yX3_isLongIdle yX3_isLongIdle]
def wsX7_tick_r10 : List Cond := [Cond.code yX3_isLongIdle cX3_isLongIdle 2 (some .boolean), Cond.methodLink RX3 130 yX3_controlBatch, Cond.instanceMethod yX3_controlBatch, Cond.selects RX3 yX3_controlBatch yX3_controlBatch, Cond.code yX3_controlBatch cX3_controlBatch 1 none, Cond.methodLink RX3 147 Lib.Math.max.name, Cond.static Lib.Math.max.name, Cond.code Lib.Math.max.name Lib.Math.max.code 2 (some .int), Cond.methodLink RX3 137 yX3_controlRate, Cond.instanceMethod yX3_controlRate, Cond.selects RX3 yX3_controlRate yX3_controlRate, Cond.code yX3_controlRate cX3_controlRate 1 none, Cond.methodLink RX3 150 yX5_response, Cond.instanceMethod yX5_response, Cond.selects RX5 yX5_response yX5_response, Cond.code yX5_response cX5_response 3 (some .int), Cond.fieldLink RX5 15 "StageDesk$Times" "sorted" "[I"]
def wsX7_tick : List Cond := .code yX7_tick cX7_tick 3 (some .int) :: ((wsX7_tick_r1 ++ (wsX7_tick_r2 ++ (wsX7_tick_r3 ++ (wsX7_tick_r4 ++ (wsX7_tick_r5 ++ (wsX7_tick_r6 ++ (wsX7_tick_r7 ++ (wsX7_tick_r8 ++ (wsX7_tick_r9 ++ wsX7_tick_r10))))))))) ++ wsX70 ++ wsX30 ++ wsX40 ++ wsX10 ++ wsX60 ++ wsX20 ++ wsX50 ++ wsX00)
def wsX7_told_r1 : List Cond := [Cond.methodLink RX7 40 yX7_stageAt, Cond.instanceMethod yX7_stageAt, Cond.selects RX7 yX7_stageAt yX7_stageAt, Cond.initialized RX7, Cond.code yX7_stageAt cX7_stageAt 2 (some (.object "StageDesk$Stage")), Cond.fieldLink RX7 33 "StageDesk" "stageCount" "I", Cond.fieldLink RX7 11 "StageDesk" "stages" "[LStageDesk$Stage;", Cond.methodLink RX7 29 yX7_within, Cond.static yX7_within, Cond.code yX7_within cX7_within 3 (some .boolean), Cond.methodLink RX7 118 yX3_figure, Cond.instanceMethod yX3_figure, Cond.selects RX3 yX3_figure yX3_figure, Cond.initialized RX3, Cond.code yX3_figure cX3_figure 2 (some .int), Cond.fieldLink RX3 48 "StageDesk$Stage" "queue" "LStageDesk$EventRow;", Cond.fieldLink RX3 59 "StageDesk$EventRow" "size" "I", Cond.fieldLink RX3 62 "StageDesk$Stage" "reserved" "I", Cond.fieldLink RX3 28 "StageDesk$Stage" "workerCount" "I", Cond.fieldLink RX3 31 "StageDesk$Stage" "batchSize" "I", Cond.fieldLink RX3 18 "StageDesk$Stage" "rate" "I", Cond.fieldLink RX3 25 "StageDesk$Stage" "tokens" "I", Cond.fieldLink RX3 73 "StageDesk$Stage" "refusals" "I", Cond.fieldLink RX3 153 "StageDesk$Stage" "batchesHandled" "I"]
def wsX7_told_r2 : List Cond := [Cond.fieldLink RX3 156 "StageDesk$Stage" "eventsHandled" "I", Cond.fieldLink RX3 12 "StageDesk$Stage" "times" "LStageDesk$Times;", Cond.methodLink RX3 150 yX5_response, Cond.instanceMethod yX5_response, Cond.selects RX5 yX5_response yX5_response, Cond.initialized RX5, Cond.code yX5_response cX5_response 3 (some .int), Cond.fieldLink RX5 18 "StageDesk$Times" "size" "I", Cond.fieldLink RX5 15 "StageDesk$Times" "sorted" "[I", Cond.fieldLink RX5 9 "StageDesk$Times" "kept" "[I"]
def wsX7_told : List Cond := .code yX7_told cX7_told 4 (some .int) :: ((wsX7_told_r1 ++ wsX7_told_r2) ++ wsX70 ++ wsX30 ++ wsX10 ++ wsX50)
def wsX7_queued : List Cond := .code yX7_queued cX7_queued 4 (some .int) :: ([.fieldLink RX7 100 "StageDesk$Stage" "queue" "LStageDesk$EventRow;", .fieldLink RX7 122 "StageDesk$EventRow" "size" "I", .fieldLink RX7 125 "StageDesk$EventRow" "numbers" "[I", .methodLink RX7 40 yX7_stageAt, .instanceMethod yX7_stageAt, .selects RX7 yX7_stageAt yX7_stageAt, .initialized RX7, .code yX7_stageAt cX7_stageAt 2 (some (.object "StageDesk$Stage")), .fieldLink RX7 33 "StageDesk" "stageCount" "I", .fieldLink RX7 11 "StageDesk" "stages" "[LStageDesk$Stage;", .methodLink RX7 29 yX7_within, .static yX7_within, .code yX7_within cX7_within 3 (some .boolean)] ++ wsX30 ++ wsX10 ++ wsX70)
def wsX7_worker : List Cond := .code yX7_worker cX7_worker 5 (some .int) :: ([.fieldLink RX7 129 "StageDesk$Stage" "workerCount" "I", .fieldLink RX7 132 "StageDesk$Stage" "workers" "[LStageDesk$Worker;", .methodLink RX7 40 yX7_stageAt, .instanceMethod yX7_stageAt, .selects RX7 yX7_stageAt yX7_stageAt, .initialized RX7, .code yX7_stageAt cX7_stageAt 2 (some (.object "StageDesk$Stage")), .fieldLink RX7 33 "StageDesk" "stageCount" "I", .fieldLink RX7 11 "StageDesk" "stages" "[LStageDesk$Stage;", .methodLink RX7 29 yX7_within, .static yX7_within, .code yX7_within cX7_within 3 (some .boolean), .methodLink RX7 136 yX6_figure, .instanceMethod yX6_figure, .selects RX6 yX6_figure yX6_figure, .initialized RX6, .code yX6_figure cX6_figure 2 (some .int), .fieldLink RX6 14 "StageDesk$Worker" "batch" "LStageDesk$EventRow;", .fieldLink RX6 27 "StageDesk$EventRow" "size" "I", .fieldLink RX6 31 "StageDesk$Worker" "rest" "I", .fieldLink RX6 23 "StageDesk$Worker" "gifts" "LStageDesk$Gifts;", .fieldLink RX6 34 "StageDesk$Gifts" "size" "I", .fieldLink RX6 35 "StageDesk$Gifts" "next" "I"] ++ wsX30 ++ wsX70 ++ wsX60 ++ wsX10 ++ wsX20)
def wsX7_done : List Cond := .code yX7_done cX7_done 2 (some .int) :: ([.fieldLink RX7 25 "StageDesk" "doneRow" "LStageDesk$DoneRow;", .fieldLink RX7 139 "StageDesk$DoneRow" "size" "I", .fieldLink RX7 140 "StageDesk$DoneRow" "numbers" "[I", .methodLink RX7 29 yX7_within, .static yX7_within, .initialized RX7, .code yX7_within cX7_within 3 (some .boolean)] ++ wsX70 ++ wsX00)
def wsX7_value : List Cond := .code yX7_value cX7_value 2 (some .int) :: ([.fieldLink RX7 25 "StageDesk" "doneRow" "LStageDesk$DoneRow;", .fieldLink RX7 139 "StageDesk$DoneRow" "size" "I", .fieldLink RX7 141 "StageDesk$DoneRow" "values" "[I", .methodLink RX7 29 yX7_within, .static yX7_within, .initialized RX7, .code yX7_within cX7_within 3 (some .boolean)] ++ wsX70 ++ wsX00)
def wsX7_events : List Cond := .code yX7_events cX7_events 1 (some .int) :: ([.fieldLink RX7 97 "StageDesk" "made" "I"] ++ wsX70)
def wsX7_ended : List Cond := .code yX7_ended cX7_ended 1 (some .int) :: ([.fieldLink RX7 25 "StageDesk" "doneRow" "LStageDesk$DoneRow;", .fieldLink RX7 139 "StageDesk$DoneRow" "size" "I"] ++ wsX70 ++ wsX00)
def wsX7_lost : List Cond := .code yX7_lost cX7_lost 1 (some .int) :: ([.fieldLink RX7 144 "StageDesk" "lostCount" "I"] ++ wsX70)
def wsX7_clock : List Cond := .code yX7_clock cX7_clock 1 (some .int) :: ([.fieldLink RX7 80 "StageDesk" "now" "I"] ++ wsX70)
def wsX8_init_r1 : List Cond := [Cond.methodLink RX8 1 objectInit, Cond.instanceMethod objectInit, Cond.code objectInit ⟨#[0xb1]⟩ 1 none, Cond.constant RX8 7 (124000), Cond.arrayClass .int, Cond.fieldLink RX8 8 "StageDeskModel" "values" "[I", Cond.fieldLink RX8 14 "StageDeskModel" "births" "[I", Cond.constant RX8 17 (103000), Cond.fieldLink RX8 18 "StageDeskModel" "done" "[I", Cond.fieldLink RX8 21 "StageDeskModel" "sorts" "[I", Cond.fieldLink RX8 24 "StageDeskModel" "first" "[I", Cond.fieldLink RX8 27 "StageDeskModel" "second" "[I", Cond.fieldLink RX8 30 "StageDeskModel" "bounds" "[I", Cond.fieldLink RX8 33 "StageDeskModel" "reserved" "[I", Cond.fieldLink RX8 36 "StageDeskModel" "tokens" "[I", Cond.fieldLink RX8 39 "StageDeskModel" "depths" "[I", Cond.fieldLink RX8 42 "StageDeskModel" "rates" "[I", Cond.fieldLink RX8 45 "StageDeskModel" "goals" "[I", Cond.fieldLink RX8 48 "StageDeskModel" "workers" "[I", Cond.fieldLink RX8 51 "StageDeskModel" "caps" "[I", Cond.fieldLink RX8 54 "StageDeskModel" "batches" "[I", Cond.fieldLink RX8 57 "StageDeskModel" "costs" "[I", Cond.arrayClass .boolean, Cond.fieldLink RX8 60 "StageDeskModel" "shut" "[Z"]
def wsX8_init_r2 : List Cond := [Cond.fieldLink RX8 64 "StageDeskModel" "refusals" "[I", Cond.fieldLink RX8 67 "StageDeskModel" "handled" "[I", Cond.fieldLink RX8 70 "StageDeskModel" "stood" "[I", Cond.fieldLink RX8 73 "StageDeskModel" "waiting" "[I", Cond.fieldLink RX8 76 "StageDeskModel" "queue" "[I", Cond.fieldLink RX8 79 "StageDeskModel" "timeCount" "[I", Cond.fieldLink RX8 82 "StageDeskModel" "times" "[I", Cond.fieldLink RX8 85 "StageDeskModel" "sorted" "[I", Cond.fieldLink RX8 88 "StageDeskModel" "size" "[I", Cond.fieldLink RX8 91 "StageDeskModel" "batch" "[I", Cond.fieldLink RX8 94 "StageDeskModel" "rest" "[I", Cond.fieldLink RX8 97 "StageDeskModel" "offers" "[Z", Cond.fieldLink RX8 100 "StageDeskModel" "gifts" "[I", Cond.fieldLink RX8 103 "StageDeskModel" "given" "[I", Cond.fieldLink RX8 106 "StageDeskModel" "giftValue" "[I", Cond.fieldLink RX8 109 "StageDeskModel" "giftBirth" "[I", Cond.fieldLink RX8 112 "StageDeskModel" "giftTo" "[I", Cond.fieldLink RX8 115 "StageDeskModel" "giftEvent" "[I", Cond.fieldLink RX8 118 "StageDeskModel" "idle" "[I", Cond.fieldLink RX8 121 "StageDeskModel" "there" "[I", Cond.fieldLink RX8 124 "StageDeskModel" "timerNumber" "[I", Cond.fieldLink RX8 127 "StageDeskModel" "timerStage" "[I", Cond.fieldLink RX8 130 "StageDeskModel" "timerValue" "[I", Cond.fieldLink RX8 133 "StageDeskModel" "timerAt" "[I"]
def wsX8_init : List Cond := .code yX8_init cX8_init 1 none :: ((wsX8_init_r1 ++ wsX8_init_r2) ++ wsX80)
def wsX8_isStage : List Cond := .code yX8_isStage cX8_isStage 2 (some .boolean) :: ([.fieldLink RX8 136 "StageDeskModel" "stages" "I"] ++ wsX80)
def wsX8_in : List Cond := .code yX8_in cX8_in 3 (some .boolean) :: ([])
def wsX8_stage : List Cond := .code yX8_stage cX8_stage 6 (some .int) :: ([.fieldLink RX8 136 "StageDeskModel" "stages" "I", .fieldLink RX8 21 "StageDeskModel" "sorts" "[I", .fieldLink RX8 24 "StageDeskModel" "first" "[I", .fieldLink RX8 27 "StageDeskModel" "second" "[I", .fieldLink RX8 30 "StageDeskModel" "bounds" "[I", .fieldLink RX8 36 "StageDeskModel" "tokens" "[I", .fieldLink RX8 39 "StageDeskModel" "depths" "[I", .fieldLink RX8 42 "StageDeskModel" "rates" "[I", .fieldLink RX8 51 "StageDeskModel" "caps" "[I", .fieldLink RX8 57 "StageDeskModel" "costs" "[I", .fieldLink RX8 54 "StageDeskModel" "batches" "[I", .fieldLink RX8 48 "StageDeskModel" "workers" "[I", .methodLink RX8 140 yX8_in, .static yX8_in, .initialized RX8, .code yX8_in cX8_in 3 (some .boolean)] ++ wsX80)
def wsX8_targets : List Cond := .code yX8_targets cX8_targets 4 (some .int) :: ([.fieldLink RX8 24 "StageDeskModel" "first" "[I", .fieldLink RX8 27 "StageDeskModel" "second" "[I", .methodLink RX8 144 yX8_isStage, .instanceMethod yX8_isStage, .selects RX8 yX8_isStage yX8_isStage, .initialized RX8, .code yX8_isStage cX8_isStage 2 (some .boolean), .fieldLink RX8 136 "StageDeskModel" "stages" "I"] ++ wsX80)
def wsX8_admit : List Cond := .code yX8_admit cX8_admit 5 (some .int) :: ([.fieldLink RX8 42 "StageDeskModel" "rates" "[I", .fieldLink RX8 39 "StageDeskModel" "depths" "[I", .fieldLink RX8 36 "StageDeskModel" "tokens" "[I", .fieldLink RX8 45 "StageDeskModel" "goals" "[I", .methodLink RX8 144 yX8_isStage, .instanceMethod yX8_isStage, .selects RX8 yX8_isStage yX8_isStage, .initialized RX8, .code yX8_isStage cX8_isStage 2 (some .boolean), .fieldLink RX8 136 "StageDeskModel" "stages" "I", .methodLink RX8 140 yX8_in, .static yX8_in, .code yX8_in cX8_in 3 (some .boolean)] ++ wsX80)
def wsX8_make : List Cond := .code yX8_make cX8_make 3 (some .int) :: ([.fieldLink RX8 8 "StageDeskModel" "values" "[I", .fieldLink RX8 148 "StageDeskModel" "events" "I", .fieldLink RX8 14 "StageDeskModel" "births" "[I"] ++ wsX80)
def wsX8_refusal : List Cond := .code yX8_refusal cX8_refusal 2 (some .int) :: ([.fieldLink RX8 60 "StageDeskModel" "shut" "[Z", .fieldLink RX8 73 "StageDeskModel" "waiting" "[I", .fieldLink RX8 33 "StageDeskModel" "reserved" "[I", .fieldLink RX8 30 "StageDeskModel" "bounds" "[I", .fieldLink RX8 36 "StageDeskModel" "tokens" "[I"] ++ wsX80)
def wsX8_stand : List Cond := .code yX8_stand cX8_stand 3 none :: ([.fieldLink RX8 76 "StageDeskModel" "queue" "[I", .fieldLink RX8 73 "StageDeskModel" "waiting" "[I"] ++ wsX80)
def wsX8_offer : List Cond := .code yX8_offer cX8_offer 3 (some .boolean) :: ([.fieldLink RX8 64 "StageDeskModel" "refusals" "[I", .fieldLink RX8 36 "StageDeskModel" "tokens" "[I", .methodLink RX8 151 yX8_refusal, .instanceMethod yX8_refusal, .selects RX8 yX8_refusal yX8_refusal, .initialized RX8, .code yX8_refusal cX8_refusal 2 (some .int), .fieldLink RX8 60 "StageDeskModel" "shut" "[Z", .fieldLink RX8 73 "StageDeskModel" "waiting" "[I", .fieldLink RX8 33 "StageDeskModel" "reserved" "[I", .fieldLink RX8 30 "StageDeskModel" "bounds" "[I", .methodLink RX8 155 yX8_stand, .instanceMethod yX8_stand, .selects RX8 yX8_stand yX8_stand, .code yX8_stand cX8_stand 3 none, .fieldLink RX8 76 "StageDeskModel" "queue" "[I"] ++ wsX80)
def wsX8_put_r1 : List Cond := [Cond.fieldLink RX8 64 "StageDeskModel" "refusals" "[I", Cond.fieldLink RX8 148 "StageDeskModel" "events" "I", Cond.fieldLink RX8 163 "StageDeskModel" "clock" "I", Cond.methodLink RX8 144 yX8_isStage, Cond.instanceMethod yX8_isStage, Cond.selects RX8 yX8_isStage yX8_isStage, Cond.initialized RX8, Cond.code yX8_isStage cX8_isStage 2 (some .boolean), Cond.fieldLink RX8 136 "StageDeskModel" "stages" "I", Cond.methodLink RX8 151 yX8_refusal, Cond.instanceMethod yX8_refusal, Cond.selects RX8 yX8_refusal yX8_refusal, Cond.code yX8_refusal cX8_refusal 2 (some .int), Cond.fieldLink RX8 60 "StageDeskModel" "shut" "[Z", Cond.fieldLink RX8 73 "StageDeskModel" "waiting" "[I", Cond.fieldLink RX8 33 "StageDeskModel" "reserved" "[I", Cond.fieldLink RX8 30 "StageDeskModel" "bounds" "[I", Cond.fieldLink RX8 36 "StageDeskModel" "tokens" "[I", Cond.methodLink RX8 159 yX8_offer, Cond.instanceMethod yX8_offer, Cond.selects RX8 yX8_offer yX8_offer, Cond.code yX8_offer cX8_offer 3 (some .boolean), Cond.methodLink RX8 155 yX8_stand, Cond.instanceMethod yX8_stand]
def wsX8_put_r2 : List Cond := [Cond.selects RX8 yX8_stand yX8_stand, Cond.code yX8_stand cX8_stand 3 none, Cond.fieldLink RX8 76 "StageDeskModel" "queue" "[I", Cond.methodLink RX8 166 yX8_make, Cond.instanceMethod yX8_make, Cond.selects RX8 yX8_make yX8_make, Cond.code yX8_make cX8_make 3 (some .int), Cond.fieldLink RX8 8 "StageDeskModel" "values" "[I", Cond.fieldLink RX8 14 "StageDeskModel" "births" "[I"]
def wsX8_put : List Cond := .code yX8_put cX8_put 5 (some .int) :: ((wsX8_put_r1 ++ wsX8_put_r2) ++ wsX80)
def wsX8_prepare : List Cond := .code yX8_prepare cX8_prepare 3 (some .int) :: ([.fieldLink RX8 60 "StageDeskModel" "shut" "[Z", .fieldLink RX8 73 "StageDeskModel" "waiting" "[I", .fieldLink RX8 33 "StageDeskModel" "reserved" "[I", .fieldLink RX8 30 "StageDeskModel" "bounds" "[I", .methodLink RX8 144 yX8_isStage, .instanceMethod yX8_isStage, .selects RX8 yX8_isStage yX8_isStage, .initialized RX8, .code yX8_isStage cX8_isStage 2 (some .boolean), .fieldLink RX8 136 "StageDeskModel" "stages" "I", .methodLink RX8 140 yX8_in, .static yX8_in, .code yX8_in cX8_in 3 (some .boolean)] ++ wsX80)
def wsX8_commit : List Cond := .code yX8_commit cX8_commit 4 (some .int) :: ([.fieldLink RX8 33 "StageDeskModel" "reserved" "[I", .fieldLink RX8 60 "StageDeskModel" "shut" "[Z", .fieldLink RX8 148 "StageDeskModel" "events" "I", .fieldLink RX8 163 "StageDeskModel" "clock" "I", .methodLink RX8 144 yX8_isStage, .instanceMethod yX8_isStage, .selects RX8 yX8_isStage yX8_isStage, .initialized RX8, .code yX8_isStage cX8_isStage 2 (some .boolean), .fieldLink RX8 136 "StageDeskModel" "stages" "I", .methodLink RX8 166 yX8_make, .instanceMethod yX8_make, .selects RX8 yX8_make yX8_make, .code yX8_make cX8_make 3 (some .int), .fieldLink RX8 8 "StageDeskModel" "values" "[I", .fieldLink RX8 14 "StageDeskModel" "births" "[I", .methodLink RX8 155 yX8_stand, .instanceMethod yX8_stand, .selects RX8 yX8_stand yX8_stand, .code yX8_stand cX8_stand 3 none, .fieldLink RX8 76 "StageDeskModel" "queue" "[I", .fieldLink RX8 73 "StageDeskModel" "waiting" "[I"] ++ wsX80)
def wsX8_abort : List Cond := .code yX8_abort cX8_abort 3 (some .int) :: ([.fieldLink RX8 33 "StageDeskModel" "reserved" "[I", .methodLink RX8 144 yX8_isStage, .instanceMethod yX8_isStage, .selects RX8 yX8_isStage yX8_isStage, .initialized RX8, .code yX8_isStage cX8_isStage 2 (some .boolean), .fieldLink RX8 136 "StageDeskModel" "stages" "I"] ++ wsX80)
def wsX8_timer : List Cond := .code yX8_timer cX8_timer 4 (some .int) :: ([.fieldLink RX8 170 "StageDeskModel" "timersWait" "I", .fieldLink RX8 124 "StageDeskModel" "timerNumber" "[I", .fieldLink RX8 173 "StageDeskModel" "timers" "I", .fieldLink RX8 127 "StageDeskModel" "timerStage" "[I", .fieldLink RX8 130 "StageDeskModel" "timerValue" "[I", .fieldLink RX8 133 "StageDeskModel" "timerAt" "[I", .fieldLink RX8 163 "StageDeskModel" "clock" "I", .methodLink RX8 144 yX8_isStage, .instanceMethod yX8_isStage, .selects RX8 yX8_isStage yX8_isStage, .initialized RX8, .code yX8_isStage cX8_isStage 2 (some .boolean), .fieldLink RX8 136 "StageDeskModel" "stages" "I", .methodLink RX8 140 yX8_in, .static yX8_in, .code yX8_in cX8_in 3 (some .boolean)] ++ wsX80)
def wsX8_forgetTimer : List Cond := .code yX8_forgetTimer cX8_forgetTimer 3 none :: ([.fieldLink RX8 170 "StageDeskModel" "timersWait" "I", .fieldLink RX8 124 "StageDeskModel" "timerNumber" "[I", .fieldLink RX8 127 "StageDeskModel" "timerStage" "[I", .fieldLink RX8 130 "StageDeskModel" "timerValue" "[I", .fieldLink RX8 133 "StageDeskModel" "timerAt" "[I"] ++ wsX80)
def wsX8_cancel : List Cond := .code yX8_cancel cX8_cancel 3 (some .int) :: ([.fieldLink RX8 170 "StageDeskModel" "timersWait" "I", .fieldLink RX8 124 "StageDeskModel" "timerNumber" "[I", .methodLink RX8 176 yX8_forgetTimer, .instanceMethod yX8_forgetTimer, .selects RX8 yX8_forgetTimer yX8_forgetTimer, .initialized RX8, .code yX8_forgetTimer cX8_forgetTimer 3 none, .fieldLink RX8 127 "StageDeskModel" "timerStage" "[I", .fieldLink RX8 130 "StageDeskModel" "timerValue" "[I", .fieldLink RX8 133 "StageDeskModel" "timerAt" "[I"] ++ wsX80)
def wsX8_close : List Cond := .code yX8_close cX8_close 2 (some .int) :: ([.fieldLink RX8 60 "StageDeskModel" "shut" "[Z", .methodLink RX8 144 yX8_isStage, .instanceMethod yX8_isStage, .selects RX8 yX8_isStage yX8_isStage, .initialized RX8, .code yX8_isStage cX8_isStage 2 (some .boolean), .fieldLink RX8 136 "StageDeskModel" "stages" "I"] ++ wsX80)
def wsX8_ring_r1 : List Cond := [Cond.fieldLink RX8 170 "StageDeskModel" "timersWait" "I", Cond.fieldLink RX8 133 "StageDeskModel" "timerAt" "[I", Cond.fieldLink RX8 163 "StageDeskModel" "clock" "I", Cond.fieldLink RX8 127 "StageDeskModel" "timerStage" "[I", Cond.fieldLink RX8 130 "StageDeskModel" "timerValue" "[I", Cond.fieldLink RX8 180 "StageDeskModel" "lost" "I", Cond.methodLink RX8 166 yX8_make, Cond.instanceMethod yX8_make, Cond.selects RX8 yX8_make yX8_make, Cond.initialized RX8, Cond.code yX8_make cX8_make 3 (some .int), Cond.fieldLink RX8 8 "StageDeskModel" "values" "[I", Cond.fieldLink RX8 148 "StageDeskModel" "events" "I", Cond.fieldLink RX8 14 "StageDeskModel" "births" "[I", Cond.methodLink RX8 176 yX8_forgetTimer, Cond.instanceMethod yX8_forgetTimer, Cond.selects RX8 yX8_forgetTimer yX8_forgetTimer, Cond.code yX8_forgetTimer cX8_forgetTimer 3 none, Cond.fieldLink RX8 124 "StageDeskModel" "timerNumber" "[I", Cond.methodLink RX8 159 yX8_offer, Cond.instanceMethod yX8_offer, Cond.selects RX8 yX8_offer yX8_offer, Cond.code yX8_offer cX8_offer 3 (some .boolean), Cond.fieldLink RX8 64 "StageDeskModel" "refusals" "[I"]
def wsX8_ring_r2 : List Cond := [Cond.fieldLink RX8 36 "StageDeskModel" "tokens" "[I", Cond.methodLink RX8 151 yX8_refusal, Cond.instanceMethod yX8_refusal, Cond.selects RX8 yX8_refusal yX8_refusal, Cond.code yX8_refusal cX8_refusal 2 (some .int), Cond.fieldLink RX8 60 "StageDeskModel" "shut" "[Z", Cond.fieldLink RX8 73 "StageDeskModel" "waiting" "[I", Cond.fieldLink RX8 33 "StageDeskModel" "reserved" "[I", Cond.fieldLink RX8 30 "StageDeskModel" "bounds" "[I", Cond.methodLink RX8 155 yX8_stand, Cond.instanceMethod yX8_stand, Cond.selects RX8 yX8_stand yX8_stand, Cond.code yX8_stand cX8_stand 3 none, Cond.fieldLink RX8 76 "StageDeskModel" "queue" "[I"]
def wsX8_ring : List Cond := .code yX8_ring cX8_ring 4 none :: ((wsX8_ring_r1 ++ wsX8_ring_r2) ++ wsX80)
def wsX8_gift : List Cond := .code yX8_gift cX8_gift 6 none :: ([.fieldLink RX8 100 "StageDeskModel" "gifts" "[I", .fieldLink RX8 106 "StageDeskModel" "giftValue" "[I", .fieldLink RX8 109 "StageDeskModel" "giftBirth" "[I", .fieldLink RX8 112 "StageDeskModel" "giftTo" "[I", .fieldLink RX8 115 "StageDeskModel" "giftEvent" "[I"] ++ wsX80)
def wsX8_listGifts : List Cond := .code yX8_listGifts cX8_listGifts 7 none :: ([.fieldLink RX8 97 "StageDeskModel" "offers" "[Z", .fieldLink RX8 100 "StageDeskModel" "gifts" "[I", .fieldLink RX8 103 "StageDeskModel" "given" "[I", .fieldLink RX8 88 "StageDeskModel" "size" "[I", .fieldLink RX8 91 "StageDeskModel" "batch" "[I", .fieldLink RX8 8 "StageDeskModel" "values" "[I", .fieldLink RX8 21 "StageDeskModel" "sorts" "[I", .fieldLink RX8 14 "StageDeskModel" "births" "[I", .fieldLink RX8 24 "StageDeskModel" "first" "[I", .fieldLink RX8 27 "StageDeskModel" "second" "[I", .methodLink RX8 183 yX8_gift, .instanceMethod yX8_gift, .selects RX8 yX8_gift yX8_gift, .initialized RX8, .code yX8_gift cX8_gift 6 none, .fieldLink RX8 106 "StageDeskModel" "giftValue" "[I", .fieldLink RX8 109 "StageDeskModel" "giftBirth" "[I", .fieldLink RX8 112 "StageDeskModel" "giftTo" "[I", .fieldLink RX8 115 "StageDeskModel" "giftEvent" "[I"] ++ wsX80)
def wsX8_finish : List Cond := .code yX8_finish cX8_finish 6 none :: ([.fieldLink RX8 67 "StageDeskModel" "handled" "[I", .fieldLink RX8 70 "StageDeskModel" "stood" "[I", .fieldLink RX8 88 "StageDeskModel" "size" "[I", .fieldLink RX8 21 "StageDeskModel" "sorts" "[I", .fieldLink RX8 91 "StageDeskModel" "batch" "[I", .fieldLink RX8 18 "StageDeskModel" "done" "[I", .fieldLink RX8 187 "StageDeskModel" "ended" "I", .fieldLink RX8 79 "StageDeskModel" "timeCount" "[I", .fieldLink RX8 82 "StageDeskModel" "times" "[I", .fieldLink RX8 163 "StageDeskModel" "clock" "I", .fieldLink RX8 14 "StageDeskModel" "births" "[I", .fieldLink RX8 97 "StageDeskModel" "offers" "[Z"] ++ wsX80)
def wsX8_give_r1 : List Cond := [Cond.fieldLink RX8 97 "StageDeskModel" "offers" "[Z", Cond.fieldLink RX8 103 "StageDeskModel" "given" "[I", Cond.fieldLink RX8 100 "StageDeskModel" "gifts" "[I", Cond.fieldLink RX8 115 "StageDeskModel" "giftEvent" "[I", Cond.fieldLink RX8 106 "StageDeskModel" "giftValue" "[I", Cond.fieldLink RX8 109 "StageDeskModel" "giftBirth" "[I", Cond.fieldLink RX8 112 "StageDeskModel" "giftTo" "[I", Cond.methodLink RX8 193 yX8_listGifts, Cond.instanceMethod yX8_listGifts, Cond.selects RX8 yX8_listGifts yX8_listGifts, Cond.initialized RX8, Cond.code yX8_listGifts cX8_listGifts 7 none, Cond.fieldLink RX8 88 "StageDeskModel" "size" "[I", Cond.fieldLink RX8 91 "StageDeskModel" "batch" "[I", Cond.fieldLink RX8 8 "StageDeskModel" "values" "[I", Cond.fieldLink RX8 21 "StageDeskModel" "sorts" "[I", Cond.fieldLink RX8 14 "StageDeskModel" "births" "[I", Cond.fieldLink RX8 24 "StageDeskModel" "first" "[I", Cond.fieldLink RX8 27 "StageDeskModel" "second" "[I", Cond.methodLink RX8 183 yX8_gift, Cond.instanceMethod yX8_gift, Cond.selects RX8 yX8_gift yX8_gift, Cond.code yX8_gift cX8_gift 6 none, Cond.methodLink RX8 166 yX8_make]
def wsX8_give_r2 : List Cond := [Cond.instanceMethod yX8_make, Cond.selects RX8 yX8_make yX8_make, Cond.code yX8_make cX8_make 3 (some .int), Cond.fieldLink RX8 148 "StageDeskModel" "events" "I", Cond.methodLink RX8 159 yX8_offer, Cond.instanceMethod yX8_offer, Cond.selects RX8 yX8_offer yX8_offer, Cond.code yX8_offer cX8_offer 3 (some .boolean), Cond.fieldLink RX8 64 "StageDeskModel" "refusals" "[I", Cond.fieldLink RX8 36 "StageDeskModel" "tokens" "[I", Cond.methodLink RX8 151 yX8_refusal, Cond.instanceMethod yX8_refusal, Cond.selects RX8 yX8_refusal yX8_refusal, Cond.code yX8_refusal cX8_refusal 2 (some .int), Cond.fieldLink RX8 60 "StageDeskModel" "shut" "[Z", Cond.fieldLink RX8 73 "StageDeskModel" "waiting" "[I", Cond.fieldLink RX8 33 "StageDeskModel" "reserved" "[I", Cond.fieldLink RX8 30 "StageDeskModel" "bounds" "[I", Cond.methodLink RX8 155 yX8_stand, Cond.instanceMethod yX8_stand, Cond.selects RX8 yX8_stand yX8_stand, Cond.code yX8_stand cX8_stand 3 none, Cond.fieldLink RX8 76 "StageDeskModel" "queue" "[I", Cond.methodLink RX8 196 yX8_finish]
def wsX8_give_r3 : List Cond := [Cond.instanceMethod yX8_finish, Cond.selects RX8 yX8_finish yX8_finish, Cond.code yX8_finish cX8_finish 6 none, Cond.fieldLink RX8 67 "StageDeskModel" "handled" "[I", Cond.fieldLink RX8 70 "StageDeskModel" "stood" "[I", Cond.fieldLink RX8 18 "StageDeskModel" "done" "[I", Cond.fieldLink RX8 187 "StageDeskModel" "ended" "I", Cond.fieldLink RX8 79 "StageDeskModel" "timeCount" "[I", Cond.fieldLink RX8 82 "StageDeskModel" "times" "[I", Cond.fieldLink RX8 163 "StageDeskModel" "clock" "I"]
def wsX8_give : List Cond := .code yX8_give cX8_give 5 none :: ((wsX8_give_r1 ++ (wsX8_give_r2 ++ wsX8_give_r3)) ++ wsX80)
def wsX8_work_r1 : List Cond := [Cond.fieldLink RX8 88 "StageDeskModel" "size" "[I", Cond.fieldLink RX8 94 "StageDeskModel" "rest" "[I", Cond.fieldLink RX8 73 "StageDeskModel" "waiting" "[I", Cond.fieldLink RX8 54 "StageDeskModel" "batches" "[I", Cond.fieldLink RX8 91 "StageDeskModel" "batch" "[I", Cond.fieldLink RX8 76 "StageDeskModel" "queue" "[I", Cond.fieldLink RX8 57 "StageDeskModel" "costs" "[I", Cond.fieldLink RX8 118 "StageDeskModel" "idle" "[I", Cond.fieldLink RX8 121 "StageDeskModel" "there" "[I", Cond.methodLink RX8 190 yX8_give, Cond.instanceMethod yX8_give, Cond.selects RX8 yX8_give yX8_give, Cond.initialized RX8, Cond.code yX8_give cX8_give 5 none, Cond.fieldLink RX8 97 "StageDeskModel" "offers" "[Z", Cond.fieldLink RX8 103 "StageDeskModel" "given" "[I", Cond.fieldLink RX8 100 "StageDeskModel" "gifts" "[I", Cond.fieldLink RX8 115 "StageDeskModel" "giftEvent" "[I", Cond.fieldLink RX8 106 "StageDeskModel" "giftValue" "[I", Cond.fieldLink RX8 109 "StageDeskModel" "giftBirth" "[I", Cond.fieldLink RX8 112 "StageDeskModel" "giftTo" "[I", Cond.methodLink RX8 193 yX8_listGifts, Cond.instanceMethod yX8_listGifts, Cond.selects RX8 yX8_listGifts yX8_listGifts]
def wsX8_work_r2 : List Cond := [Cond.code yX8_listGifts cX8_listGifts 7 none, Cond.fieldLink RX8 8 "StageDeskModel" "values" "[I", Cond.fieldLink RX8 21 "StageDeskModel" "sorts" "[I", Cond.fieldLink RX8 14 "StageDeskModel" "births" "[I", Cond.fieldLink RX8 24 "StageDeskModel" "first" "[I", Cond.fieldLink RX8 27 "StageDeskModel" "second" "[I", Cond.methodLink RX8 183 yX8_gift, Cond.instanceMethod yX8_gift, Cond.selects RX8 yX8_gift yX8_gift, Cond.code yX8_gift cX8_gift 6 none, Cond.methodLink RX8 166 yX8_make, Cond.instanceMethod yX8_make, Cond.selects RX8 yX8_make yX8_make, Cond.code yX8_make cX8_make 3 (some .int), Cond.fieldLink RX8 148 "StageDeskModel" "events" "I", Cond.methodLink RX8 159 yX8_offer, Cond.instanceMethod yX8_offer, Cond.selects RX8 yX8_offer yX8_offer, Cond.code yX8_offer cX8_offer 3 (some .boolean), Cond.fieldLink RX8 64 "StageDeskModel" "refusals" "[I", Cond.fieldLink RX8 36 "StageDeskModel" "tokens" "[I", Cond.methodLink RX8 151 yX8_refusal, Cond.instanceMethod yX8_refusal, Cond.selects RX8 yX8_refusal yX8_refusal]
def wsX8_work_r3 : List Cond := [Cond.code yX8_refusal cX8_refusal 2 (some .int), Cond.fieldLink RX8 60 "StageDeskModel" "shut" "[Z", Cond.fieldLink RX8 33 "StageDeskModel" "reserved" "[I", Cond.fieldLink RX8 30 "StageDeskModel" "bounds" "[I", Cond.methodLink RX8 155 yX8_stand, Cond.instanceMethod yX8_stand, Cond.selects RX8 yX8_stand yX8_stand, Cond.code yX8_stand cX8_stand 3 none, Cond.methodLink RX8 196 yX8_finish, Cond.instanceMethod yX8_finish, Cond.selects RX8 yX8_finish yX8_finish, Cond.code yX8_finish cX8_finish 6 none, Cond.fieldLink RX8 67 "StageDeskModel" "handled" "[I", Cond.fieldLink RX8 70 "StageDeskModel" "stood" "[I", Cond.fieldLink RX8 18 "StageDeskModel" "done" "[I", Cond.fieldLink RX8 187 "StageDeskModel" "ended" "I", Cond.fieldLink RX8 79 "StageDeskModel" "timeCount" "[I", Cond.fieldLink RX8 82 "StageDeskModel" "times" "[I", Cond.fieldLink RX8 163 "StageDeskModel" "clock" "I"]
def wsX8_work : List Cond := .code yX8_work cX8_work 5 none :: ((wsX8_work_r1 ++ (wsX8_work_r2 ++ wsX8_work_r3)) ++ wsX80)
def wsX8_response : List Cond := .code yX8_response cX8_response 6 (some .int) :: ([.fieldLink RX8 79 "StageDeskModel" "timeCount" "[I", .fieldLink RX8 82 "StageDeskModel" "times" "[I", .fieldLink RX8 85 "StageDeskModel" "sorted" "[I"] ++ wsX80)
def wsX8_control : List Cond := .code yX8_control cX8_control 3 none :: ([.fieldLink RX8 48 "StageDeskModel" "workers" "[I", .fieldLink RX8 73 "StageDeskModel" "waiting" "[I", .fieldLink RX8 30 "StageDeskModel" "bounds" "[I", .fieldLink RX8 51 "StageDeskModel" "caps" "[I", .fieldLink RX8 118 "StageDeskModel" "idle" "[I", .fieldLink RX8 121 "StageDeskModel" "there" "[I", .fieldLink RX8 88 "StageDeskModel" "size" "[I", .fieldLink RX8 94 "StageDeskModel" "rest" "[I", .fieldLink RX8 97 "StageDeskModel" "offers" "[Z", .fieldLink RX8 21 "StageDeskModel" "sorts" "[I", .fieldLink RX8 54 "StageDeskModel" "batches" "[I", .fieldLink RX8 45 "StageDeskModel" "goals" "[I", .fieldLink RX8 79 "StageDeskModel" "timeCount" "[I", .fieldLink RX8 42 "StageDeskModel" "rates" "[I", .methodLink RX8 199 yX8_response, .instanceMethod yX8_response, .selects RX8 yX8_response yX8_response, .initialized RX8, .code yX8_response cX8_response 6 (some .int), .fieldLink RX8 82 "StageDeskModel" "times" "[I", .fieldLink RX8 85 "StageDeskModel" "sorted" "[I"] ++ wsX80)
def wsX8_oneTick_r1 : List Cond := [Cond.fieldLink RX8 163 "StageDeskModel" "clock" "I", Cond.fieldLink RX8 136 "StageDeskModel" "stages" "I", Cond.fieldLink RX8 36 "StageDeskModel" "tokens" "[I", Cond.fieldLink RX8 42 "StageDeskModel" "rates" "[I", Cond.fieldLink RX8 39 "StageDeskModel" "depths" "[I", Cond.fieldLink RX8 48 "StageDeskModel" "workers" "[I", Cond.methodLink RX8 202 yX8_ring, Cond.instanceMethod yX8_ring, Cond.selects RX8 yX8_ring yX8_ring, Cond.initialized RX8, Cond.code yX8_ring cX8_ring 4 none, Cond.fieldLink RX8 170 "StageDeskModel" "timersWait" "I", Cond.fieldLink RX8 133 "StageDeskModel" "timerAt" "[I", Cond.fieldLink RX8 127 "StageDeskModel" "timerStage" "[I", Cond.fieldLink RX8 130 "StageDeskModel" "timerValue" "[I", Cond.fieldLink RX8 180 "StageDeskModel" "lost" "I", Cond.methodLink RX8 166 yX8_make, Cond.instanceMethod yX8_make, Cond.selects RX8 yX8_make yX8_make, Cond.code yX8_make cX8_make 3 (some .int), Cond.fieldLink RX8 8 "StageDeskModel" "values" "[I", Cond.fieldLink RX8 148 "StageDeskModel" "events" "I", Cond.fieldLink RX8 14 "StageDeskModel" "births" "[I", Cond.methodLink RX8 176 yX8_forgetTimer]
def wsX8_oneTick_r2 : List Cond := [Cond.instanceMethod yX8_forgetTimer, Cond.selects RX8 yX8_forgetTimer yX8_forgetTimer, Cond.code yX8_forgetTimer cX8_forgetTimer 3 none, Cond.fieldLink RX8 124 "StageDeskModel" "timerNumber" "[I", Cond.methodLink RX8 159 yX8_offer, Cond.instanceMethod yX8_offer, Cond.selects RX8 yX8_offer yX8_offer, Cond.code yX8_offer cX8_offer 3 (some .boolean), Cond.fieldLink RX8 64 "StageDeskModel" "refusals" "[I", Cond.methodLink RX8 151 yX8_refusal, Cond.instanceMethod yX8_refusal, Cond.selects RX8 yX8_refusal yX8_refusal, Cond.code yX8_refusal cX8_refusal 2 (some .int), Cond.fieldLink RX8 60 "StageDeskModel" "shut" "[Z", Cond.fieldLink RX8 73 "StageDeskModel" "waiting" "[I", Cond.fieldLink RX8 33 "StageDeskModel" "reserved" "[I", Cond.fieldLink RX8 30 "StageDeskModel" "bounds" "[I", Cond.methodLink RX8 155 yX8_stand, Cond.instanceMethod yX8_stand, Cond.selects RX8 yX8_stand yX8_stand, Cond.code yX8_stand cX8_stand 3 none, Cond.fieldLink RX8 76 "StageDeskModel" "queue" "[I", Cond.methodLink RX8 205 yX8_work, Cond.instanceMethod yX8_work]
def wsX8_oneTick_r3 : List Cond := [Cond.selects RX8 yX8_work yX8_work, Cond.code yX8_work cX8_work 5 none, Cond.fieldLink RX8 88 "StageDeskModel" "size" "[I", Cond.fieldLink RX8 94 "StageDeskModel" "rest" "[I", Cond.fieldLink RX8 54 "StageDeskModel" "batches" "[I", Cond.fieldLink RX8 91 "StageDeskModel" "batch" "[I", Cond.fieldLink RX8 57 "StageDeskModel" "costs" "[I", Cond.fieldLink RX8 118 "StageDeskModel" "idle" "[I", Cond.fieldLink RX8 121 "StageDeskModel" "there" "[I", Cond.methodLink RX8 190 yX8_give, Cond.instanceMethod yX8_give, Cond.selects RX8 yX8_give yX8_give, Cond.code yX8_give cX8_give 5 none, Cond.fieldLink RX8 97 "StageDeskModel" "offers" "[Z", Cond.fieldLink RX8 103 "StageDeskModel" "given" "[I", Cond.fieldLink RX8 100 "StageDeskModel" "gifts" "[I", Cond.fieldLink RX8 115 "StageDeskModel" "giftEvent" "[I", Cond.fieldLink RX8 106 "StageDeskModel" "giftValue" "[I", Cond.fieldLink RX8 109 "StageDeskModel" "giftBirth" "[I", Cond.fieldLink RX8 112 "StageDeskModel" "giftTo" "[I", Cond.methodLink RX8 193 yX8_listGifts, Cond.instanceMethod yX8_listGifts, Cond.selects RX8 yX8_listGifts yX8_listGifts, Cond.code yX8_listGifts cX8_listGifts 7 none]
def wsX8_oneTick_r4 : List Cond := [Cond.fieldLink RX8 21 "StageDeskModel" "sorts" "[I", Cond.fieldLink RX8 24 "StageDeskModel" "first" "[I", Cond.fieldLink RX8 27 "StageDeskModel" "second" "[I", Cond.methodLink RX8 183 yX8_gift, Cond.instanceMethod yX8_gift, Cond.selects RX8 yX8_gift yX8_gift, Cond.code yX8_gift cX8_gift 6 none, Cond.methodLink RX8 196 yX8_finish, Cond.instanceMethod yX8_finish, Cond.selects RX8 yX8_finish yX8_finish, Cond.code yX8_finish cX8_finish 6 none, Cond.fieldLink RX8 67 "StageDeskModel" "handled" "[I", Cond.fieldLink RX8 70 "StageDeskModel" "stood" "[I", Cond.fieldLink RX8 18 "StageDeskModel" "done" "[I", Cond.fieldLink RX8 187 "StageDeskModel" "ended" "I", Cond.fieldLink RX8 79 "StageDeskModel" "timeCount" "[I", Cond.fieldLink RX8 82 "StageDeskModel" "times" "[I", Cond.methodLink RX8 208 yX8_control, Cond.instanceMethod yX8_control, Cond.selects RX8 yX8_control yX8_control, Cond.code yX8_control cX8_control 3 none, Cond.fieldLink RX8 51 "StageDeskModel" "caps" "[I", Cond.fieldLink RX8 45 "StageDeskModel" "goals" "[I", Cond.methodLink RX8 199 yX8_response]
def wsX8_oneTick_r5 : List Cond := [Cond.instanceMethod yX8_response, Cond.selects RX8 yX8_response yX8_response, Cond.code yX8_response cX8_response 6 (some .int), Cond.fieldLink RX8 85 "StageDeskModel" "sorted" "[I"]
def wsX8_oneTick : List Cond := .code yX8_oneTick cX8_oneTick 3 none :: ((wsX8_oneTick_r1 ++ (wsX8_oneTick_r2 ++ (wsX8_oneTick_r3 ++ (wsX8_oneTick_r4 ++ wsX8_oneTick_r5)))) ++ wsX80)
def wsX8_tick_r1 : List Cond := [Cond.fieldLink RX8 163 "StageDeskModel" "clock" "I", Cond.methodLink RX8 140 yX8_in, Cond.static yX8_in, Cond.initialized RX8, Cond.code yX8_in cX8_in 3 (some .boolean), Cond.methodLink RX8 211 yX8_oneTick, Cond.instanceMethod yX8_oneTick, Cond.selects RX8 yX8_oneTick yX8_oneTick, Cond.code yX8_oneTick cX8_oneTick 3 none, Cond.fieldLink RX8 136 "StageDeskModel" "stages" "I", Cond.fieldLink RX8 36 "StageDeskModel" "tokens" "[I", Cond.fieldLink RX8 42 "StageDeskModel" "rates" "[I", Cond.fieldLink RX8 39 "StageDeskModel" "depths" "[I", Cond.fieldLink RX8 48 "StageDeskModel" "workers" "[I", Cond.methodLink RX8 202 yX8_ring, Cond.instanceMethod yX8_ring, Cond.selects RX8 yX8_ring yX8_ring, Cond.code yX8_ring cX8_ring 4 none, Cond.fieldLink RX8 170 "StageDeskModel" "timersWait" "I", Cond.fieldLink RX8 133 "StageDeskModel" "timerAt" "[I", Cond.fieldLink RX8 127 "StageDeskModel" "timerStage" "[I", Cond.fieldLink RX8 130 "StageDeskModel" "timerValue" "[I", Cond.fieldLink RX8 180 "StageDeskModel" "lost" "I", Cond.methodLink RX8 166 yX8_make]
def wsX8_tick_r2 : List Cond := [Cond.instanceMethod yX8_make, Cond.selects RX8 yX8_make yX8_make, Cond.code yX8_make cX8_make 3 (some .int), Cond.fieldLink RX8 8 "StageDeskModel" "values" "[I", Cond.fieldLink RX8 148 "StageDeskModel" "events" "I", Cond.fieldLink RX8 14 "StageDeskModel" "births" "[I", Cond.methodLink RX8 176 yX8_forgetTimer, Cond.instanceMethod yX8_forgetTimer, Cond.selects RX8 yX8_forgetTimer yX8_forgetTimer, Cond.code yX8_forgetTimer cX8_forgetTimer 3 none, Cond.fieldLink RX8 124 "StageDeskModel" "timerNumber" "[I", Cond.methodLink RX8 159 yX8_offer, Cond.instanceMethod yX8_offer, Cond.selects RX8 yX8_offer yX8_offer, Cond.code yX8_offer cX8_offer 3 (some .boolean), Cond.fieldLink RX8 64 "StageDeskModel" "refusals" "[I", Cond.methodLink RX8 151 yX8_refusal, Cond.instanceMethod yX8_refusal, Cond.selects RX8 yX8_refusal yX8_refusal, Cond.code yX8_refusal cX8_refusal 2 (some .int), Cond.fieldLink RX8 60 "StageDeskModel" "shut" "[Z", Cond.fieldLink RX8 73 "StageDeskModel" "waiting" "[I", Cond.fieldLink RX8 33 "StageDeskModel" "reserved" "[I", Cond.fieldLink RX8 30 "StageDeskModel" "bounds" "[I"]
def wsX8_tick_r3 : List Cond := [Cond.methodLink RX8 155 yX8_stand, Cond.instanceMethod yX8_stand, Cond.selects RX8 yX8_stand yX8_stand, Cond.code yX8_stand cX8_stand 3 none, Cond.fieldLink RX8 76 "StageDeskModel" "queue" "[I", Cond.methodLink RX8 205 yX8_work, Cond.instanceMethod yX8_work, Cond.selects RX8 yX8_work yX8_work, Cond.code yX8_work cX8_work 5 none, Cond.fieldLink RX8 88 "StageDeskModel" "size" "[I", Cond.fieldLink RX8 94 "StageDeskModel" "rest" "[I", Cond.fieldLink RX8 54 "StageDeskModel" "batches" "[I", Cond.fieldLink RX8 91 "StageDeskModel" "batch" "[I", Cond.fieldLink RX8 57 "StageDeskModel" "costs" "[I", Cond.fieldLink RX8 118 "StageDeskModel" "idle" "[I", Cond.fieldLink RX8 121 "StageDeskModel" "there" "[I", Cond.methodLink RX8 190 yX8_give, Cond.instanceMethod yX8_give, Cond.selects RX8 yX8_give yX8_give, Cond.code yX8_give cX8_give 5 none, Cond.fieldLink RX8 97 "StageDeskModel" "offers" "[Z", Cond.fieldLink RX8 103 "StageDeskModel" "given" "[I", Cond.fieldLink RX8 100 "StageDeskModel" "gifts" "[I", Cond.fieldLink RX8 115 "StageDeskModel" "giftEvent" "[I"]
def wsX8_tick_r4 : List Cond := [Cond.fieldLink RX8 106 "StageDeskModel" "giftValue" "[I", Cond.fieldLink RX8 109 "StageDeskModel" "giftBirth" "[I", Cond.fieldLink RX8 112 "StageDeskModel" "giftTo" "[I", Cond.methodLink RX8 193 yX8_listGifts, Cond.instanceMethod yX8_listGifts, Cond.selects RX8 yX8_listGifts yX8_listGifts, Cond.code yX8_listGifts cX8_listGifts 7 none, Cond.fieldLink RX8 21 "StageDeskModel" "sorts" "[I", Cond.fieldLink RX8 24 "StageDeskModel" "first" "[I", Cond.fieldLink RX8 27 "StageDeskModel" "second" "[I", Cond.methodLink RX8 183 yX8_gift, Cond.instanceMethod yX8_gift, Cond.selects RX8 yX8_gift yX8_gift, Cond.code yX8_gift cX8_gift 6 none, Cond.methodLink RX8 196 yX8_finish, Cond.instanceMethod yX8_finish, Cond.selects RX8 yX8_finish yX8_finish, Cond.code yX8_finish cX8_finish 6 none, Cond.fieldLink RX8 67 "StageDeskModel" "handled" "[I", Cond.fieldLink RX8 70 "StageDeskModel" "stood" "[I", Cond.fieldLink RX8 18 "StageDeskModel" "done" "[I", Cond.fieldLink RX8 187 "StageDeskModel" "ended" "I", Cond.fieldLink RX8 79 "StageDeskModel" "timeCount" "[I", Cond.fieldLink RX8 82 "StageDeskModel" "times" "[I"]
def wsX8_tick_r5 : List Cond := [Cond.methodLink RX8 208 yX8_control, Cond.instanceMethod yX8_control, Cond.selects RX8 yX8_control yX8_control, Cond.code yX8_control cX8_control 3 none, Cond.fieldLink RX8 51 "StageDeskModel" "caps" "[I", Cond.fieldLink RX8 45 "StageDeskModel" "goals" "[I", Cond.methodLink RX8 199 yX8_response, Cond.instanceMethod yX8_response, Cond.selects RX8 yX8_response yX8_response, Cond.code yX8_response cX8_response 6 (some .int), Cond.fieldLink RX8 85 "StageDeskModel" "sorted" "[I"]
def wsX8_tick : List Cond := .code yX8_tick cX8_tick 3 (some .int) :: ((wsX8_tick_r1 ++ (wsX8_tick_r2 ++ (wsX8_tick_r3 ++ (wsX8_tick_r4 ++ wsX8_tick_r5)))) ++ wsX80)
def wsX8_told : List Cond := .code yX8_told cX8_told 3 (some .int) :: ([.fieldLink RX8 73 "StageDeskModel" "waiting" "[I", .fieldLink RX8 33 "StageDeskModel" "reserved" "[I", .fieldLink RX8 48 "StageDeskModel" "workers" "[I", .fieldLink RX8 54 "StageDeskModel" "batches" "[I", .fieldLink RX8 42 "StageDeskModel" "rates" "[I", .fieldLink RX8 36 "StageDeskModel" "tokens" "[I", .fieldLink RX8 64 "StageDeskModel" "refusals" "[I", .fieldLink RX8 67 "StageDeskModel" "handled" "[I", .fieldLink RX8 70 "StageDeskModel" "stood" "[I", .methodLink RX8 144 yX8_isStage, .instanceMethod yX8_isStage, .selects RX8 yX8_isStage yX8_isStage, .initialized RX8, .code yX8_isStage cX8_isStage 2 (some .boolean), .fieldLink RX8 136 "StageDeskModel" "stages" "I", .methodLink RX8 199 yX8_response, .instanceMethod yX8_response, .selects RX8 yX8_response yX8_response, .code yX8_response cX8_response 6 (some .int), .fieldLink RX8 79 "StageDeskModel" "timeCount" "[I", .fieldLink RX8 82 "StageDeskModel" "times" "[I", .fieldLink RX8 85 "StageDeskModel" "sorted" "[I"] ++ wsX80)
def wsX8_queued : List Cond := .code yX8_queued cX8_queued 3 (some .int) :: ([.fieldLink RX8 73 "StageDeskModel" "waiting" "[I", .fieldLink RX8 76 "StageDeskModel" "queue" "[I", .methodLink RX8 144 yX8_isStage, .instanceMethod yX8_isStage, .selects RX8 yX8_isStage yX8_isStage, .initialized RX8, .code yX8_isStage cX8_isStage 2 (some .boolean), .fieldLink RX8 136 "StageDeskModel" "stages" "I"] ++ wsX80)
def wsX8_worker : List Cond := .code yX8_worker cX8_worker 5 (some .int) :: ([.fieldLink RX8 48 "StageDeskModel" "workers" "[I", .fieldLink RX8 88 "StageDeskModel" "size" "[I", .fieldLink RX8 94 "StageDeskModel" "rest" "[I", .fieldLink RX8 97 "StageDeskModel" "offers" "[Z", .fieldLink RX8 100 "StageDeskModel" "gifts" "[I", .fieldLink RX8 103 "StageDeskModel" "given" "[I", .methodLink RX8 144 yX8_isStage, .instanceMethod yX8_isStage, .selects RX8 yX8_isStage yX8_isStage, .initialized RX8, .code yX8_isStage cX8_isStage 2 (some .boolean), .fieldLink RX8 136 "StageDeskModel" "stages" "I"] ++ wsX80)
def wsX8_done : List Cond := .code yX8_done cX8_done 2 (some .int) :: ([.fieldLink RX8 187 "StageDeskModel" "ended" "I", .fieldLink RX8 18 "StageDeskModel" "done" "[I"] ++ wsX80)
def wsX8_value : List Cond := .code yX8_value cX8_value 2 (some .int) :: ([.fieldLink RX8 187 "StageDeskModel" "ended" "I", .fieldLink RX8 8 "StageDeskModel" "values" "[I", .fieldLink RX8 18 "StageDeskModel" "done" "[I"] ++ wsX80)
def wsX8_events : List Cond := .code yX8_events cX8_events 1 (some .int) :: ([.fieldLink RX8 148 "StageDeskModel" "events" "I"] ++ wsX80)
def wsX8_ended : List Cond := .code yX8_ended cX8_ended 1 (some .int) :: ([.fieldLink RX8 187 "StageDeskModel" "ended" "I"] ++ wsX80)
def wsX8_lost : List Cond := .code yX8_lost cX8_lost 1 (some .int) :: ([.fieldLink RX8 180 "StageDeskModel" "lost" "I"] ++ wsX80)
def wsX8_clock : List Cond := .code yX8_clock cX8_clock 1 (some .int) :: ([.fieldLink RX8 163 "StageDeskModel" "clock" "I"] ++ wsX80)
def wsJ9_max_7cf53 : List Cond := .code yJ9_max_7cf53 cJ9_max_7cf53 2 (some .int) :: ([])
def wsJ9_min_7cf53 : List Cond := .code yJ9_min_7cf53 cJ9_min_7cf53 2 (some .int) :: ([])
def wsL_law_r1 : List Cond := [Cond.classLink RL 7 RX7, Cond.instantiable RX7 7, Cond.initialized RX7, Cond.classLink RL 10 RX8, Cond.instantiable RX8 48, Cond.initialized RX8, Cond.methodLink RL 9 yX7_init, Cond.instanceMethod yX7_init, Cond.code yX7_init cX7_init 1 none, Cond.methodLink RX7 3 objectInit, Cond.instanceMethod objectInit, Cond.code objectInit ⟨#[0xb1]⟩ 1 none, Cond.classLink RX7 9 RX3, Cond.fieldLink RX7 11 "StageDesk" "stages" "[LStageDesk$Stage;", Cond.classLink RX7 15 RX4, Cond.instantiable RX4 6, Cond.initialized RX4, Cond.fieldLink RX7 18 "StageDesk" "timers" "LStageDesk$Timers;", Cond.classLink RX7 22 RX0, Cond.instantiable RX0 3, Cond.initialized RX0, Cond.fieldLink RX7 25 "StageDesk" "doneRow" "LStageDesk$DoneRow;", Cond.instanceMethod yX4_init, Cond.code yX4_init cX4_init 1 none]
def wsL_law_r2 : List Cond := [Cond.methodLink RX4 3 objectInit, Cond.arrayClass .int, Cond.fieldLink RX4 9 "StageDesk$Timers" "numbers" "[I", Cond.classLink RX4 15 RX3, Cond.fieldLink RX4 17 "StageDesk$Timers" "stages" "[LStageDesk$Stage;", Cond.fieldLink RX4 21 "StageDesk$Timers" "values" "[I", Cond.fieldLink RX4 24 "StageDesk$Timers" "dues" "[I", Cond.instanceMethod yX0_init, Cond.code yX0_init cX0_init 1 none, Cond.methodLink RX0 1 objectInit, Cond.fieldLink RX0 7 "StageDesk$DoneRow" "numbers" "[I", Cond.fieldLink RX0 13 "StageDesk$DoneRow" "values" "[I", Cond.methodLink RL 12 yX8_init, Cond.instanceMethod yX8_init, Cond.code yX8_init cX8_init 1 none, Cond.methodLink RX8 1 objectInit, Cond.constant RX8 7 (124000), Cond.fieldLink RX8 8 "StageDeskModel" "values" "[I", Cond.fieldLink RX8 14 "StageDeskModel" "births" "[I", Cond.constant RX8 17 (103000), Cond.fieldLink RX8 18 "StageDeskModel" "done" "[I", Cond.fieldLink RX8 21 "StageDeskModel" "sorts" "[I", Cond.fieldLink RX8 24 "StageDeskModel" "first" "[I", Cond.fieldLink RX8 27 "StageDeskModel" "second" "[I"]
def wsL_law_r3 : List Cond := [Cond.fieldLink RX8 30 "StageDeskModel" "bounds" "[I", Cond.fieldLink RX8 33 "StageDeskModel" "reserved" "[I", Cond.fieldLink RX8 36 "StageDeskModel" "tokens" "[I", Cond.fieldLink RX8 39 "StageDeskModel" "depths" "[I", Cond.fieldLink RX8 42 "StageDeskModel" "rates" "[I", Cond.fieldLink RX8 45 "StageDeskModel" "goals" "[I", Cond.fieldLink RX8 48 "StageDeskModel" "workers" "[I", Cond.fieldLink RX8 51 "StageDeskModel" "caps" "[I", Cond.fieldLink RX8 54 "StageDeskModel" "batches" "[I", Cond.fieldLink RX8 57 "StageDeskModel" "costs" "[I", Cond.arrayClass .boolean, Cond.fieldLink RX8 60 "StageDeskModel" "shut" "[Z", Cond.fieldLink RX8 64 "StageDeskModel" "refusals" "[I", Cond.fieldLink RX8 67 "StageDeskModel" "handled" "[I", Cond.fieldLink RX8 70 "StageDeskModel" "stood" "[I", Cond.fieldLink RX8 73 "StageDeskModel" "waiting" "[I", Cond.fieldLink RX8 76 "StageDeskModel" "queue" "[I", Cond.fieldLink RX8 79 "StageDeskModel" "timeCount" "[I", Cond.fieldLink RX8 82 "StageDeskModel" "times" "[I", Cond.fieldLink RX8 85 "StageDeskModel" "sorted" "[I", Cond.fieldLink RX8 88 "StageDeskModel" "size" "[I", Cond.fieldLink RX8 91 "StageDeskModel" "batch" "[I", Cond.fieldLink RX8 94 "StageDeskModel" "rest" "[I", Cond.fieldLink RX8 97 "StageDeskModel" "offers" "[Z"]
def wsL_law_r4 : List Cond := [Cond.fieldLink RX8 100 "StageDeskModel" "gifts" "[I", Cond.fieldLink RX8 103 "StageDeskModel" "given" "[I", Cond.fieldLink RX8 106 "StageDeskModel" "giftValue" "[I", Cond.fieldLink RX8 109 "StageDeskModel" "giftBirth" "[I", Cond.fieldLink RX8 112 "StageDeskModel" "giftTo" "[I", Cond.fieldLink RX8 115 "StageDeskModel" "giftEvent" "[I", Cond.fieldLink RX8 118 "StageDeskModel" "idle" "[I", Cond.fieldLink RX8 121 "StageDeskModel" "there" "[I", Cond.fieldLink RX8 124 "StageDeskModel" "timerNumber" "[I", Cond.fieldLink RX8 127 "StageDeskModel" "timerStage" "[I", Cond.fieldLink RX8 130 "StageDeskModel" "timerValue" "[I", Cond.fieldLink RX8 133 "StageDeskModel" "timerAt" "[I", Cond.methodLink RL 13 yX7_stage, Cond.instanceMethod yX7_stage, Cond.selects RX7 yX7_stage yX7_stage, Cond.code yX7_stage cX7_stage 5 (some .int), Cond.fieldLink RX7 33 "StageDesk" "stageCount" "I", Cond.instantiable RX3 19, Cond.initialized RX3, Cond.methodLink RX7 29 yX7_within, Cond.static yX7_within, Cond.code yX7_within cX7_within 3 (some .boolean), Cond.methodLink RX7 37 yX3_init, Cond.instanceMethod yX3_init]
def wsL_law_r5 : List Cond := [Cond.code yX3_init cX3_init 6 none, Cond.methodLink RX3 3 objectInit, Cond.classLink RX3 9 RX5, Cond.instantiable RX5 3, Cond.initialized RX5, Cond.fieldLink RX3 12 "StageDesk$Stage" "times" "LStageDesk$Times;", Cond.fieldLink RX3 18 "StageDesk$Stage" "rate" "I", Cond.fieldLink RX3 22 "StageDesk$Stage" "depth" "I", Cond.fieldLink RX3 25 "StageDesk$Stage" "tokens" "I", Cond.fieldLink RX3 28 "StageDesk$Stage" "workerCount" "I", Cond.fieldLink RX3 31 "StageDesk$Stage" "batchSize" "I", Cond.fieldLink RX3 34 "StageDesk$Stage" "sort" "I", Cond.fieldLink RX3 37 "StageDesk$Stage" "bound" "I", Cond.fieldLink RX3 40 "StageDesk$Stage" "cost" "I", Cond.classLink RX3 43 RX1, Cond.instantiable RX1 4, Cond.initialized RX1, Cond.fieldLink RX3 48 "StageDesk$Stage" "queue" "LStageDesk$EventRow;", Cond.classLink RX3 52 RX6, Cond.fieldLink RX3 54 "StageDesk$Stage" "workers" "[LStageDesk$Worker;", Cond.instantiable RX6 5, Cond.initialized RX6, Cond.instanceMethod yX5_init, Cond.code yX5_init cX5_init 1 none]
def wsL_law_r6 : List Cond := [Cond.methodLink RX5 3 objectInit, Cond.fieldLink RX5 9 "StageDesk$Times" "kept" "[I", Cond.fieldLink RX5 15 "StageDesk$Times" "sorted" "[I", Cond.methodLink RX3 45 yX1_init, Cond.instanceMethod yX1_init, Cond.code yX1_init cX1_init 2 none, Cond.methodLink RX1 1 objectInit, Cond.fieldLink RX1 7 "StageDesk$EventRow" "numbers" "[I", Cond.fieldLink RX1 13 "StageDesk$EventRow" "values" "[I", Cond.fieldLink RX1 16 "StageDesk$EventRow" "births" "[I", Cond.instanceMethod yX6_init, Cond.code yX6_init cX6_init 1 none, Cond.methodLink RX6 3 objectInit, Cond.classLink RX6 9 RX1, Cond.fieldLink RX6 14 "StageDesk$Worker" "batch" "LStageDesk$EventRow;", Cond.classLink RX6 20 RX2, Cond.instantiable RX2 6, Cond.initialized RX2, Cond.fieldLink RX6 23 "StageDesk$Worker" "gifts" "LStageDesk$Gifts;", Cond.methodLink RX6 11 yX1_init, Cond.instanceMethod yX2_init, Cond.code yX2_init cX2_init 1 none, Cond.methodLink RX2 3 objectInit, Cond.classLink RX2 9 RX3]
def wsL_law_r7 : List Cond := [Cond.fieldLink RX2 11 "StageDesk$Gifts" "targets" "[LStageDesk$Stage;", Cond.fieldLink RX2 17 "StageDesk$Gifts" "values" "[I", Cond.fieldLink RX2 21 "StageDesk$Gifts" "births" "[I", Cond.fieldLink RX2 24 "StageDesk$Gifts" "number" "I", Cond.methodLink RL 17 yX8_stage, Cond.instanceMethod yX8_stage, Cond.selects RX8 yX8_stage yX8_stage, Cond.code yX8_stage cX8_stage 6 (some .int), Cond.fieldLink RX8 136 "StageDeskModel" "stages" "I", Cond.methodLink RX8 140 yX8_in, Cond.static yX8_in, Cond.code yX8_in cX8_in 3 (some .boolean), Cond.methodLink RL 18 yX7_targets, Cond.instanceMethod yX7_targets, Cond.selects RX7 yX7_targets yX7_targets, Cond.code yX7_targets cX7_targets 5 (some .int), Cond.fieldLink RX7 48 "StageDesk$Stage" "first" "LStageDesk$Stage;", Cond.fieldLink RX7 52 "StageDesk$Stage" "second" "LStageDesk$Stage;", Cond.methodLink RX7 40 yX7_stageAt, Cond.instanceMethod yX7_stageAt, Cond.selects RX7 yX7_stageAt yX7_stageAt, Cond.code yX7_stageAt cX7_stageAt 2 (some (.object "StageDesk$Stage")), Cond.methodLink RX7 44 yX7_isTarget, Cond.instanceMethod yX7_isTarget]
def wsL_law_r8 : List Cond := [Cond.selects RX7 yX7_isTarget yX7_isTarget, Cond.code yX7_isTarget cX7_isTarget 2 (some .boolean), Cond.methodLink RL 22 yX8_targets, Cond.instanceMethod yX8_targets, Cond.selects RX8 yX8_targets yX8_targets, Cond.code yX8_targets cX8_targets 4 (some .int), Cond.methodLink RX8 144 yX8_isStage, Cond.instanceMethod yX8_isStage, Cond.selects RX8 yX8_isStage yX8_isStage, Cond.code yX8_isStage cX8_isStage 2 (some .boolean), Cond.methodLink RL 23 yX7_admit, Cond.instanceMethod yX7_admit, Cond.selects RX7 yX7_admit yX7_admit, Cond.code yX7_admit cX7_admit 6 (some .int), Cond.fieldLink RX7 55 "StageDesk$Stage" "rate" "I", Cond.fieldLink RX7 58 "StageDesk$Stage" "depth" "I", Cond.fieldLink RX7 61 "StageDesk$Stage" "goal" "I", Cond.fieldLink RX7 64 "StageDesk$Stage" "tokens" "I", Cond.methodLink RX7 67 Lib.Math.min.name, Cond.static Lib.Math.min.name, Cond.initialized "java/lang/Math", Cond.code Lib.Math.min.name Lib.Math.min.code 2 (some .int), Cond.methodLink RL 26 yX8_admit, Cond.instanceMethod yX8_admit]
def wsL_law_r9 : List Cond := [Cond.selects RX8 yX8_admit yX8_admit, Cond.code yX8_admit cX8_admit 5 (some .int), Cond.methodLink RL 27 yX7_put, Cond.instanceMethod yX7_put, Cond.selects RX7 yX7_put yX7_put, Cond.code yX7_put cX7_put 6 (some .int), Cond.fieldLink RX7 80 "StageDesk" "now" "I", Cond.methodLink RX7 73 yX3_ask, Cond.instanceMethod yX3_ask, Cond.selects RX3 yX3_ask yX3_ask, Cond.code yX3_ask cX3_ask 2 (some .int), Cond.fieldLink RX3 65 "StageDesk$Stage" "closed" "Z", Cond.fieldLink RX3 73 "StageDesk$Stage" "refusals" "I", Cond.methodLink RX3 69 yX3_freePlaces, Cond.instanceMethod yX3_freePlaces, Cond.selects RX3 yX3_freePlaces yX3_freePlaces, Cond.code yX3_freePlaces cX3_freePlaces 1 (some .int), Cond.fieldLink RX3 59 "StageDesk$EventRow" "size" "I", Cond.fieldLink RX3 62 "StageDesk$Stage" "reserved" "I", Cond.methodLink RX7 77 yX7_makeEvent, Cond.instanceMethod yX7_makeEvent, Cond.selects RX7 yX7_makeEvent yX7_makeEvent, Cond.code yX7_makeEvent cX7_makeEvent 1 (some .int), Cond.fieldLink RX7 97 "StageDesk" "made" "I"]
def wsL_law_r10 : List Cond := [Cond.methodLink RX7 83 yX3_take, Cond.instanceMethod yX3_take, Cond.selects RX3 yX3_take yX3_take, Cond.code yX3_take cX3_take 4 none, Cond.methodLink RX3 76 yX1_append, Cond.instanceMethod yX1_append, Cond.selects RX1 yX1_append yX1_append, Cond.code yX1_append cX1_append 4 none, Cond.fieldLink RX1 19 "StageDesk$EventRow" "size" "I", Cond.methodLink RL 31 yX8_put, Cond.instanceMethod yX8_put, Cond.selects RX8 yX8_put yX8_put, Cond.code yX8_put cX8_put 5 (some .int), Cond.fieldLink RX8 148 "StageDeskModel" "events" "I", Cond.fieldLink RX8 163 "StageDeskModel" "clock" "I", Cond.methodLink RX8 151 yX8_refusal, Cond.instanceMethod yX8_refusal, Cond.selects RX8 yX8_refusal yX8_refusal, Cond.code yX8_refusal cX8_refusal 2 (some .int), Cond.methodLink RX8 159 yX8_offer, Cond.instanceMethod yX8_offer, Cond.selects RX8 yX8_offer yX8_offer, Cond.code yX8_offer cX8_offer 3 (some .boolean), Cond.methodLink RX8 155 yX8_stand]
def wsL_law_r11 : List Cond := [Cond.instanceMethod yX8_stand, Cond.selects RX8 yX8_stand yX8_stand, Cond.code yX8_stand cX8_stand 3 none, Cond.methodLink RX8 166 yX8_make, Cond.instanceMethod yX8_make, Cond.selects RX8 yX8_make yX8_make, Cond.code yX8_make cX8_make 3 (some .int), Cond.methodLink RL 32 yX7_prepare, Cond.instanceMethod yX7_prepare, Cond.selects RX7 yX7_prepare yX7_prepare, Cond.code yX7_prepare cX7_prepare 4 (some .int), Cond.fieldLink RX7 87 "StageDesk$Stage" "closed" "Z", Cond.fieldLink RX7 94 "StageDesk$Stage" "reserved" "I", Cond.methodLink RX7 91 yX3_freePlaces, Cond.methodLink RL 35 yX8_prepare, Cond.instanceMethod yX8_prepare, Cond.selects RX8 yX8_prepare yX8_prepare, Cond.code yX8_prepare cX8_prepare 3 (some .int), Cond.methodLink RL 36 yX7_commit, Cond.instanceMethod yX7_commit, Cond.selects RX7 yX7_commit yX7_commit, Cond.code yX7_commit cX7_commit 6 (some .int), Cond.fieldLink RX7 100 "StageDesk$Stage" "queue" "LStageDesk$EventRow;", Cond.methodLink RX7 104 yX1_append]
def wsL_law_r12 : List Cond := [Cond.methodLink RL 39 yX8_commit, Cond.instanceMethod yX8_commit, Cond.selects RX8 yX8_commit yX8_commit, Cond.code yX8_commit cX8_commit 4 (some .int), Cond.methodLink RL 40 yX7_abort, Cond.instanceMethod yX7_abort, Cond.selects RX7 yX7_abort yX7_abort, Cond.code yX7_abort cX7_abort 4 (some .int), Cond.methodLink RL 44 yX8_abort, Cond.instanceMethod yX8_abort, Cond.selects RX8 yX8_abort yX8_abort, Cond.code yX8_abort cX8_abort 3 (some .int), Cond.methodLink RL 45 yX7_timer, Cond.instanceMethod yX7_timer, Cond.selects RX7 yX7_timer yX7_timer, Cond.code yX7_timer cX7_timer 5 (some .int), Cond.methodLink RX7 109 yX4_append, Cond.instanceMethod yX4_append, Cond.selects RX4 yX4_append yX4_append, Cond.code yX4_append cX4_append 4 (some .int), Cond.fieldLink RX4 27 "StageDesk$Timers" "size" "I", Cond.fieldLink RX4 31 "StageDesk$Timers" "set" "I", Cond.methodLink RL 48 yX8_timer, Cond.instanceMethod yX8_timer]
def wsL_law_r13 : List Cond := [Cond.selects RX8 yX8_timer yX8_timer, Cond.code yX8_timer cX8_timer 4 (some .int), Cond.fieldLink RX8 170 "StageDeskModel" "timersWait" "I", Cond.fieldLink RX8 173 "StageDeskModel" "timers" "I", Cond.methodLink RL 49 yX7_cancel, Cond.instanceMethod yX7_cancel, Cond.selects RX7 yX7_cancel yX7_cancel, Cond.code yX7_cancel cX7_cancel 2 (some .int), Cond.methodLink RX7 112 yX4_remove, Cond.instanceMethod yX4_remove, Cond.selects RX4 yX4_remove yX4_remove, Cond.code yX4_remove cX4_remove 4 (some .boolean), Cond.methodLink RX4 34 yX4_move, Cond.instanceMethod yX4_move, Cond.selects RX4 yX4_move yX4_move, Cond.code yX4_move cX4_move 3 none, Cond.methodLink RL 52 yX8_cancel, Cond.instanceMethod yX8_cancel, Cond.selects RX8 yX8_cancel yX8_cancel, Cond.code yX8_cancel cX8_cancel 3 (some .int), Cond.methodLink RX8 176 yX8_forgetTimer, Cond.instanceMethod yX8_forgetTimer, Cond.selects RX8 yX8_forgetTimer yX8_forgetTimer, Cond.code yX8_forgetTimer cX8_forgetTimer 3 none]
def wsL_law_r14 : List Cond := [Cond.methodLink RL 53 yX7_close, Cond.instanceMethod yX7_close, Cond.selects RX7 yX7_close yX7_close, Cond.code yX7_close cX7_close 3 (some .int), Cond.methodLink RL 56 yX8_close, Cond.instanceMethod yX8_close, Cond.selects RX8 yX8_close yX8_close, Cond.code yX8_close cX8_close 2 (some .int), Cond.methodLink RL 57 yX7_tick, Cond.instanceMethod yX7_tick, Cond.selects RX7 yX7_tick yX7_tick, Cond.code yX7_tick cX7_tick 3 (some .int), Cond.methodLink RX7 115 yX7_passTick, Cond.instanceMethod yX7_passTick, Cond.selects RX7 yX7_passTick yX7_passTick, Cond.code yX7_passTick cX7_passTick 4 none, Cond.fieldLink RX7 129 "StageDesk$Stage" "workerCount" "I", Cond.fieldLink RX7 132 "StageDesk$Stage" "workers" "[LStageDesk$Worker;", Cond.methodLink RX7 147 yX3_growTokens, Cond.instanceMethod yX3_growTokens, Cond.selects RX3 yX3_growTokens yX3_growTokens, Cond.code yX3_growTokens cX3_growTokens 1 none, Cond.methodLink RX3 80 Lib.Math.min.name, Cond.methodLink RX7 150 yX7_fireTimers]
def wsL_law_r15 : List Cond := [Cond.instanceMethod yX7_fireTimers, Cond.selects RX7 yX7_fireTimers yX7_fireTimers, Cond.code yX7_fireTimers cX7_fireTimers 3 none, Cond.fieldLink RX7 160 "StageDesk$Timers" "size" "I", Cond.fieldLink RX7 161 "StageDesk$Timers" "dues" "[I", Cond.fieldLink RX7 164 "StageDesk$Timers" "stages" "[LStageDesk$Stage;", Cond.fieldLink RX7 165 "StageDesk$Timers" "values" "[I", Cond.methodLink RX7 166 yX7_fire, Cond.instanceMethod yX7_fire, Cond.selects RX7 yX7_fire yX7_fire, Cond.code yX7_fire cX7_fire 4 none, Cond.fieldLink RX7 144 "StageDesk" "lostCount" "I", Cond.methodLink RX7 170 yX4_move, Cond.methodLink RX7 153 yX7_letWork, Cond.instanceMethod yX7_letWork, Cond.selects RX7 yX7_letWork yX7_letWork, Cond.code yX7_letWork cX7_letWork 3 none, Cond.fieldLink RX7 174 "StageDesk$Worker" "batch" "LStageDesk$EventRow;", Cond.fieldLink RX7 122 "StageDesk$EventRow" "size" "I", Cond.fieldLink RX7 184 "StageDesk$Worker" "idleTicks" "I", Cond.methodLink RX7 177 yX7_workOnBatch, Cond.instanceMethod yX7_workOnBatch, Cond.selects RX7 yX7_workOnBatch yX7_workOnBatch, Cond.code yX7_workOnBatch cX7_workOnBatch 3 none]
def wsL_law_r16 : List Cond := [Cond.fieldLink RX7 187 "StageDesk$Worker" "rest" "I", Cond.fieldLink RX7 190 "StageDesk$Worker" "giving" "Z", Cond.fieldLink RX7 196 "StageDesk$Worker" "gifts" "LStageDesk$Gifts;", Cond.methodLink RX7 193 yX3_collectGifts, Cond.instanceMethod yX3_collectGifts, Cond.selects RX3 yX3_collectGifts yX3_collectGifts, Cond.code yX3_collectGifts cX3_collectGifts 3 none, Cond.fieldLink RX3 86 "StageDesk$Worker" "batch" "LStageDesk$EventRow;", Cond.fieldLink RX3 100 "StageDesk$EventRow" "values" "[I", Cond.fieldLink RX3 104 "StageDesk$EventRow" "births" "[I", Cond.fieldLink RX3 107 "StageDesk$Worker" "gifts" "LStageDesk$Gifts;", Cond.methodLink RX3 96 yX3_collectSum, Cond.instanceMethod yX3_collectSum, Cond.selects RX3 yX3_collectSum yX3_collectSum, Cond.code yX3_collectSum cX3_collectSum 4 none, Cond.fieldLink RX3 115 "StageDesk$Stage" "first" "LStageDesk$Stage;", Cond.methodLink RX3 119 yX2_append, Cond.instanceMethod yX2_append, Cond.selects RX2 yX2_append yX2_append, Cond.code yX2_append cX2_append 4 none, Cond.fieldLink RX2 28 "StageDesk$Gifts" "size" "I", Cond.methodLink RX3 111 yX3_collectFrom, Cond.instanceMethod yX3_collectFrom, Cond.selects RX3 yX3_collectFrom yX3_collectFrom]
def wsL_law_r17 : List Cond := [Cond.code yX3_collectFrom cX3_collectFrom 4 none, Cond.fieldLink RX3 124 "StageDesk$Stage" "second" "LStageDesk$Stage;", Cond.methodLink RX7 200 yX7_offerGifts, Cond.instanceMethod yX7_offerGifts, Cond.selects RX7 yX7_offerGifts yX7_offerGifts, Cond.code yX7_offerGifts cX7_offerGifts 3 (some .boolean), Cond.fieldLink RX7 207 "StageDesk$Gifts" "next" "I", Cond.fieldLink RX7 212 "StageDesk$Gifts" "size" "I", Cond.fieldLink RX7 213 "StageDesk$Gifts" "number" "I", Cond.fieldLink RX7 216 "StageDesk$Gifts" "targets" "[LStageDesk$Stage;", Cond.fieldLink RX7 219 "StageDesk$Gifts" "values" "[I", Cond.fieldLink RX7 220 "StageDesk$Gifts" "births" "[I", Cond.methodLink RX7 204 yX7_finishBatch, Cond.instanceMethod yX7_finishBatch, Cond.selects RX7 yX7_finishBatch yX7_finishBatch, Cond.code yX7_finishBatch cX7_finishBatch 5 none, Cond.fieldLink RX7 223 "StageDesk$Stage" "batchesHandled" "I", Cond.fieldLink RX7 226 "StageDesk$Stage" "eventsHandled" "I", Cond.fieldLink RX7 229 "StageDesk$Stage" "sort" "I", Cond.fieldLink RX7 232 "StageDesk$Stage" "times" "LStageDesk$Times;", Cond.fieldLink RX7 236 "StageDesk$EventRow" "births" "[I", Cond.fieldLink RX7 125 "StageDesk$EventRow" "numbers" "[I", Cond.fieldLink RX7 242 "StageDesk$EventRow" "values" "[I", Cond.methodLink RX7 237 yX5_append]
def wsL_law_r18 : List Cond := [Cond.instanceMethod yX5_append, Cond.selects RX5 yX5_append yX5_append, Cond.code yX5_append cX5_append 2 none, Cond.fieldLink RX5 18 "StageDesk$Times" "size" "I", Cond.methodLink RX5 22 arraycopyName, Cond.native arraycopyName, Cond.static arraycopyName, Cond.initialized "java/lang/System", Cond.methodLink RX7 243 yX0_append, Cond.instanceMethod yX0_append, Cond.selects RX0 yX0_append yX0_append, Cond.code yX0_append cX0_append 3 none, Cond.fieldLink RX0 16 "StageDesk$DoneRow" "size" "I", Cond.methodLink RX0 20 yJ7_copyOf_59c91, Cond.static yJ7_copyOf_59c91, Cond.initialized RJ7, Cond.code yJ7_copyOf_59c91 cJ7_copyOf_59c91 3 (some (.array .int)), Cond.methodLink RJ7 316 ⟨"[I", "clone", "()Ljava/lang/Object;"⟩, Cond.sameMethod "[I" "java/lang/Object" "clone" "()Ljava/lang/Object;", Cond.native ⟨"java/lang/Object", "clone", "()Ljava/lang/Object;"⟩, Cond.instanceMethod ⟨"java/lang/Object", "clone", "()Ljava/lang/Object;"⟩, Cond.selects "[I" ⟨"[I", "clone", "()Ljava/lang/Object;"⟩ ⟨"java/lang/Object", "clone", "()Ljava/lang/Object;"⟩, Cond.classLink RJ7 317 "[I", Cond.methodLink RJ7 304 Lib.Math.min.name]
def wsL_law_r19 : List Cond := [Cond.methodLink RJ7 150 arraycopyName, Cond.methodLink RX7 245 yX2_clear, Cond.instanceMethod yX2_clear, Cond.selects RX2 yX2_clear yX2_clear, Cond.code yX2_clear cX2_clear 1 none, Cond.fieldLink RX2 31 "StageDesk$Gifts" "next" "I", Cond.methodLink RX7 180 yX3_startBatch, Cond.instanceMethod yX3_startBatch, Cond.selects RX3 yX3_startBatch yX3_startBatch, Cond.code yX3_startBatch cX3_startBatch 2 none, Cond.fieldLink RX3 93 "StageDesk$Worker" "rest" "I", Cond.methodLink RX3 89 yX1_becomeFirstOf, Cond.instanceMethod yX1_becomeFirstOf, Cond.selects RX1 yX1_becomeFirstOf yX1_becomeFirstOf, Cond.code yX1_becomeFirstOf cX1_becomeFirstOf 4 none, Cond.methodLink RX1 23 Lib.Math.min.name, Cond.methodLink RX1 29 arraycopyName, Cond.methodLink RX1 35 yX1_dropFirst, Cond.instanceMethod yX1_dropFirst, Cond.selects RX1 yX1_dropFirst yX1_dropFirst, Cond.code yX1_dropFirst cX1_dropFirst 3 none, Cond.methodLink RX7 157 yX3_control, Cond.instanceMethod yX3_control, Cond.selects RX3 yX3_control yX3_control]
def wsL_law_r20 : List Cond := [Cond.code yX3_control cX3_control 1 none, Cond.fieldLink RX3 133 "StageDesk$Stage" "goal" "I", Cond.fieldLink RX3 136 "StageDesk$Times" "size" "I", Cond.methodLink RX3 127 yX3_controlWorkers, Cond.instanceMethod yX3_controlWorkers, Cond.selects RX3 yX3_controlWorkers yX3_controlWorkers, Cond.code yX3_controlWorkers cX3_controlWorkers 1 none, Cond.fieldLink RX3 140 "StageDesk$Worker" "idleTicks" "I", Cond.methodLink RX3 143 yX3_isLongIdle, Cond.instanceMethod yX3_isLongIdle, Cond.selects RX3 yX3_isLongIdle yX3_isLongIdle, Cond.code yX3_isLongIdle cX3_isLongIdle 2 (some .boolean), Cond.methodLink RX3 130 yX3_controlBatch, Cond.instanceMethod yX3_controlBatch, Cond.selects RX3 yX3_controlBatch yX3_controlBatch, Cond.code yX3_controlBatch cX3_controlBatch 1 none, Cond.methodLink RX3 147 Lib.Math.max.name, Cond.static Lib.Math.max.name, Cond.code Lib.Math.max.name Lib.Math.max.code 2 (some .int), Cond.methodLink RX3 137 yX3_controlRate, Cond.instanceMethod yX3_controlRate, Cond.selects RX3 yX3_controlRate yX3_controlRate, Cond.code yX3_controlRate cX3_controlRate 1 none, Cond.methodLink RX3 150 yX5_response]
def wsL_law_r21 : List Cond := [Cond.instanceMethod yX5_response, Cond.selects RX5 yX5_response yX5_response, Cond.code yX5_response cX5_response 3 (some .int), Cond.methodLink RL 60 yX8_tick, Cond.instanceMethod yX8_tick, Cond.selects RX8 yX8_tick yX8_tick, Cond.code yX8_tick cX8_tick 3 (some .int), Cond.methodLink RX8 211 yX8_oneTick, Cond.instanceMethod yX8_oneTick, Cond.selects RX8 yX8_oneTick yX8_oneTick, Cond.code yX8_oneTick cX8_oneTick 3 none, Cond.methodLink RX8 202 yX8_ring, Cond.instanceMethod yX8_ring, Cond.selects RX8 yX8_ring yX8_ring, Cond.code yX8_ring cX8_ring 4 none, Cond.fieldLink RX8 180 "StageDeskModel" "lost" "I", Cond.methodLink RX8 205 yX8_work, Cond.instanceMethod yX8_work, Cond.selects RX8 yX8_work yX8_work, Cond.code yX8_work cX8_work 5 none, Cond.methodLink RX8 190 yX8_give, Cond.instanceMethod yX8_give, Cond.selects RX8 yX8_give yX8_give, Cond.code yX8_give cX8_give 5 none]
def wsL_law_r22 : List Cond := [Cond.methodLink RX8 193 yX8_listGifts, Cond.instanceMethod yX8_listGifts, Cond.selects RX8 yX8_listGifts yX8_listGifts, Cond.code yX8_listGifts cX8_listGifts 7 none, Cond.methodLink RX8 183 yX8_gift, Cond.instanceMethod yX8_gift, Cond.selects RX8 yX8_gift yX8_gift, Cond.code yX8_gift cX8_gift 6 none, Cond.methodLink RX8 196 yX8_finish, Cond.instanceMethod yX8_finish, Cond.selects RX8 yX8_finish yX8_finish, Cond.code yX8_finish cX8_finish 6 none, Cond.fieldLink RX8 187 "StageDeskModel" "ended" "I", Cond.methodLink RX8 208 yX8_control, Cond.instanceMethod yX8_control, Cond.selects RX8 yX8_control yX8_control, Cond.code yX8_control cX8_control 3 none, Cond.methodLink RX8 199 yX8_response, Cond.instanceMethod yX8_response, Cond.selects RX8 yX8_response yX8_response, Cond.code yX8_response cX8_response 6 (some .int), Cond.methodLink RL 61 yX7_told, Cond.instanceMethod yX7_told, Cond.selects RX7 yX7_told yX7_told]
def wsL_law_r23 : List Cond := [Cond.code yX7_told cX7_told 4 (some .int), Cond.methodLink RX7 118 yX3_figure, Cond.instanceMethod yX3_figure, Cond.selects RX3 yX3_figure yX3_figure, Cond.code yX3_figure cX3_figure 2 (some .int), Cond.fieldLink RX3 153 "StageDesk$Stage" "batchesHandled" "I", Cond.fieldLink RX3 156 "StageDesk$Stage" "eventsHandled" "I", Cond.methodLink RL 64 yX8_told, Cond.instanceMethod yX8_told, Cond.selects RX8 yX8_told yX8_told, Cond.code yX8_told cX8_told 3 (some .int), Cond.methodLink RL 65 yX7_queued, Cond.instanceMethod yX7_queued, Cond.selects RX7 yX7_queued yX7_queued, Cond.code yX7_queued cX7_queued 4 (some .int), Cond.methodLink RL 68 yX8_queued, Cond.instanceMethod yX8_queued, Cond.selects RX8 yX8_queued yX8_queued, Cond.code yX8_queued cX8_queued 3 (some .int), Cond.methodLink RL 69 yX7_worker, Cond.instanceMethod yX7_worker, Cond.selects RX7 yX7_worker yX7_worker, Cond.code yX7_worker cX7_worker 5 (some .int), Cond.methodLink RX7 136 yX6_figure]
def wsL_law_r24 : List Cond := [Cond.instanceMethod yX6_figure, Cond.selects RX6 yX6_figure yX6_figure, Cond.code yX6_figure cX6_figure 2 (some .int), Cond.fieldLink RX6 27 "StageDesk$EventRow" "size" "I", Cond.fieldLink RX6 31 "StageDesk$Worker" "rest" "I", Cond.fieldLink RX6 34 "StageDesk$Gifts" "size" "I", Cond.fieldLink RX6 35 "StageDesk$Gifts" "next" "I", Cond.methodLink RL 72 yX8_worker, Cond.instanceMethod yX8_worker, Cond.selects RX8 yX8_worker yX8_worker, Cond.code yX8_worker cX8_worker 5 (some .int), Cond.methodLink RL 73 yX7_done, Cond.instanceMethod yX7_done, Cond.selects RX7 yX7_done yX7_done, Cond.code yX7_done cX7_done 2 (some .int), Cond.fieldLink RX7 139 "StageDesk$DoneRow" "size" "I", Cond.fieldLink RX7 140 "StageDesk$DoneRow" "numbers" "[I", Cond.methodLink RL 76 yX8_done, Cond.instanceMethod yX8_done, Cond.selects RX8 yX8_done yX8_done, Cond.code yX8_done cX8_done 2 (some .int), Cond.methodLink RL 77 yX7_value, Cond.instanceMethod yX7_value, Cond.selects RX7 yX7_value yX7_value]
def wsL_law_r25 : List Cond := [Cond.code yX7_value cX7_value 2 (some .int), Cond.fieldLink RX7 141 "StageDesk$DoneRow" "values" "[I", Cond.methodLink RL 80 yX8_value, Cond.instanceMethod yX8_value, Cond.selects RX8 yX8_value yX8_value, Cond.code yX8_value cX8_value 2 (some .int), Cond.methodLink RL 81 yX7_events, Cond.instanceMethod yX7_events, Cond.selects RX7 yX7_events yX7_events, Cond.code yX7_events cX7_events 1 (some .int), Cond.methodLink RL 85 yX8_events, Cond.instanceMethod yX8_events, Cond.selects RX8 yX8_events yX8_events, Cond.code yX8_events cX8_events 1 (some .int), Cond.methodLink RL 86 yX7_ended, Cond.instanceMethod yX7_ended, Cond.selects RX7 yX7_ended yX7_ended, Cond.code yX7_ended cX7_ended 1 (some .int), Cond.methodLink RL 89 yX8_ended, Cond.instanceMethod yX8_ended, Cond.selects RX8 yX8_ended yX8_ended, Cond.code yX8_ended cX8_ended 1 (some .int), Cond.methodLink RL 90 yX7_lost, Cond.instanceMethod yX7_lost]
def wsL_law_r26 : List Cond := [Cond.selects RX7 yX7_lost yX7_lost, Cond.code yX7_lost cX7_lost 1 (some .int), Cond.methodLink RL 93 yX8_lost, Cond.instanceMethod yX8_lost, Cond.selects RX8 yX8_lost yX8_lost, Cond.code yX8_lost cX8_lost 1 (some .int), Cond.methodLink RL 94 yX7_clock, Cond.instanceMethod yX7_clock, Cond.selects RX7 yX7_clock yX7_clock, Cond.code yX7_clock cX7_clock 1 (some .int), Cond.methodLink RL 97 yX8_clock, Cond.instanceMethod yX8_clock, Cond.selects RX8 yX8_clock yX8_clock, Cond.code yX8_clock cX8_clock 1 (some .int)]
def wsL_law : List Cond := (wsL_law_r1 ++ (wsL_law_r2 ++ (wsL_law_r3 ++ (wsL_law_r4 ++ (wsL_law_r5 ++ (wsL_law_r6 ++ (wsL_law_r7 ++ (wsL_law_r8 ++ (wsL_law_r9 ++ (wsL_law_r10 ++ (wsL_law_r11 ++ (wsL_law_r12 ++ (wsL_law_r13 ++ (wsL_law_r14 ++ (wsL_law_r15 ++ (wsL_law_r16 ++ (wsL_law_r17 ++ (wsL_law_r18 ++ (wsL_law_r19 ++ (wsL_law_r20 ++ (wsL_law_r21 ++ (wsL_law_r22 ++ (wsL_law_r23 ++ (wsL_law_r24 ++ (wsL_law_r25 ++ wsL_law_r26))))))))))))))))))))))))) ++ wsX70 ++ wsX80 ++ wsX40 ++ wsX00 ++ wsX30 ++ wsX50 ++ wsX10 ++ wsX60 ++ wsX20 ++ ([] : List Cond)
abbrev vwCl : List vw_C := [(RX0, TX0, 3), (RX1, TX1, 4), (RX2, TX2, 6), (RX3, TX3, 19), (RX4, TX4, 6), (RX5, TX5, 3), (RX6, TX6, 5), (RX7, TX7, 7), (RX8, TX8, 48)]
end
section
set_option maxRecDepth 20000 in
theorem in_wsL_law_r1 : ∀ w ∈ wsL_law_r1, w ∈ lw_tbl := fun w h => (goodIn_p wsL_law_r1 [42, 45, 52] (by decide +kernel) (by decide +kernel) w h).1
set_option maxRecDepth 20000 in
theorem in_wsL_law_r2 : ∀ w ∈ wsL_law_r2, w ∈ lw_tbl := fun w h => (goodIn_p wsL_law_r2 [83, 566] (by decide +kernel) (by decide +kernel) w h).1
set_option maxRecDepth 20000 in
theorem in_wsL_law_r3 : ∀ w ∈ wsL_law_r3, w ∈ lw_tbl := fun w h => (goodIn_p wsL_law_r3 [] (by decide +kernel) (by decide +kernel) w h).1
set_option maxRecDepth 20000 in
theorem in_wsL_law_r4 : ∀ w ∈ wsL_law_r4, w ∈ lw_tbl := fun w h => (goodIn_p wsL_law_r4 [123, 126] (by decide +kernel) (by decide +kernel) w h).1
set_option maxRecDepth 20000 in
theorem in_wsL_law_r5 : ∀ w ∈ wsL_law_r5, w ∈ lw_tbl := fun w h => (goodIn_p wsL_law_r5 [130, 136] (by decide +kernel) (by decide +kernel) w h).1
set_option maxRecDepth 20000 in
theorem in_wsL_law_r6 : ∀ w ∈ wsL_law_r6, w ∈ lw_tbl := fun w h => (goodIn_p wsL_law_r6 [153, 181, 189] (by decide +kernel) (by decide +kernel) w h).1
set_option maxRecDepth 20000 in
theorem in_wsL_law_r7 : ∀ w ∈ wsL_law_r7, w ∈ lw_tbl := fun w h => (goodIn_p wsL_law_r7 [719, 722, 318, 322] (by decide +kernel) (by decide +kernel) w h).1
set_option maxRecDepth 20000 in
theorem in_wsL_law_r8 : ∀ w ∈ wsL_law_r8, w ∈ lw_tbl := fun w h => (goodIn_p wsL_law_r8 [326, 726, 730, 330, 333] (by decide +kernel) (by decide +kernel) w h).1
set_option maxRecDepth 20000 in
theorem in_wsL_law_r9 : ∀ w ∈ wsL_law_r9, w ∈ lw_tbl := fun w h => (goodIn_p wsL_law_r9 [734, 337, 341, 345, 349] (by decide +kernel) (by decide +kernel) w h).1
set_option maxRecDepth 20000 in
theorem in_wsL_law_r10 : ∀ w ∈ wsL_law_r10, w ∈ lw_tbl := fun w h => (goodIn_p wsL_law_r10 [353, 357, 738, 742, 746] (by decide +kernel) (by decide +kernel) w h).1
set_option maxRecDepth 20000 in
theorem in_wsL_law_r11 : ∀ w ∈ wsL_law_r11, w ∈ lw_tbl := fun w h => (goodIn_p wsL_law_r11 [750, 754, 361, 758, 366] (by decide +kernel) (by decide +kernel) w h).1
set_option maxRecDepth 20000 in
theorem in_wsL_law_r12 : ∀ w ∈ wsL_law_r12, w ∈ lw_tbl := fun w h => (goodIn_p wsL_law_r12 [762, 371, 766, 375, 379] (by decide +kernel) (by decide +kernel) w h).1
set_option maxRecDepth 20000 in
theorem in_wsL_law_r13 : ∀ w ∈ wsL_law_r13, w ∈ lw_tbl := fun w h => (goodIn_p wsL_law_r13 [770, 383, 387, 391, 774, 778] (by decide +kernel) (by decide +kernel) w h).1
set_option maxRecDepth 20000 in
theorem in_wsL_law_r14 : ∀ w ∈ wsL_law_r14, w ∈ lw_tbl := fun w h => (goodIn_p wsL_law_r14 [395, 782, 399, 403, 407] (by decide +kernel) (by decide +kernel) w h).1
set_option maxRecDepth 20000 in
theorem in_wsL_law_r15 : ∀ w ∈ wsL_law_r15, w ∈ lw_tbl := fun w h => (goodIn_p wsL_law_r15 [412, 416, 421, 425] (by decide +kernel) (by decide +kernel) w h).1
set_option maxRecDepth 20000 in
theorem in_wsL_law_r16 : ∀ w ∈ wsL_law_r16, w ∈ lw_tbl := fun w h => (goodIn_p wsL_law_r16 [429, 433, 437] (by decide +kernel) (by decide +kernel) w h).1
set_option maxRecDepth 20000 in
theorem in_wsL_law_r17 : ∀ w ∈ wsL_law_r17, w ∈ lw_tbl := fun w h => (goodIn_p wsL_law_r17 [441, 445, 449] (by decide +kernel) (by decide +kernel) w h).1
set_option maxRecDepth 20000 in
theorem in_wsL_law_r18 : ∀ w ∈ wsL_law_r18, w ∈ lw_tbl := fun w h => (goodIn_p wsL_law_r18 [453, 460, 463] (by decide +kernel) (by decide +kernel) w h).1
set_option maxRecDepth 20000 in
theorem in_wsL_law_r19 : ∀ w ∈ wsL_law_r19, w ∈ lw_tbl := fun w h => (goodIn_p wsL_law_r19 [476, 480, 484, 490] (by decide +kernel) (by decide +kernel) w h).1
set_option maxRecDepth 20000 in
theorem in_wsL_law_r20 : ∀ w ∈ wsL_law_r20, w ∈ lw_tbl := fun w h => (goodIn_p wsL_law_r20 [494, 498, 502, 506, 509, 513] (by decide +kernel) (by decide +kernel) w h).1
set_option maxRecDepth 20000 in
theorem in_wsL_law_r21 : ∀ w ∈ wsL_law_r21, w ∈ lw_tbl := fun w h => (goodIn_p wsL_law_r21 [517, 786, 790, 794, 798, 802] (by decide +kernel) (by decide +kernel) w h).1
set_option maxRecDepth 20000 in
theorem in_wsL_law_r22 : ∀ w ∈ wsL_law_r22, w ∈ lw_tbl := fun w h => (goodIn_p wsL_law_r22 [806, 810, 814, 818, 822] (by decide +kernel) (by decide +kernel) w h).1
set_option maxRecDepth 20000 in
theorem in_wsL_law_r23 : ∀ w ∈ wsL_law_r23, w ∈ lw_tbl := fun w h => (goodIn_p wsL_law_r23 [521, 525, 826, 529, 830, 533] (by decide +kernel) (by decide +kernel) w h).1
set_option maxRecDepth 20000 in
theorem in_wsL_law_r24 : ∀ w ∈ wsL_law_r24, w ∈ lw_tbl := fun w h => (goodIn_p wsL_law_r24 [537, 834, 541, 838] (by decide +kernel) (by decide +kernel) w h).1
set_option maxRecDepth 20000 in
theorem in_wsL_law_r25 : ∀ w ∈ wsL_law_r25, w ∈ lw_tbl := fun w h => (goodIn_p wsL_law_r25 [545, 842, 549, 846, 553, 850] (by decide +kernel) (by decide +kernel) w h).1
set_option maxRecDepth 20000 in
theorem in_wsL_law_r26 : ∀ w ∈ wsL_law_r26, w ∈ lw_tbl := fun w h => (goodIn_p wsL_law_r26 [557, 854, 561, 858] (by decide +kernel) (by decide +kernel) w h).1
set_option maxRecDepth 20000 in
theorem in_wsX70 : ∀ w ∈ wsX70, w ∈ lw_tbl := by decide +kernel
set_option maxRecDepth 20000 in
theorem in_wsX80 : ∀ w ∈ wsX80, w ∈ lw_tbl := by decide +kernel
set_option maxRecDepth 20000 in
theorem in_wsX40 : ∀ w ∈ wsX40, w ∈ lw_tbl := by decide +kernel
set_option maxRecDepth 20000 in
theorem in_wsX00 : ∀ w ∈ wsX00, w ∈ lw_tbl := by decide +kernel
set_option maxRecDepth 20000 in
theorem in_wsX30 : ∀ w ∈ wsX30, w ∈ lw_tbl := by decide +kernel
set_option maxRecDepth 20000 in
theorem in_wsX50 : ∀ w ∈ wsX50, w ∈ lw_tbl := by decide +kernel
set_option maxRecDepth 20000 in
theorem in_wsX10 : ∀ w ∈ wsX10, w ∈ lw_tbl := by decide +kernel
set_option maxRecDepth 20000 in
theorem in_wsX60 : ∀ w ∈ wsX60, w ∈ lw_tbl := by decide +kernel
set_option maxRecDepth 20000 in
theorem in_wsX20 : ∀ w ∈ wsX20, w ∈ lw_tbl := by decide +kernel
theorem wsL_law_in : ∀ w ∈ wsL_law, w ∈ lw_tbl := by
  intro w h
  unfold wsL_law at h
  rcases List.mem_append.mp h with h | h
  · rcases List.mem_append.mp h with h | h
    · rcases List.mem_append.mp h with h | h
      · rcases List.mem_append.mp h with h | h
        · rcases List.mem_append.mp h with h | h
          · rcases List.mem_append.mp h with h | h
            · rcases List.mem_append.mp h with h | h
              · rcases List.mem_append.mp h with h | h
                · rcases List.mem_append.mp h with h | h
                  · rcases List.mem_append.mp h with h | h
                    · rcases List.mem_append.mp h with h | h
                    · exact in_wsL_law_r1 w h
                    · rcases List.mem_append.mp h with h | h
                      · exact in_wsL_law_r2 w h
                      · rcases List.mem_append.mp h with h | h
                        · exact in_wsL_law_r3 w h
                        · rcases List.mem_append.mp h with h | h
                          · exact in_wsL_law_r4 w h
                          · rcases List.mem_append.mp h with h | h
                            · exact in_wsL_law_r5 w h
                            · rcases List.mem_append.mp h with h | h
                              · exact in_wsL_law_r6 w h
                              · rcases List.mem_append.mp h with h | h
                                · exact in_wsL_law_r7 w h
                                · rcases List.mem_append.mp h with h | h
                                  · exact in_wsL_law_r8 w h
                                  · rcases List.mem_append.mp h with h | h
                                    · exact in_wsL_law_r9 w h
                                    · rcases List.mem_append.mp h with h | h
                                      · exact in_wsL_law_r10 w h
                                      · rcases List.mem_append.mp h with h | h
                                        · exact in_wsL_law_r11 w h
                                        · rcases List.mem_append.mp h with h | h
                                          · exact in_wsL_law_r12 w h
                                          · rcases List.mem_append.mp h with h | h
                                            · exact in_wsL_law_r13 w h
                                            · rcases List.mem_append.mp h with h | h
                                              · exact in_wsL_law_r14 w h
                                              · rcases List.mem_append.mp h with h | h
                                                · exact in_wsL_law_r15 w h
                                                · rcases List.mem_append.mp h with h | h
                                                  · exact in_wsL_law_r16 w h
                                                  · rcases List.mem_append.mp h with h | h
                                                    · exact in_wsL_law_r17 w h
                                                    · rcases List.mem_append.mp h with h | h
                                                      · exact in_wsL_law_r18 w h
                                                      · rcases List.mem_append.mp h with h | h
                                                        · exact in_wsL_law_r19 w h
                                                        · rcases List.mem_append.mp h with h | h
                                                          · exact in_wsL_law_r20 w h
                                                          · rcases List.mem_append.mp h with h | h
                                                            · exact in_wsL_law_r21 w h
                                                            · rcases List.mem_append.mp h with h | h
                                                              · exact in_wsL_law_r22 w h
                                                              · rcases List.mem_append.mp h with h | h
                                                                · exact in_wsL_law_r23 w h
                                                                · rcases List.mem_append.mp h with h | h
                                                                  · exact in_wsL_law_r24 w h
                                                                  · rcases List.mem_append.mp h with h | h
                                                                    · exact in_wsL_law_r25 w h
                                                                    · exact in_wsL_law_r26 w h
                    · exact in_wsX70 w h
                  · exact in_wsX80 w h
                · exact in_wsX40 w h
              · exact in_wsX00 w h
            · exact in_wsX30 w h
          · exact in_wsX50 w h
        · exact in_wsX10 w h
      · exact in_wsX60 w h
    · exact in_wsX20 w h
  · exact absurd h List.not_mem_nil
theorem inlX0 : ∀ w ∈ wsX00, w ∈ wsL_law := fun _ h => List.mem_append_left _ (List.mem_append_left _ (List.mem_append_left _ (List.mem_append_left _ (List.mem_append_left _ (List.mem_append_left _ (List.mem_append_right _ h))))))
theorem inX0 : ∀ w ∈ wsX00, w ∈ lw_tbl := fun w h => wsL_law_in w (inlX0 w h)
theorem inlX1 : ∀ w ∈ wsX10, w ∈ wsL_law := fun _ h => List.mem_append_left _ (List.mem_append_left _ (List.mem_append_left _ (List.mem_append_right _ h)))
theorem inX1 : ∀ w ∈ wsX10, w ∈ lw_tbl := fun w h => wsL_law_in w (inlX1 w h)
theorem inlX2 : ∀ w ∈ wsX20, w ∈ wsL_law := fun _ h => List.mem_append_left _ (List.mem_append_right _ h)
theorem inX2 : ∀ w ∈ wsX20, w ∈ lw_tbl := fun w h => wsL_law_in w (inlX2 w h)
theorem inlX3 : ∀ w ∈ wsX30, w ∈ wsL_law := fun _ h => List.mem_append_left _ (List.mem_append_left _ (List.mem_append_left _ (List.mem_append_left _ (List.mem_append_left _ (List.mem_append_right _ h)))))
theorem inX3 : ∀ w ∈ wsX30, w ∈ lw_tbl := fun w h => wsL_law_in w (inlX3 w h)
theorem inlX4 : ∀ w ∈ wsX40, w ∈ wsL_law := fun _ h => List.mem_append_left _ (List.mem_append_left _ (List.mem_append_left _ (List.mem_append_left _ (List.mem_append_left _ (List.mem_append_left _ (List.mem_append_left _ (List.mem_append_right _ h)))))))
theorem inX4 : ∀ w ∈ wsX40, w ∈ lw_tbl := fun w h => wsL_law_in w (inlX4 w h)
theorem inlX5 : ∀ w ∈ wsX50, w ∈ wsL_law := fun _ h => List.mem_append_left _ (List.mem_append_left _ (List.mem_append_left _ (List.mem_append_left _ (List.mem_append_right _ h))))
theorem inX5 : ∀ w ∈ wsX50, w ∈ lw_tbl := fun w h => wsL_law_in w (inlX5 w h)
theorem inlX6 : ∀ w ∈ wsX60, w ∈ wsL_law := fun _ h => List.mem_append_left _ (List.mem_append_left _ (List.mem_append_right _ h))
theorem inX6 : ∀ w ∈ wsX60, w ∈ lw_tbl := fun w h => wsL_law_in w (inlX6 w h)
theorem inlX7 : ∀ w ∈ wsX70, w ∈ wsL_law := fun _ h => List.mem_append_left _ (List.mem_append_left _ (List.mem_append_left _ (List.mem_append_left _ (List.mem_append_left _ (List.mem_append_left _ (List.mem_append_left _ (List.mem_append_left _ (List.mem_append_left _ (List.mem_append_right _ h)))))))))
theorem inX7 : ∀ w ∈ wsX70, w ∈ lw_tbl := fun w h => wsL_law_in w (inlX7 w h)
theorem inlX8 : ∀ w ∈ wsX80, w ∈ wsL_law := fun _ h => List.mem_append_left _ (List.mem_append_left _ (List.mem_append_left _ (List.mem_append_left _ (List.mem_append_left _ (List.mem_append_left _ (List.mem_append_left _ (List.mem_append_left _ (List.mem_append_right _ h))))))))
theorem inX8 : ∀ w ∈ wsX80, w ∈ lw_tbl := fun w h => wsL_law_in w (inlX8 w h)
theorem inJx8e188 : ∀ w ∈ wsJx8e1880, w ∈ lw_tbl := by decide +kernel
theorem inJ9 : ∀ w ∈ wsJ90, w ∈ lw_tbl := by decide +kernel
theorem inJ10 : ∀ w ∈ wsJ100, w ∈ lw_tbl := by decide +kernel
theorem inJ7 : ∀ w ∈ wsJ70, w ∈ lw_tbl := by decide +kernel
end
section
theorem dX0_init_0 : decode cX0_init 0 = .ok (.aload_n 0, 1) := by decide +kernel
theorem dX0_init_1 : decode cX0_init 1 = .ok (.invokespecial 1, 3) := by decide +kernel
theorem dX0_init_4 : decode cX0_init 4 = .ok (.aload_n 0, 1) := by decide +kernel
theorem dX0_init_5 : decode cX0_init 5 = .ok (.bipush 64, 2) := by decide +kernel
theorem dX0_init_7 : decode cX0_init 7 = .ok (.newarray .int, 2) := by decide +kernel
theorem dX0_init_9 : decode cX0_init 9 = .ok (.putfield 7, 3) := by decide +kernel
theorem dX0_init_12 : decode cX0_init 12 = .ok (.aload_n 0, 1) := by decide +kernel
theorem dX0_init_13 : decode cX0_init 13 = .ok (.bipush 64, 2) := by decide +kernel
theorem dX0_init_15 : decode cX0_init 15 = .ok (.newarray .int, 2) := by decide +kernel
theorem dX0_init_17 : decode cX0_init 17 = .ok (.putfield 13, 3) := by decide +kernel
theorem dX0_init_20 : decode cX0_init 20 = .ok (.return_, 1) := by decide +kernel
set_option maxRecDepth 20000 in
theorem ggX0_append_J7_copyOf_59c91 : GoodIn wsX0_append wsJ7_copyOf_59c91 := goodIn_r _ [7, 8, 9, 10, 11, 12, 13, 14, 15, 16, 17, 18, 19, 20, 21, 22] (by decide +kernel) (by decide +kernel)
set_option maxRecDepth 20000 in
theorem gX0_append_J7_copyOf_59c91 : GoodIn wsX0_append (va_wsS RX0 20 yJ7_copyOf_59c91 wsJ7_copyOf_59c91) := goodIn_app (goodIn_of _ (by decide +kernel)) ggX0_append_J7_copyOf_59c91
theorem dX0_append_0 : decode cX0_append 0 = .ok (.aload_n 0, 1) := by decide +kernel
theorem dX0_append_1 : decode cX0_append 1 = .ok (.getfield 16, 3) := by decide +kernel
theorem dX0_append_4 : decode cX0_append 4 = .ok (.aload_n 0, 1) := by decide +kernel
theorem dX0_append_5 : decode cX0_append 5 = .ok (.getfield 7, 3) := by decide +kernel
theorem dX0_append_8 : decode cX0_append 8 = .ok (.arraylength, 1) := by decide +kernel
theorem dX0_append_9 : decode cX0_append 9 = .ok (.if_icmp .lt 37, 3) := by decide +kernel
theorem dX0_append_12 : decode cX0_append 12 = .ok (.aload_n 0, 1) := by decide +kernel
theorem dX0_append_13 : decode cX0_append 13 = .ok (.aload_n 0, 1) := by decide +kernel
theorem dX0_append_14 : decode cX0_append 14 = .ok (.getfield 7, 3) := by decide +kernel
theorem dX0_append_17 : decode cX0_append 17 = .ok (.iconst 2, 1) := by decide +kernel
theorem dX0_append_18 : decode cX0_append 18 = .ok (.aload_n 0, 1) := by decide +kernel
theorem dX0_append_19 : decode cX0_append 19 = .ok (.getfield 16, 3) := by decide +kernel
theorem dX0_append_22 : decode cX0_append 22 = .ok (.imul, 1) := by decide +kernel
theorem dX0_append_23 : decode cX0_append 23 = .ok (.invokestatic 20, 3) := by decide +kernel
theorem dX0_append_26 : decode cX0_append 26 = .ok (.putfield 7, 3) := by decide +kernel
theorem dX0_append_29 : decode cX0_append 29 = .ok (.aload_n 0, 1) := by decide +kernel
theorem dX0_append_30 : decode cX0_append 30 = .ok (.aload_n 0, 1) := by decide +kernel
theorem dX0_append_31 : decode cX0_append 31 = .ok (.getfield 13, 3) := by decide +kernel
theorem dX0_append_34 : decode cX0_append 34 = .ok (.iconst 2, 1) := by decide +kernel
theorem dX0_append_35 : decode cX0_append 35 = .ok (.aload_n 0, 1) := by decide +kernel
theorem dX0_append_36 : decode cX0_append 36 = .ok (.getfield 16, 3) := by decide +kernel
theorem dX0_append_39 : decode cX0_append 39 = .ok (.imul, 1) := by decide +kernel
theorem dX0_append_40 : decode cX0_append 40 = .ok (.invokestatic 20, 3) := by decide +kernel
theorem dX0_append_43 : decode cX0_append 43 = .ok (.putfield 13, 3) := by decide +kernel
theorem dX0_append_46 : decode cX0_append 46 = .ok (.aload_n 0, 1) := by decide +kernel
theorem dX0_append_47 : decode cX0_append 47 = .ok (.getfield 7, 3) := by decide +kernel
theorem dX0_append_50 : decode cX0_append 50 = .ok (.aload_n 0, 1) := by decide +kernel
theorem dX0_append_51 : decode cX0_append 51 = .ok (.getfield 16, 3) := by decide +kernel
theorem dX0_append_54 : decode cX0_append 54 = .ok (.iload_n 1, 1) := by decide +kernel
theorem dX0_append_55 : decode cX0_append 55 = .ok (.iastore, 1) := by decide +kernel
theorem dX0_append_56 : decode cX0_append 56 = .ok (.aload_n 0, 1) := by decide +kernel
theorem dX0_append_57 : decode cX0_append 57 = .ok (.getfield 13, 3) := by decide +kernel
theorem dX0_append_60 : decode cX0_append 60 = .ok (.aload_n 0, 1) := by decide +kernel
theorem dX0_append_61 : decode cX0_append 61 = .ok (.getfield 16, 3) := by decide +kernel
theorem dX0_append_64 : decode cX0_append 64 = .ok (.iload_n 2, 1) := by decide +kernel
theorem dX0_append_65 : decode cX0_append 65 = .ok (.iastore, 1) := by decide +kernel
theorem dX0_append_66 : decode cX0_append 66 = .ok (.aload_n 0, 1) := by decide +kernel
theorem dX0_append_67 : decode cX0_append 67 = .ok (.dup, 1) := by decide +kernel
theorem dX0_append_68 : decode cX0_append 68 = .ok (.getfield 16, 3) := by decide +kernel
theorem dX0_append_71 : decode cX0_append 71 = .ok (.iconst 1, 1) := by decide +kernel
theorem dX0_append_72 : decode cX0_append 72 = .ok (.iadd, 1) := by decide +kernel
theorem dX0_append_73 : decode cX0_append 73 = .ok (.putfield 16, 3) := by decide +kernel
theorem dX0_append_76 : decode cX0_append 76 = .ok (.return_, 1) := by decide +kernel
theorem dX1_init_0 : decode cX1_init 0 = .ok (.aload_n 0, 1) := by decide +kernel
theorem dX1_init_1 : decode cX1_init 1 = .ok (.invokespecial 1, 3) := by decide +kernel
theorem dX1_init_4 : decode cX1_init 4 = .ok (.aload_n 0, 1) := by decide +kernel
theorem dX1_init_5 : decode cX1_init 5 = .ok (.iload_n 1, 1) := by decide +kernel
theorem dX1_init_6 : decode cX1_init 6 = .ok (.newarray .int, 2) := by decide +kernel
theorem dX1_init_8 : decode cX1_init 8 = .ok (.putfield 7, 3) := by decide +kernel
theorem dX1_init_11 : decode cX1_init 11 = .ok (.aload_n 0, 1) := by decide +kernel
theorem dX1_init_12 : decode cX1_init 12 = .ok (.iload_n 1, 1) := by decide +kernel
theorem dX1_init_13 : decode cX1_init 13 = .ok (.newarray .int, 2) := by decide +kernel
theorem dX1_init_15 : decode cX1_init 15 = .ok (.putfield 13, 3) := by decide +kernel
theorem dX1_init_18 : decode cX1_init 18 = .ok (.aload_n 0, 1) := by decide +kernel
theorem dX1_init_19 : decode cX1_init 19 = .ok (.iload_n 1, 1) := by decide +kernel
theorem dX1_init_20 : decode cX1_init 20 = .ok (.newarray .int, 2) := by decide +kernel
theorem dX1_init_22 : decode cX1_init 22 = .ok (.putfield 16, 3) := by decide +kernel
theorem dX1_init_25 : decode cX1_init 25 = .ok (.return_, 1) := by decide +kernel
theorem dX1_append_0 : decode cX1_append 0 = .ok (.aload_n 0, 1) := by decide +kernel
theorem dX1_append_1 : decode cX1_append 1 = .ok (.getfield 19, 3) := by decide +kernel
theorem dX1_append_4 : decode cX1_append 4 = .ok (.aload_n 0, 1) := by decide +kernel
theorem dX1_append_5 : decode cX1_append 5 = .ok (.getfield 7, 3) := by decide +kernel
theorem dX1_append_8 : decode cX1_append 8 = .ok (.arraylength, 1) := by decide +kernel
theorem dX1_append_9 : decode cX1_append 9 = .ok (.if_icmp .lt 4, 3) := by decide +kernel
theorem dX1_append_12 : decode cX1_append 12 = .ok (.return_, 1) := by decide +kernel
theorem dX1_append_13 : decode cX1_append 13 = .ok (.aload_n 0, 1) := by decide +kernel
theorem dX1_append_14 : decode cX1_append 14 = .ok (.getfield 7, 3) := by decide +kernel
theorem dX1_append_17 : decode cX1_append 17 = .ok (.aload_n 0, 1) := by decide +kernel
theorem dX1_append_18 : decode cX1_append 18 = .ok (.getfield 19, 3) := by decide +kernel
theorem dX1_append_21 : decode cX1_append 21 = .ok (.iload_n 1, 1) := by decide +kernel
theorem dX1_append_22 : decode cX1_append 22 = .ok (.iastore, 1) := by decide +kernel
theorem dX1_append_23 : decode cX1_append 23 = .ok (.aload_n 0, 1) := by decide +kernel
theorem dX1_append_24 : decode cX1_append 24 = .ok (.getfield 13, 3) := by decide +kernel
theorem dX1_append_27 : decode cX1_append 27 = .ok (.aload_n 0, 1) := by decide +kernel
theorem dX1_append_28 : decode cX1_append 28 = .ok (.getfield 19, 3) := by decide +kernel
theorem dX1_append_31 : decode cX1_append 31 = .ok (.iload_n 2, 1) := by decide +kernel
theorem dX1_append_32 : decode cX1_append 32 = .ok (.iastore, 1) := by decide +kernel
theorem dX1_append_33 : decode cX1_append 33 = .ok (.aload_n 0, 1) := by decide +kernel
theorem dX1_append_34 : decode cX1_append 34 = .ok (.getfield 16, 3) := by decide +kernel
theorem dX1_append_37 : decode cX1_append 37 = .ok (.aload_n 0, 1) := by decide +kernel
theorem dX1_append_38 : decode cX1_append 38 = .ok (.getfield 19, 3) := by decide +kernel
theorem dX1_append_41 : decode cX1_append 41 = .ok (.iload_n 3, 1) := by decide +kernel
theorem dX1_append_42 : decode cX1_append 42 = .ok (.iastore, 1) := by decide +kernel
theorem dX1_append_43 : decode cX1_append 43 = .ok (.aload_n 0, 1) := by decide +kernel
theorem dX1_append_44 : decode cX1_append 44 = .ok (.dup, 1) := by decide +kernel
theorem dX1_append_45 : decode cX1_append 45 = .ok (.getfield 19, 3) := by decide +kernel
theorem dX1_append_48 : decode cX1_append 48 = .ok (.iconst 1, 1) := by decide +kernel
theorem dX1_append_49 : decode cX1_append 49 = .ok (.iadd, 1) := by decide +kernel
theorem dX1_append_50 : decode cX1_append 50 = .ok (.putfield 19, 3) := by decide +kernel
theorem dX1_append_53 : decode cX1_append 53 = .ok (.return_, 1) := by decide +kernel
set_option maxRecDepth 20000 in
theorem ggX1_becomeFirstOf_X1_dropFirst : GoodIn wsX1_becomeFirstOf wsX1_dropFirst := goodIn_r _ [17, 1, 6, 7, 8, 9, 10, 11, 12, 18, 19, 20, 21] (by decide +kernel) (by decide +kernel)
set_option maxRecDepth 20000 in
theorem gX1_becomeFirstOf_X1_dropFirst : GoodIn wsX1_becomeFirstOf (wsV RX1 35 RX1 yX1_dropFirst wsX1_dropFirst) := goodIn_app (goodIn_of _ (by decide +kernel)) ggX1_becomeFirstOf_X1_dropFirst
theorem dX1_becomeFirstOf_0 : decode cX1_becomeFirstOf 0 = .ok (.iload_n 2, 1) := by decide +kernel
theorem dX1_becomeFirstOf_1 : decode cX1_becomeFirstOf 1 = .ok (.aload_n 1, 1) := by decide +kernel
theorem dX1_becomeFirstOf_2 : decode cX1_becomeFirstOf 2 = .ok (.getfield 19, 3) := by decide +kernel
theorem dX1_becomeFirstOf_5 : decode cX1_becomeFirstOf 5 = .ok (.invokestatic 23, 3) := by decide +kernel
theorem dX1_becomeFirstOf_8 : decode cX1_becomeFirstOf 8 = .ok (.aload_n 0, 1) := by decide +kernel
theorem dX1_becomeFirstOf_9 : decode cX1_becomeFirstOf 9 = .ok (.getfield 7, 3) := by decide +kernel
theorem dX1_becomeFirstOf_12 : decode cX1_becomeFirstOf 12 = .ok (.arraylength, 1) := by decide +kernel
theorem dX1_becomeFirstOf_13 : decode cX1_becomeFirstOf 13 = .ok (.invokestatic 23, 3) := by decide +kernel
theorem dX1_becomeFirstOf_16 : decode cX1_becomeFirstOf 16 = .ok (.istore_n 3, 1) := by decide +kernel
theorem dX1_becomeFirstOf_17 : decode cX1_becomeFirstOf 17 = .ok (.aload_n 1, 1) := by decide +kernel
theorem dX1_becomeFirstOf_18 : decode cX1_becomeFirstOf 18 = .ok (.getfield 7, 3) := by decide +kernel
theorem dX1_becomeFirstOf_21 : decode cX1_becomeFirstOf 21 = .ok (.iconst 0, 1) := by decide +kernel
theorem dX1_becomeFirstOf_22 : decode cX1_becomeFirstOf 22 = .ok (.aload_n 0, 1) := by decide +kernel
theorem dX1_becomeFirstOf_23 : decode cX1_becomeFirstOf 23 = .ok (.getfield 7, 3) := by decide +kernel
theorem dX1_becomeFirstOf_26 : decode cX1_becomeFirstOf 26 = .ok (.iconst 0, 1) := by decide +kernel
theorem dX1_becomeFirstOf_27 : decode cX1_becomeFirstOf 27 = .ok (.iload_n 3, 1) := by decide +kernel
theorem dX1_becomeFirstOf_28 : decode cX1_becomeFirstOf 28 = .ok (.invokestatic 29, 3) := by decide +kernel
theorem dX1_becomeFirstOf_31 : decode cX1_becomeFirstOf 31 = .ok (.aload_n 1, 1) := by decide +kernel
theorem dX1_becomeFirstOf_32 : decode cX1_becomeFirstOf 32 = .ok (.getfield 13, 3) := by decide +kernel
theorem dX1_becomeFirstOf_35 : decode cX1_becomeFirstOf 35 = .ok (.iconst 0, 1) := by decide +kernel
theorem dX1_becomeFirstOf_36 : decode cX1_becomeFirstOf 36 = .ok (.aload_n 0, 1) := by decide +kernel
theorem dX1_becomeFirstOf_37 : decode cX1_becomeFirstOf 37 = .ok (.getfield 13, 3) := by decide +kernel
theorem dX1_becomeFirstOf_40 : decode cX1_becomeFirstOf 40 = .ok (.iconst 0, 1) := by decide +kernel
theorem dX1_becomeFirstOf_41 : decode cX1_becomeFirstOf 41 = .ok (.iload_n 3, 1) := by decide +kernel
theorem dX1_becomeFirstOf_42 : decode cX1_becomeFirstOf 42 = .ok (.invokestatic 29, 3) := by decide +kernel
theorem dX1_becomeFirstOf_45 : decode cX1_becomeFirstOf 45 = .ok (.aload_n 1, 1) := by decide +kernel
theorem dX1_becomeFirstOf_46 : decode cX1_becomeFirstOf 46 = .ok (.getfield 16, 3) := by decide +kernel
theorem dX1_becomeFirstOf_49 : decode cX1_becomeFirstOf 49 = .ok (.iconst 0, 1) := by decide +kernel
theorem dX1_becomeFirstOf_50 : decode cX1_becomeFirstOf 50 = .ok (.aload_n 0, 1) := by decide +kernel
theorem dX1_becomeFirstOf_51 : decode cX1_becomeFirstOf 51 = .ok (.getfield 16, 3) := by decide +kernel
theorem dX1_becomeFirstOf_54 : decode cX1_becomeFirstOf 54 = .ok (.iconst 0, 1) := by decide +kernel
theorem dX1_becomeFirstOf_55 : decode cX1_becomeFirstOf 55 = .ok (.iload_n 3, 1) := by decide +kernel
theorem dX1_becomeFirstOf_56 : decode cX1_becomeFirstOf 56 = .ok (.invokestatic 29, 3) := by decide +kernel
theorem dX1_becomeFirstOf_59 : decode cX1_becomeFirstOf 59 = .ok (.aload_n 0, 1) := by decide +kernel
theorem dX1_becomeFirstOf_60 : decode cX1_becomeFirstOf 60 = .ok (.iload_n 3, 1) := by decide +kernel
theorem dX1_becomeFirstOf_61 : decode cX1_becomeFirstOf 61 = .ok (.putfield 19, 3) := by decide +kernel
theorem dX1_becomeFirstOf_64 : decode cX1_becomeFirstOf 64 = .ok (.aload_n 1, 1) := by decide +kernel
theorem dX1_becomeFirstOf_65 : decode cX1_becomeFirstOf 65 = .ok (.iload_n 3, 1) := by decide +kernel
theorem dX1_becomeFirstOf_66 : decode cX1_becomeFirstOf 66 = .ok (.invokevirtual 35, 3) := by decide +kernel
theorem dX1_becomeFirstOf_69 : decode cX1_becomeFirstOf 69 = .ok (.return_, 1) := by decide +kernel
theorem dX1_dropFirst_0 : decode cX1_dropFirst 0 = .ok (.aload_n 0, 1) := by decide +kernel
theorem dX1_dropFirst_1 : decode cX1_dropFirst 1 = .ok (.getfield 19, 3) := by decide +kernel
theorem dX1_dropFirst_4 : decode cX1_dropFirst 4 = .ok (.iload_n 1, 1) := by decide +kernel
theorem dX1_dropFirst_5 : decode cX1_dropFirst 5 = .ok (.isub, 1) := by decide +kernel
theorem dX1_dropFirst_6 : decode cX1_dropFirst 6 = .ok (.istore_n 2, 1) := by decide +kernel
theorem dX1_dropFirst_7 : decode cX1_dropFirst 7 = .ok (.aload_n 0, 1) := by decide +kernel
theorem dX1_dropFirst_8 : decode cX1_dropFirst 8 = .ok (.getfield 7, 3) := by decide +kernel
theorem dX1_dropFirst_11 : decode cX1_dropFirst 11 = .ok (.iload_n 1, 1) := by decide +kernel
theorem dX1_dropFirst_12 : decode cX1_dropFirst 12 = .ok (.aload_n 0, 1) := by decide +kernel
theorem dX1_dropFirst_13 : decode cX1_dropFirst 13 = .ok (.getfield 7, 3) := by decide +kernel
theorem dX1_dropFirst_16 : decode cX1_dropFirst 16 = .ok (.iconst 0, 1) := by decide +kernel
theorem dX1_dropFirst_17 : decode cX1_dropFirst 17 = .ok (.iload_n 2, 1) := by decide +kernel
theorem dX1_dropFirst_18 : decode cX1_dropFirst 18 = .ok (.invokestatic 29, 3) := by decide +kernel
theorem dX1_dropFirst_21 : decode cX1_dropFirst 21 = .ok (.aload_n 0, 1) := by decide +kernel
theorem dX1_dropFirst_22 : decode cX1_dropFirst 22 = .ok (.getfield 13, 3) := by decide +kernel
theorem dX1_dropFirst_25 : decode cX1_dropFirst 25 = .ok (.iload_n 1, 1) := by decide +kernel
theorem dX1_dropFirst_26 : decode cX1_dropFirst 26 = .ok (.aload_n 0, 1) := by decide +kernel
theorem dX1_dropFirst_27 : decode cX1_dropFirst 27 = .ok (.getfield 13, 3) := by decide +kernel
theorem dX1_dropFirst_30 : decode cX1_dropFirst 30 = .ok (.iconst 0, 1) := by decide +kernel
theorem dX1_dropFirst_31 : decode cX1_dropFirst 31 = .ok (.iload_n 2, 1) := by decide +kernel
theorem dX1_dropFirst_32 : decode cX1_dropFirst 32 = .ok (.invokestatic 29, 3) := by decide +kernel
theorem dX1_dropFirst_35 : decode cX1_dropFirst 35 = .ok (.aload_n 0, 1) := by decide +kernel
theorem dX1_dropFirst_36 : decode cX1_dropFirst 36 = .ok (.getfield 16, 3) := by decide +kernel
theorem dX1_dropFirst_39 : decode cX1_dropFirst 39 = .ok (.iload_n 1, 1) := by decide +kernel
theorem dX1_dropFirst_40 : decode cX1_dropFirst 40 = .ok (.aload_n 0, 1) := by decide +kernel
theorem dX1_dropFirst_41 : decode cX1_dropFirst 41 = .ok (.getfield 16, 3) := by decide +kernel
theorem dX1_dropFirst_44 : decode cX1_dropFirst 44 = .ok (.iconst 0, 1) := by decide +kernel
theorem dX1_dropFirst_45 : decode cX1_dropFirst 45 = .ok (.iload_n 2, 1) := by decide +kernel
theorem dX1_dropFirst_46 : decode cX1_dropFirst 46 = .ok (.invokestatic 29, 3) := by decide +kernel
theorem dX1_dropFirst_49 : decode cX1_dropFirst 49 = .ok (.aload_n 0, 1) := by decide +kernel
theorem dX1_dropFirst_50 : decode cX1_dropFirst 50 = .ok (.iload_n 2, 1) := by decide +kernel
theorem dX1_dropFirst_51 : decode cX1_dropFirst 51 = .ok (.putfield 19, 3) := by decide +kernel
theorem dX1_dropFirst_54 : decode cX1_dropFirst 54 = .ok (.return_, 1) := by decide +kernel
theorem dX2_init_0 : decode cX2_init 0 = .ok (.aload_n 0, 1) := by decide +kernel
theorem dX2_init_1 : decode cX2_init 1 = .ok (.invokespecial 3, 3) := by decide +kernel
theorem dX2_init_4 : decode cX2_init 4 = .ok (.aload_n 0, 1) := by decide +kernel
theorem dX2_init_5 : decode cX2_init 5 = .ok (.bipush 16, 2) := by decide +kernel
theorem dX2_init_7 : decode cX2_init 7 = .ok (.anewarray 9, 3) := by decide +kernel
theorem dX2_init_10 : decode cX2_init 10 = .ok (.putfield 11, 3) := by decide +kernel
theorem dX2_init_13 : decode cX2_init 13 = .ok (.aload_n 0, 1) := by decide +kernel
theorem dX2_init_14 : decode cX2_init 14 = .ok (.bipush 16, 2) := by decide +kernel
theorem dX2_init_16 : decode cX2_init 16 = .ok (.newarray .int, 2) := by decide +kernel
theorem dX2_init_18 : decode cX2_init 18 = .ok (.putfield 17, 3) := by decide +kernel
theorem dX2_init_21 : decode cX2_init 21 = .ok (.aload_n 0, 1) := by decide +kernel
theorem dX2_init_22 : decode cX2_init 22 = .ok (.bipush 16, 2) := by decide +kernel
theorem dX2_init_24 : decode cX2_init 24 = .ok (.newarray .int, 2) := by decide +kernel
theorem dX2_init_26 : decode cX2_init 26 = .ok (.putfield 21, 3) := by decide +kernel
theorem dX2_init_29 : decode cX2_init 29 = .ok (.aload_n 0, 1) := by decide +kernel
theorem dX2_init_30 : decode cX2_init 30 = .ok (.iconst (-1), 1) := by decide +kernel
theorem dX2_init_31 : decode cX2_init 31 = .ok (.putfield 24, 3) := by decide +kernel
theorem dX2_init_34 : decode cX2_init 34 = .ok (.return_, 1) := by decide +kernel
theorem dX2_clear_0 : decode cX2_clear 0 = .ok (.aload_n 0, 1) := by decide +kernel
theorem dX2_clear_1 : decode cX2_clear 1 = .ok (.iconst 0, 1) := by decide +kernel
theorem dX2_clear_2 : decode cX2_clear 2 = .ok (.putfield 28, 3) := by decide +kernel
theorem dX2_clear_5 : decode cX2_clear 5 = .ok (.aload_n 0, 1) := by decide +kernel
theorem dX2_clear_6 : decode cX2_clear 6 = .ok (.iconst 0, 1) := by decide +kernel
theorem dX2_clear_7 : decode cX2_clear 7 = .ok (.putfield 31, 3) := by decide +kernel
theorem dX2_clear_10 : decode cX2_clear 10 = .ok (.aload_n 0, 1) := by decide +kernel
theorem dX2_clear_11 : decode cX2_clear 11 = .ok (.iconst (-1), 1) := by decide +kernel
theorem dX2_clear_12 : decode cX2_clear 12 = .ok (.putfield 24, 3) := by decide +kernel
theorem dX2_clear_15 : decode cX2_clear 15 = .ok (.return_, 1) := by decide +kernel
theorem dX2_append_0 : decode cX2_append 0 = .ok (.aload_n 1, 1) := by decide +kernel
theorem dX2_append_1 : decode cX2_append 1 = .ok (.ifnull 15, 3) := by decide +kernel
theorem dX2_append_4 : decode cX2_append 4 = .ok (.aload_n 0, 1) := by decide +kernel
theorem dX2_append_5 : decode cX2_append 5 = .ok (.getfield 28, 3) := by decide +kernel
theorem dX2_append_8 : decode cX2_append 8 = .ok (.aload_n 0, 1) := by decide +kernel
theorem dX2_append_9 : decode cX2_append 9 = .ok (.getfield 11, 3) := by decide +kernel
theorem dX2_append_12 : decode cX2_append 12 = .ok (.arraylength, 1) := by decide +kernel
theorem dX2_append_13 : decode cX2_append 13 = .ok (.if_icmp .lt 4, 3) := by decide +kernel
theorem dX2_append_16 : decode cX2_append 16 = .ok (.return_, 1) := by decide +kernel
theorem dX2_append_17 : decode cX2_append 17 = .ok (.aload_n 0, 1) := by decide +kernel
theorem dX2_append_18 : decode cX2_append 18 = .ok (.getfield 11, 3) := by decide +kernel
theorem dX2_append_21 : decode cX2_append 21 = .ok (.aload_n 0, 1) := by decide +kernel
theorem dX2_append_22 : decode cX2_append 22 = .ok (.getfield 28, 3) := by decide +kernel
theorem dX2_append_25 : decode cX2_append 25 = .ok (.aload_n 1, 1) := by decide +kernel
theorem dX2_append_26 : decode cX2_append 26 = .ok (.aastore, 1) := by decide +kernel
theorem dX2_append_27 : decode cX2_append 27 = .ok (.aload_n 0, 1) := by decide +kernel
theorem dX2_append_28 : decode cX2_append 28 = .ok (.getfield 17, 3) := by decide +kernel
theorem dX2_append_31 : decode cX2_append 31 = .ok (.aload_n 0, 1) := by decide +kernel
theorem dX2_append_32 : decode cX2_append 32 = .ok (.getfield 28, 3) := by decide +kernel
theorem dX2_append_35 : decode cX2_append 35 = .ok (.iload_n 2, 1) := by decide +kernel
theorem dX2_append_36 : decode cX2_append 36 = .ok (.iastore, 1) := by decide +kernel
theorem dX2_append_37 : decode cX2_append 37 = .ok (.aload_n 0, 1) := by decide +kernel
theorem dX2_append_38 : decode cX2_append 38 = .ok (.getfield 21, 3) := by decide +kernel
theorem dX2_append_41 : decode cX2_append 41 = .ok (.aload_n 0, 1) := by decide +kernel
theorem dX2_append_42 : decode cX2_append 42 = .ok (.getfield 28, 3) := by decide +kernel
theorem dX2_append_45 : decode cX2_append 45 = .ok (.iload_n 3, 1) := by decide +kernel
theorem dX2_append_46 : decode cX2_append 46 = .ok (.iastore, 1) := by decide +kernel
theorem dX2_append_47 : decode cX2_append 47 = .ok (.aload_n 0, 1) := by decide +kernel
theorem dX2_append_48 : decode cX2_append 48 = .ok (.dup, 1) := by decide +kernel
theorem dX2_append_49 : decode cX2_append 49 = .ok (.getfield 28, 3) := by decide +kernel
theorem dX2_append_52 : decode cX2_append 52 = .ok (.iconst 1, 1) := by decide +kernel
theorem dX2_append_53 : decode cX2_append 53 = .ok (.iadd, 1) := by decide +kernel
theorem dX2_append_54 : decode cX2_append 54 = .ok (.putfield 28, 3) := by decide +kernel
theorem dX2_append_57 : decode cX2_append 57 = .ok (.return_, 1) := by decide +kernel
set_option maxRecDepth 20000 in
theorem ggX3_init_X5_init : GoodIn wsX3_init wsX5_init := goodIn_r _ [25, 26, 2, 3, 27, 28, 29, 55, 56, 57] (by decide +kernel) (by decide +kernel)
set_option maxRecDepth 20000 in
theorem gX3_init_X5_init_n11 : GoodIn wsX3_init (wsX5_init) := ggX3_init_X5_init
set_option maxRecDepth 20000 in
theorem ggX3_init_X1_init : GoodIn wsX3_init wsX1_init := goodIn_r _ [32, 33, 2, 3, 27, 34, 35, 36, 77, 78, 79, 80] (by decide +kernel) (by decide +kernel)
set_option maxRecDepth 20000 in
theorem gX3_init_X1_init : GoodIn wsX3_init (wsX1_init) := ggX3_init_X1_init
set_option maxRecDepth 20000 in
theorem ggX3_init_X6_init : GoodIn wsX3_init wsX6_init := goodIn_r _ [38, 39, 2, 3, 40, 17, 18, 41, 42, 43, 44, 45, 46, 31, 32, 33, 27, 34, 35, 36, 47, 48, 49, 50, 51, 52, 53, 54, 77, 78, 79, 80, 81, 82, 83, 84, 85, 86, 87, 88, 89, 90, 91] (by decide +kernel) (by decide +kernel)
set_option maxRecDepth 20000 in
theorem gX3_init_X6_init_n58 : GoodIn wsX3_init (wsX6_init) := ggX3_init_X6_init
theorem dX3_init_0 : decode cX3_init 0 = .ok (.aload_n 0, 1) := by decide +kernel
theorem dX3_init_1 : decode cX3_init 1 = .ok (.invokespecial 3, 3) := by decide +kernel
theorem dX3_init_4 : decode cX3_init 4 = .ok (.aload_n 0, 1) := by decide +kernel
theorem dX3_init_5 : decode cX3_init 5 = .ok (.new 9, 3) := by decide +kernel
theorem dX3_init_8 : decode cX3_init 8 = .ok (.dup, 1) := by decide +kernel
theorem dX3_init_9 : decode cX3_init 9 = .ok (.invokespecial 11, 3) := by decide +kernel
theorem dX3_init_12 : decode cX3_init 12 = .ok (.putfield 12, 3) := by decide +kernel
theorem dX3_init_15 : decode cX3_init 15 = .ok (.aload_n 0, 1) := by decide +kernel
theorem dX3_init_16 : decode cX3_init 16 = .ok (.bipush 100, 2) := by decide +kernel
theorem dX3_init_18 : decode cX3_init 18 = .ok (.putfield 18, 3) := by decide +kernel
theorem dX3_init_21 : decode cX3_init 21 = .ok (.aload_n 0, 1) := by decide +kernel
theorem dX3_init_22 : decode cX3_init 22 = .ok (.bipush 100, 2) := by decide +kernel
theorem dX3_init_24 : decode cX3_init 24 = .ok (.putfield 22, 3) := by decide +kernel
theorem dX3_init_27 : decode cX3_init 27 = .ok (.aload_n 0, 1) := by decide +kernel
theorem dX3_init_28 : decode cX3_init 28 = .ok (.bipush 100, 2) := by decide +kernel
theorem dX3_init_30 : decode cX3_init 30 = .ok (.putfield 25, 3) := by decide +kernel
theorem dX3_init_33 : decode cX3_init 33 = .ok (.aload_n 0, 1) := by decide +kernel
theorem dX3_init_34 : decode cX3_init 34 = .ok (.iconst 1, 1) := by decide +kernel
theorem dX3_init_35 : decode cX3_init 35 = .ok (.putfield 28, 3) := by decide +kernel
theorem dX3_init_38 : decode cX3_init 38 = .ok (.aload_n 0, 1) := by decide +kernel
theorem dX3_init_39 : decode cX3_init 39 = .ok (.iconst 1, 1) := by decide +kernel
theorem dX3_init_40 : decode cX3_init 40 = .ok (.putfield 31, 3) := by decide +kernel
theorem dX3_init_43 : decode cX3_init 43 = .ok (.aload_n 0, 1) := by decide +kernel
theorem dX3_init_44 : decode cX3_init 44 = .ok (.iload_n 1, 1) := by decide +kernel
theorem dX3_init_45 : decode cX3_init 45 = .ok (.putfield 34, 3) := by decide +kernel
theorem dX3_init_48 : decode cX3_init 48 = .ok (.aload_n 0, 1) := by decide +kernel
theorem dX3_init_49 : decode cX3_init 49 = .ok (.iload_n 2, 1) := by decide +kernel
theorem dX3_init_50 : decode cX3_init 50 = .ok (.putfield 37, 3) := by decide +kernel
theorem dX3_init_53 : decode cX3_init 53 = .ok (.aload_n 0, 1) := by decide +kernel
theorem dX3_init_54 : decode cX3_init 54 = .ok (.iload 4, 2) := by decide +kernel
theorem dX3_init_56 : decode cX3_init 56 = .ok (.putfield 40, 3) := by decide +kernel
theorem dX3_init_59 : decode cX3_init 59 = .ok (.aload_n 0, 1) := by decide +kernel
theorem dX3_init_60 : decode cX3_init 60 = .ok (.new 43, 3) := by decide +kernel
theorem dX3_init_63 : decode cX3_init 63 = .ok (.dup, 1) := by decide +kernel
theorem dX3_init_64 : decode cX3_init 64 = .ok (.iload_n 2, 1) := by decide +kernel
theorem dX3_init_65 : decode cX3_init 65 = .ok (.invokespecial 45, 3) := by decide +kernel
theorem dX3_init_68 : decode cX3_init 68 = .ok (.putfield 48, 3) := by decide +kernel
theorem dX3_init_71 : decode cX3_init 71 = .ok (.aload_n 0, 1) := by decide +kernel
theorem dX3_init_72 : decode cX3_init 72 = .ok (.iload_n 3, 1) := by decide +kernel
theorem dX3_init_73 : decode cX3_init 73 = .ok (.anewarray 52, 3) := by decide +kernel
theorem dX3_init_76 : decode cX3_init 76 = .ok (.putfield 54, 3) := by decide +kernel
theorem dX3_init_79 : decode cX3_init 79 = .ok (.iconst 0, 1) := by decide +kernel
theorem dX3_init_80 : decode cX3_init 80 = .ok (.istore 5, 2) := by decide +kernel
theorem dX3_init_82 : decode cX3_init 82 = .ok (.iload 5, 2) := by decide +kernel
theorem dX3_init_84 : decode cX3_init 84 = .ok (.iload_n 3, 1) := by decide +kernel
theorem dX3_init_85 : decode cX3_init 85 = .ok (.if_icmp .ge 23, 3) := by decide +kernel
theorem dX3_init_88 : decode cX3_init 88 = .ok (.aload_n 0, 1) := by decide +kernel
theorem dX3_init_89 : decode cX3_init 89 = .ok (.getfield 54, 3) := by decide +kernel
theorem dX3_init_92 : decode cX3_init 92 = .ok (.iload 5, 2) := by decide +kernel
theorem dX3_init_94 : decode cX3_init 94 = .ok (.new 52, 3) := by decide +kernel
theorem dX3_init_97 : decode cX3_init 97 = .ok (.dup, 1) := by decide +kernel
theorem dX3_init_98 : decode cX3_init 98 = .ok (.invokespecial 58, 3) := by decide +kernel
theorem dX3_init_101 : decode cX3_init 101 = .ok (.aastore, 1) := by decide +kernel
theorem dX3_init_102 : decode cX3_init 102 = .ok (.iinc 5 1, 3) := by decide +kernel
theorem dX3_init_105 : decode cX3_init 105 = .ok (.goto (-23), 3) := by decide +kernel
theorem dX3_init_108 : decode cX3_init 108 = .ok (.return_, 1) := by decide +kernel
theorem dX3_freePlaces_0 : decode cX3_freePlaces 0 = .ok (.aload_n 0, 1) := by decide +kernel
theorem dX3_freePlaces_1 : decode cX3_freePlaces 1 = .ok (.getfield 37, 3) := by decide +kernel
theorem dX3_freePlaces_4 : decode cX3_freePlaces 4 = .ok (.aload_n 0, 1) := by decide +kernel
theorem dX3_freePlaces_5 : decode cX3_freePlaces 5 = .ok (.getfield 48, 3) := by decide +kernel
theorem dX3_freePlaces_8 : decode cX3_freePlaces 8 = .ok (.getfield 59, 3) := by decide +kernel
theorem dX3_freePlaces_11 : decode cX3_freePlaces 11 = .ok (.isub, 1) := by decide +kernel
theorem dX3_freePlaces_12 : decode cX3_freePlaces 12 = .ok (.aload_n 0, 1) := by decide +kernel
theorem dX3_freePlaces_13 : decode cX3_freePlaces 13 = .ok (.getfield 62, 3) := by decide +kernel
theorem dX3_freePlaces_16 : decode cX3_freePlaces 16 = .ok (.isub, 1) := by decide +kernel
theorem dX3_freePlaces_17 : decode cX3_freePlaces 17 = .ok (.ireturn, 1) := by decide +kernel
set_option maxRecDepth 20000 in
theorem ggX3_ask_X3_freePlaces : GoodIn wsX3_ask wsX3_freePlaces := goodIn_r _ [8, 9, 10, 11, 12, 13, 14, 15, 16, 17, 18, 19, 20, 21, 22, 23, 24, 25, 26, 27, 28, 29, 30, 31, 32, 33, 34, 35] (by decide +kernel) (by decide +kernel)
set_option maxRecDepth 20000 in
theorem gX3_ask_X3_freePlaces : GoodIn wsX3_ask (wsV RX3 69 RX3 yX3_freePlaces wsX3_freePlaces) := goodIn_app (goodIn_of _ (by decide +kernel)) ggX3_ask_X3_freePlaces
theorem dX3_ask_0 : decode cX3_ask 0 = .ok (.iconst 0, 1) := by decide +kernel
theorem dX3_ask_1 : decode cX3_ask 1 = .ok (.istore_n 1, 1) := by decide +kernel
theorem dX3_ask_2 : decode cX3_ask 2 = .ok (.aload_n 0, 1) := by decide +kernel
theorem dX3_ask_3 : decode cX3_ask 3 = .ok (.getfield 65, 3) := by decide +kernel
theorem dX3_ask_6 : decode cX3_ask 6 = .ok (.ifCond .eq 9, 3) := by decide +kernel
theorem dX3_ask_9 : decode cX3_ask 9 = .ok (.bipush (-3), 2) := by decide +kernel
theorem dX3_ask_11 : decode cX3_ask 11 = .ok (.istore_n 1, 1) := by decide +kernel
theorem dX3_ask_12 : decode cX3_ask 12 = .ok (.goto 26, 3) := by decide +kernel
theorem dX3_ask_15 : decode cX3_ask 15 = .ok (.aload_n 0, 1) := by decide +kernel
theorem dX3_ask_16 : decode cX3_ask 16 = .ok (.invokevirtual 69, 3) := by decide +kernel
theorem dX3_ask_19 : decode cX3_ask 19 = .ok (.ifCond .gt 9, 3) := by decide +kernel
theorem dX3_ask_22 : decode cX3_ask 22 = .ok (.bipush (-2), 2) := by decide +kernel
theorem dX3_ask_24 : decode cX3_ask 24 = .ok (.istore_n 1, 1) := by decide +kernel
theorem dX3_ask_25 : decode cX3_ask 25 = .ok (.goto 13, 3) := by decide +kernel
theorem dX3_ask_28 : decode cX3_ask 28 = .ok (.aload_n 0, 1) := by decide +kernel
theorem dX3_ask_29 : decode cX3_ask 29 = .ok (.getfield 25, 3) := by decide +kernel
theorem dX3_ask_32 : decode cX3_ask 32 = .ok (.ifCond .gt 6, 3) := by decide +kernel
theorem dX3_ask_35 : decode cX3_ask 35 = .ok (.bipush (-4), 2) := by decide +kernel
theorem dX3_ask_37 : decode cX3_ask 37 = .ok (.istore_n 1, 1) := by decide +kernel
theorem dX3_ask_38 : decode cX3_ask 38 = .ok (.iload_n 1, 1) := by decide +kernel
theorem dX3_ask_39 : decode cX3_ask 39 = .ok (.ifCond .eq 13, 3) := by decide +kernel
theorem dX3_ask_42 : decode cX3_ask 42 = .ok (.aload_n 0, 1) := by decide +kernel
theorem dX3_ask_43 : decode cX3_ask 43 = .ok (.dup, 1) := by decide +kernel
theorem dX3_ask_44 : decode cX3_ask 44 = .ok (.getfield 73, 3) := by decide +kernel
theorem dX3_ask_47 : decode cX3_ask 47 = .ok (.iconst 1, 1) := by decide +kernel
theorem dX3_ask_48 : decode cX3_ask 48 = .ok (.iadd, 1) := by decide +kernel
theorem dX3_ask_49 : decode cX3_ask 49 = .ok (.putfield 73, 3) := by decide +kernel
theorem dX3_ask_52 : decode cX3_ask 52 = .ok (.iload_n 1, 1) := by decide +kernel
theorem dX3_ask_53 : decode cX3_ask 53 = .ok (.ireturn, 1) := by decide +kernel
set_option maxRecDepth 20000 in
theorem ggX3_take_X1_append : GoodIn wsX3_take wsX1_append := goodIn_r _ [7, 8, 9, 10, 11, 31, 32, 33, 34] (by decide +kernel) (by decide +kernel)
set_option maxRecDepth 20000 in
theorem gX3_take_X1_append : GoodIn wsX3_take (wsV RX3 76 RX1 yX1_append wsX1_append) := goodIn_app (goodIn_of _ (by decide +kernel)) ggX3_take_X1_append
theorem dX3_take_0 : decode cX3_take 0 = .ok (.aload_n 0, 1) := by decide +kernel
theorem dX3_take_1 : decode cX3_take 1 = .ok (.getfield 48, 3) := by decide +kernel
theorem dX3_take_4 : decode cX3_take 4 = .ok (.iload_n 1, 1) := by decide +kernel
theorem dX3_take_5 : decode cX3_take 5 = .ok (.iload_n 2, 1) := by decide +kernel
theorem dX3_take_6 : decode cX3_take 6 = .ok (.iload_n 3, 1) := by decide +kernel
theorem dX3_take_7 : decode cX3_take 7 = .ok (.invokevirtual 76, 3) := by decide +kernel
theorem dX3_take_10 : decode cX3_take 10 = .ok (.aload_n 0, 1) := by decide +kernel
theorem dX3_take_11 : decode cX3_take 11 = .ok (.dup, 1) := by decide +kernel
theorem dX3_take_12 : decode cX3_take 12 = .ok (.getfield 25, 3) := by decide +kernel
theorem dX3_take_15 : decode cX3_take 15 = .ok (.iconst 1, 1) := by decide +kernel
theorem dX3_take_16 : decode cX3_take 16 = .ok (.isub, 1) := by decide +kernel
theorem dX3_take_17 : decode cX3_take 17 = .ok (.putfield 25, 3) := by decide +kernel
theorem dX3_take_20 : decode cX3_take 20 = .ok (.return_, 1) := by decide +kernel
theorem dX3_growTokens_0 : decode cX3_growTokens 0 = .ok (.aload_n 0, 1) := by decide +kernel
theorem dX3_growTokens_1 : decode cX3_growTokens 1 = .ok (.aload_n 0, 1) := by decide +kernel
theorem dX3_growTokens_2 : decode cX3_growTokens 2 = .ok (.getfield 25, 3) := by decide +kernel
theorem dX3_growTokens_5 : decode cX3_growTokens 5 = .ok (.aload_n 0, 1) := by decide +kernel
theorem dX3_growTokens_6 : decode cX3_growTokens 6 = .ok (.getfield 18, 3) := by decide +kernel
theorem dX3_growTokens_9 : decode cX3_growTokens 9 = .ok (.iadd, 1) := by decide +kernel
theorem dX3_growTokens_10 : decode cX3_growTokens 10 = .ok (.aload_n 0, 1) := by decide +kernel
theorem dX3_growTokens_11 : decode cX3_growTokens 11 = .ok (.getfield 22, 3) := by decide +kernel
theorem dX3_growTokens_14 : decode cX3_growTokens 14 = .ok (.invokestatic 80, 3) := by decide +kernel
theorem dX3_growTokens_17 : decode cX3_growTokens 17 = .ok (.putfield 25, 3) := by decide +kernel
theorem dX3_growTokens_20 : decode cX3_growTokens 20 = .ok (.return_, 1) := by decide +kernel
set_option maxRecDepth 20000 in
theorem ggX3_startBatch_X1_becomeFirstOf : GoodIn wsX3_startBatch wsX1_becomeFirstOf := goodIn_r _ [11, 12, 13, 14, 15, 16, 17, 18, 19, 20, 21, 22, 23, 24, 25, 26, 10, 27, 52, 53, 54, 55] (by decide +kernel) (by decide +kernel)
set_option maxRecDepth 20000 in
theorem gX3_startBatch_X1_becomeFirstOf : GoodIn wsX3_startBatch (wsV RX3 89 RX1 yX1_becomeFirstOf wsX1_becomeFirstOf) := goodIn_app (goodIn_of _ (by decide +kernel)) ggX3_startBatch_X1_becomeFirstOf
theorem dX3_startBatch_0 : decode cX3_startBatch 0 = .ok (.aload_n 1, 1) := by decide +kernel
theorem dX3_startBatch_1 : decode cX3_startBatch 1 = .ok (.getfield 86, 3) := by decide +kernel
theorem dX3_startBatch_4 : decode cX3_startBatch 4 = .ok (.aload_n 0, 1) := by decide +kernel
theorem dX3_startBatch_5 : decode cX3_startBatch 5 = .ok (.getfield 48, 3) := by decide +kernel
theorem dX3_startBatch_8 : decode cX3_startBatch 8 = .ok (.aload_n 0, 1) := by decide +kernel
theorem dX3_startBatch_9 : decode cX3_startBatch 9 = .ok (.getfield 31, 3) := by decide +kernel
theorem dX3_startBatch_12 : decode cX3_startBatch 12 = .ok (.invokevirtual 89, 3) := by decide +kernel
theorem dX3_startBatch_15 : decode cX3_startBatch 15 = .ok (.aload_n 1, 1) := by decide +kernel
theorem dX3_startBatch_16 : decode cX3_startBatch 16 = .ok (.aload_n 0, 1) := by decide +kernel
theorem dX3_startBatch_17 : decode cX3_startBatch 17 = .ok (.getfield 40, 3) := by decide +kernel
theorem dX3_startBatch_20 : decode cX3_startBatch 20 = .ok (.aload_n 1, 1) := by decide +kernel
theorem dX3_startBatch_21 : decode cX3_startBatch 21 = .ok (.getfield 86, 3) := by decide +kernel
theorem dX3_startBatch_24 : decode cX3_startBatch 24 = .ok (.getfield 59, 3) := by decide +kernel
theorem dX3_startBatch_27 : decode cX3_startBatch 27 = .ok (.imul, 1) := by decide +kernel
theorem dX3_startBatch_28 : decode cX3_startBatch 28 = .ok (.putfield 93, 3) := by decide +kernel
theorem dX3_startBatch_31 : decode cX3_startBatch 31 = .ok (.return_, 1) := by decide +kernel
set_option maxRecDepth 20000 in
theorem ggX3_collectGifts_X3_collectSum : GoodIn wsX3_collectGifts wsX3_collectSum := goodIn_r _ [11, 2, 3, 4, 6, 12, 5, 13, 14, 15, 16, 17, 18, 19, 20, 21, 46, 47, 48, 49, 50, 51, 52, 53, 54, 27, 28, 29, 30, 31, 32, 33, 34, 35, 36, 37, 38, 39, 40, 41, 42, 43, 44, 45, 55, 56, 57, 58, 59, 60] (by decide +kernel) (by decide +kernel)
set_option maxRecDepth 20000 in
theorem gX3_collectGifts_X3_collectSum : GoodIn wsX3_collectGifts (wsV RX3 96 RX3 yX3_collectSum wsX3_collectSum) := goodIn_app (goodIn_of _ (by decide +kernel)) ggX3_collectGifts_X3_collectSum
set_option maxRecDepth 20000 in
theorem ggX3_collectGifts_X3_collectFrom : GoodIn wsX3_collectGifts wsX3_collectFrom := goodIn_r _ [25, 1, 12, 26, 13, 14, 15, 16, 17, 18, 19, 20, 21, 27, 28, 29, 30, 31, 32, 33, 34, 35, 36, 37, 38, 39, 40, 41, 42, 43, 44, 45, 55, 56, 57, 58, 59, 60] (by decide +kernel) (by decide +kernel)
set_option maxRecDepth 20000 in
theorem gX3_collectGifts_X3_collectFrom : GoodIn wsX3_collectGifts (wsV RX3 111 RX3 yX3_collectFrom wsX3_collectFrom) := goodIn_app (goodIn_of _ (by decide +kernel)) ggX3_collectGifts_X3_collectFrom
theorem dX3_collectGifts_0 : decode cX3_collectGifts 0 = .ok (.aload_n 0, 1) := by decide +kernel
theorem dX3_collectGifts_1 : decode cX3_collectGifts 1 = .ok (.getfield 34, 3) := by decide +kernel
theorem dX3_collectGifts_4 : decode cX3_collectGifts 4 = .ok (.iconst 3, 1) := by decide +kernel
theorem dX3_collectGifts_5 : decode cX3_collectGifts 5 = .ok (.if_icmp .ne 9, 3) := by decide +kernel
theorem dX3_collectGifts_8 : decode cX3_collectGifts 8 = .ok (.aload_n 0, 1) := by decide +kernel
theorem dX3_collectGifts_9 : decode cX3_collectGifts 9 = .ok (.aload_n 1, 1) := by decide +kernel
theorem dX3_collectGifts_10 : decode cX3_collectGifts 10 = .ok (.invokevirtual 96, 3) := by decide +kernel
theorem dX3_collectGifts_13 : decode cX3_collectGifts 13 = .ok (.return_, 1) := by decide +kernel
theorem dX3_collectGifts_14 : decode cX3_collectGifts 14 = .ok (.iconst 0, 1) := by decide +kernel
theorem dX3_collectGifts_15 : decode cX3_collectGifts 15 = .ok (.istore_n 2, 1) := by decide +kernel
theorem dX3_collectGifts_16 : decode cX3_collectGifts 16 = .ok (.iload_n 2, 1) := by decide +kernel
theorem dX3_collectGifts_17 : decode cX3_collectGifts 17 = .ok (.aload_n 1, 1) := by decide +kernel
theorem dX3_collectGifts_18 : decode cX3_collectGifts 18 = .ok (.getfield 86, 3) := by decide +kernel
theorem dX3_collectGifts_21 : decode cX3_collectGifts 21 = .ok (.getfield 59, 3) := by decide +kernel
theorem dX3_collectGifts_24 : decode cX3_collectGifts 24 = .ok (.if_icmp .ge 35, 3) := by decide +kernel
theorem dX3_collectGifts_27 : decode cX3_collectGifts 27 = .ok (.aload_n 0, 1) := by decide +kernel
theorem dX3_collectGifts_28 : decode cX3_collectGifts 28 = .ok (.aload_n 1, 1) := by decide +kernel
theorem dX3_collectGifts_29 : decode cX3_collectGifts 29 = .ok (.getfield 86, 3) := by decide +kernel
theorem dX3_collectGifts_32 : decode cX3_collectGifts 32 = .ok (.getfield 100, 3) := by decide +kernel
theorem dX3_collectGifts_35 : decode cX3_collectGifts 35 = .ok (.iload_n 2, 1) := by decide +kernel
theorem dX3_collectGifts_36 : decode cX3_collectGifts 36 = .ok (.iaload, 1) := by decide +kernel
theorem dX3_collectGifts_37 : decode cX3_collectGifts 37 = .ok (.aload_n 1, 1) := by decide +kernel
theorem dX3_collectGifts_38 : decode cX3_collectGifts 38 = .ok (.getfield 86, 3) := by decide +kernel
theorem dX3_collectGifts_41 : decode cX3_collectGifts 41 = .ok (.getfield 104, 3) := by decide +kernel
theorem dX3_collectGifts_44 : decode cX3_collectGifts 44 = .ok (.iload_n 2, 1) := by decide +kernel
theorem dX3_collectGifts_45 : decode cX3_collectGifts 45 = .ok (.iaload, 1) := by decide +kernel
theorem dX3_collectGifts_46 : decode cX3_collectGifts 46 = .ok (.aload_n 1, 1) := by decide +kernel
theorem dX3_collectGifts_47 : decode cX3_collectGifts 47 = .ok (.getfield 107, 3) := by decide +kernel
theorem dX3_collectGifts_50 : decode cX3_collectGifts 50 = .ok (.invokevirtual 111, 3) := by decide +kernel
theorem dX3_collectGifts_53 : decode cX3_collectGifts 53 = .ok (.iinc 2 1, 3) := by decide +kernel
theorem dX3_collectGifts_56 : decode cX3_collectGifts 56 = .ok (.goto (-40), 3) := by decide +kernel
theorem dX3_collectGifts_59 : decode cX3_collectGifts 59 = .ok (.return_, 1) := by decide +kernel
set_option maxRecDepth 20000 in
theorem ggX3_collectSum_X2_append : GoodIn wsX3_collectSum wsX2_append := goodIn_r _ [11, 12, 13, 14, 15, 44, 45, 46, 47, 48, 49] (by decide +kernel) (by decide +kernel)
set_option maxRecDepth 20000 in
theorem gX3_collectSum_X2_append : GoodIn wsX3_collectSum (wsV RX3 119 RX2 yX2_append wsX2_append) := goodIn_app (goodIn_of _ (by decide +kernel)) ggX3_collectSum_X2_append
theorem dX3_collectSum_0 : decode cX3_collectSum 0 = .ok (.iconst 0, 1) := by decide +kernel
theorem dX3_collectSum_1 : decode cX3_collectSum 1 = .ok (.istore_n 2, 1) := by decide +kernel
theorem dX3_collectSum_2 : decode cX3_collectSum 2 = .ok (.iconst 0, 1) := by decide +kernel
theorem dX3_collectSum_3 : decode cX3_collectSum 3 = .ok (.istore_n 3, 1) := by decide +kernel
theorem dX3_collectSum_4 : decode cX3_collectSum 4 = .ok (.iload_n 3, 1) := by decide +kernel
theorem dX3_collectSum_5 : decode cX3_collectSum 5 = .ok (.aload_n 1, 1) := by decide +kernel
theorem dX3_collectSum_6 : decode cX3_collectSum 6 = .ok (.getfield 86, 3) := by decide +kernel
theorem dX3_collectSum_9 : decode cX3_collectSum 9 = .ok (.getfield 59, 3) := by decide +kernel
theorem dX3_collectSum_12 : decode cX3_collectSum 12 = .ok (.if_icmp .ge 21, 3) := by decide +kernel
theorem dX3_collectSum_15 : decode cX3_collectSum 15 = .ok (.iload_n 2, 1) := by decide +kernel
theorem dX3_collectSum_16 : decode cX3_collectSum 16 = .ok (.aload_n 1, 1) := by decide +kernel
theorem dX3_collectSum_17 : decode cX3_collectSum 17 = .ok (.getfield 86, 3) := by decide +kernel
theorem dX3_collectSum_20 : decode cX3_collectSum 20 = .ok (.getfield 100, 3) := by decide +kernel
theorem dX3_collectSum_23 : decode cX3_collectSum 23 = .ok (.iload_n 3, 1) := by decide +kernel
theorem dX3_collectSum_24 : decode cX3_collectSum 24 = .ok (.iaload, 1) := by decide +kernel
theorem dX3_collectSum_25 : decode cX3_collectSum 25 = .ok (.iadd, 1) := by decide +kernel
theorem dX3_collectSum_26 : decode cX3_collectSum 26 = .ok (.istore_n 2, 1) := by decide +kernel
theorem dX3_collectSum_27 : decode cX3_collectSum 27 = .ok (.iinc 3 1, 3) := by decide +kernel
theorem dX3_collectSum_30 : decode cX3_collectSum 30 = .ok (.goto (-26), 3) := by decide +kernel
theorem dX3_collectSum_33 : decode cX3_collectSum 33 = .ok (.aload_n 1, 1) := by decide +kernel
theorem dX3_collectSum_34 : decode cX3_collectSum 34 = .ok (.getfield 107, 3) := by decide +kernel
theorem dX3_collectSum_37 : decode cX3_collectSum 37 = .ok (.aload_n 0, 1) := by decide +kernel
theorem dX3_collectSum_38 : decode cX3_collectSum 38 = .ok (.getfield 115, 3) := by decide +kernel
theorem dX3_collectSum_41 : decode cX3_collectSum 41 = .ok (.iload_n 2, 1) := by decide +kernel
theorem dX3_collectSum_42 : decode cX3_collectSum 42 = .ok (.aload_n 1, 1) := by decide +kernel
theorem dX3_collectSum_43 : decode cX3_collectSum 43 = .ok (.getfield 86, 3) := by decide +kernel
theorem dX3_collectSum_46 : decode cX3_collectSum 46 = .ok (.getfield 104, 3) := by decide +kernel
theorem dX3_collectSum_49 : decode cX3_collectSum 49 = .ok (.iconst 0, 1) := by decide +kernel
theorem dX3_collectSum_50 : decode cX3_collectSum 50 = .ok (.iaload, 1) := by decide +kernel
theorem dX3_collectSum_51 : decode cX3_collectSum 51 = .ok (.invokevirtual 119, 3) := by decide +kernel
theorem dX3_collectSum_54 : decode cX3_collectSum 54 = .ok (.return_, 1) := by decide +kernel
set_option maxRecDepth 20000 in
theorem ggX3_collectFrom_X2_append : GoodIn wsX3_collectFrom wsX2_append := goodIn_r _ [8, 9, 10, 11, 12, 32, 33, 34, 35, 36, 37] (by decide +kernel) (by decide +kernel)
set_option maxRecDepth 20000 in
theorem gX3_collectFrom_X2_append : GoodIn wsX3_collectFrom (wsV RX3 119 RX2 yX2_append wsX2_append) := goodIn_app (goodIn_of _ (by decide +kernel)) ggX3_collectFrom_X2_append
theorem dX3_collectFrom_0 : decode cX3_collectFrom 0 = .ok (.aload_n 0, 1) := by decide +kernel
theorem dX3_collectFrom_1 : decode cX3_collectFrom 1 = .ok (.getfield 34, 3) := by decide +kernel
theorem dX3_collectFrom_4 : decode cX3_collectFrom 4 = .ok (.tableswitch 90 0 2 #[28, 41, 64], 28) := by decide +kernel
theorem dX3_collectFrom_32 : decode cX3_collectFrom 32 = .ok (.aload_n 3, 1) := by decide +kernel
theorem dX3_collectFrom_33 : decode cX3_collectFrom 33 = .ok (.aload_n 0, 1) := by decide +kernel
theorem dX3_collectFrom_34 : decode cX3_collectFrom 34 = .ok (.getfield 115, 3) := by decide +kernel
theorem dX3_collectFrom_37 : decode cX3_collectFrom 37 = .ok (.iload_n 1, 1) := by decide +kernel
theorem dX3_collectFrom_38 : decode cX3_collectFrom 38 = .ok (.iload_n 2, 1) := by decide +kernel
theorem dX3_collectFrom_39 : decode cX3_collectFrom 39 = .ok (.invokevirtual 119, 3) := by decide +kernel
theorem dX3_collectFrom_42 : decode cX3_collectFrom 42 = .ok (.goto 52, 3) := by decide +kernel
theorem dX3_collectFrom_45 : decode cX3_collectFrom 45 = .ok (.aload_n 3, 1) := by decide +kernel
theorem dX3_collectFrom_46 : decode cX3_collectFrom 46 = .ok (.aload_n 0, 1) := by decide +kernel
theorem dX3_collectFrom_47 : decode cX3_collectFrom 47 = .ok (.getfield 115, 3) := by decide +kernel
theorem dX3_collectFrom_50 : decode cX3_collectFrom 50 = .ok (.iload_n 1, 1) := by decide +kernel
theorem dX3_collectFrom_51 : decode cX3_collectFrom 51 = .ok (.iload_n 2, 1) := by decide +kernel
theorem dX3_collectFrom_52 : decode cX3_collectFrom 52 = .ok (.invokevirtual 119, 3) := by decide +kernel
theorem dX3_collectFrom_55 : decode cX3_collectFrom 55 = .ok (.aload_n 3, 1) := by decide +kernel
theorem dX3_collectFrom_56 : decode cX3_collectFrom 56 = .ok (.aload_n 0, 1) := by decide +kernel
theorem dX3_collectFrom_57 : decode cX3_collectFrom 57 = .ok (.getfield 124, 3) := by decide +kernel
theorem dX3_collectFrom_60 : decode cX3_collectFrom 60 = .ok (.iload_n 1, 1) := by decide +kernel
theorem dX3_collectFrom_61 : decode cX3_collectFrom 61 = .ok (.iload_n 2, 1) := by decide +kernel
theorem dX3_collectFrom_62 : decode cX3_collectFrom 62 = .ok (.invokevirtual 119, 3) := by decide +kernel
theorem dX3_collectFrom_65 : decode cX3_collectFrom 65 = .ok (.goto 29, 3) := by decide +kernel
theorem dX3_collectFrom_68 : decode cX3_collectFrom 68 = .ok (.aload_n 3, 1) := by decide +kernel
theorem dX3_collectFrom_69 : decode cX3_collectFrom 69 = .ok (.iload_n 1, 1) := by decide +kernel
theorem dX3_collectFrom_70 : decode cX3_collectFrom 70 = .ok (.iconst 1, 1) := by decide +kernel
theorem dX3_collectFrom_71 : decode cX3_collectFrom 71 = .ok (.iand, 1) := by decide +kernel
theorem dX3_collectFrom_72 : decode cX3_collectFrom 72 = .ok (.ifCond .ne 10, 3) := by decide +kernel
theorem dX3_collectFrom_75 : decode cX3_collectFrom 75 = .ok (.aload_n 0, 1) := by decide +kernel
theorem dX3_collectFrom_76 : decode cX3_collectFrom 76 = .ok (.getfield 115, 3) := by decide +kernel
theorem dX3_collectFrom_79 : decode cX3_collectFrom 79 = .ok (.goto 7, 3) := by decide +kernel
theorem dX3_collectFrom_82 : decode cX3_collectFrom 82 = .ok (.aload_n 0, 1) := by decide +kernel
theorem dX3_collectFrom_83 : decode cX3_collectFrom 83 = .ok (.getfield 124, 3) := by decide +kernel
theorem dX3_collectFrom_86 : decode cX3_collectFrom 86 = .ok (.iload_n 1, 1) := by decide +kernel
theorem dX3_collectFrom_87 : decode cX3_collectFrom 87 = .ok (.iload_n 2, 1) := by decide +kernel
theorem dX3_collectFrom_88 : decode cX3_collectFrom 88 = .ok (.invokevirtual 119, 3) := by decide +kernel
theorem dX3_collectFrom_91 : decode cX3_collectFrom 91 = .ok (.goto 3, 3) := by decide +kernel
theorem dX3_collectFrom_94 : decode cX3_collectFrom 94 = .ok (.return_, 1) := by decide +kernel
set_option maxRecDepth 20000 in
theorem ggX3_control_X3_controlWorkers : GoodIn wsX3_control wsX3_controlWorkers := goodIn_r _ [9, 10, 11, 12, 13, 14, 15, 16, 17, 18, 8, 19, 20, 46, 47, 48, 49, 50, 51, 52, 53, 54, 55, 56, 57, 58, 59, 60, 61, 62, 63, 64, 68, 69, 70, 71, 72, 73, 74, 75, 76] (by decide +kernel) (by decide +kernel)
set_option maxRecDepth 20000 in
theorem gX3_control_X3_controlWorkers : GoodIn wsX3_control (wsV RX3 127 RX3 yX3_controlWorkers wsX3_controlWorkers) := goodIn_app (goodIn_of _ (by decide +kernel)) ggX3_control_X3_controlWorkers
set_option maxRecDepth 20000 in
theorem ggX3_control_X3_controlBatch : GoodIn wsX3_control wsX3_controlBatch := goodIn_r _ [24, 10, 11, 25, 26, 27, 28, 29, 30, 31, 32, 46, 47, 48, 49, 50, 51, 52, 53, 54, 55, 56, 57, 58, 59, 60, 61, 62, 63, 64, 68, 69, 70, 71] (by decide +kernel) (by decide +kernel)
set_option maxRecDepth 20000 in
theorem gX3_control_X3_controlBatch : GoodIn wsX3_control (wsV RX3 130 RX3 yX3_controlBatch wsX3_controlBatch) := goodIn_app (goodIn_of _ (by decide +kernel)) ggX3_control_X3_controlBatch
set_option maxRecDepth 20000 in
theorem ggX3_control_X3_controlRate : GoodIn wsX3_control wsX3_controlRate := goodIn_r _ [36, 3, 2, 37, 30, 31, 28, 32, 26, 27, 29, 38, 39, 40, 41, 42, 43, 44, 45, 46, 47, 48, 49, 50, 51, 52, 53, 54, 55, 56, 57, 58, 59, 60, 61, 62, 63, 64, 65, 66, 67] (by decide +kernel) (by decide +kernel)
set_option maxRecDepth 20000 in
theorem gX3_control_X3_controlRate : GoodIn wsX3_control (wsV RX3 137 RX3 yX3_controlRate wsX3_controlRate) := goodIn_app (goodIn_of _ (by decide +kernel)) ggX3_control_X3_controlRate
theorem dX3_control_0 : decode cX3_control 0 = .ok (.aload_n 0, 1) := by decide +kernel
theorem dX3_control_1 : decode cX3_control 1 = .ok (.invokevirtual 127, 3) := by decide +kernel
theorem dX3_control_4 : decode cX3_control 4 = .ok (.aload_n 0, 1) := by decide +kernel
theorem dX3_control_5 : decode cX3_control 5 = .ok (.getfield 34, 3) := by decide +kernel
theorem dX3_control_8 : decode cX3_control 8 = .ok (.iconst 4, 1) := by decide +kernel
theorem dX3_control_9 : decode cX3_control 9 = .ok (.if_icmp .eq 7, 3) := by decide +kernel
theorem dX3_control_12 : decode cX3_control 12 = .ok (.aload_n 0, 1) := by decide +kernel
theorem dX3_control_13 : decode cX3_control 13 = .ok (.invokevirtual 130, 3) := by decide +kernel
theorem dX3_control_16 : decode cX3_control 16 = .ok (.aload_n 0, 1) := by decide +kernel
theorem dX3_control_17 : decode cX3_control 17 = .ok (.getfield 133, 3) := by decide +kernel
theorem dX3_control_20 : decode cX3_control 20 = .ok (.ifCond .le 17, 3) := by decide +kernel
theorem dX3_control_23 : decode cX3_control 23 = .ok (.aload_n 0, 1) := by decide +kernel
theorem dX3_control_24 : decode cX3_control 24 = .ok (.getfield 12, 3) := by decide +kernel
theorem dX3_control_27 : decode cX3_control 27 = .ok (.getfield 136, 3) := by decide +kernel
theorem dX3_control_30 : decode cX3_control 30 = .ok (.ifCond .le 7, 3) := by decide +kernel
theorem dX3_control_33 : decode cX3_control 33 = .ok (.aload_n 0, 1) := by decide +kernel
theorem dX3_control_34 : decode cX3_control 34 = .ok (.invokevirtual 137, 3) := by decide +kernel
theorem dX3_control_37 : decode cX3_control 37 = .ok (.return_, 1) := by decide +kernel
set_option maxRecDepth 20000 in
theorem ggX3_controlWorkers_X3_isLongIdle : GoodIn wsX3_controlWorkers wsX3_isLongIdle := goodIn_r _ [11, 12, 2, 6, 36, 37, 38, 39, 40, 32, 33, 34, 35] (by decide +kernel) (by decide +kernel)
set_option maxRecDepth 20000 in
theorem gX3_controlWorkers_X3_isLongIdle : GoodIn wsX3_controlWorkers (wsV RX3 143 RX3 yX3_isLongIdle wsX3_isLongIdle) := goodIn_app (goodIn_of _ (by decide +kernel)) ggX3_controlWorkers_X3_isLongIdle
theorem dX3_controlWorkers_0 : decode cX3_controlWorkers 0 = .ok (.aload_n 0, 1) := by decide +kernel
theorem dX3_controlWorkers_1 : decode cX3_controlWorkers 1 = .ok (.getfield 48, 3) := by decide +kernel
theorem dX3_controlWorkers_4 : decode cX3_controlWorkers 4 = .ok (.getfield 59, 3) := by decide +kernel
theorem dX3_controlWorkers_7 : decode cX3_controlWorkers 7 = .ok (.aload_n 0, 1) := by decide +kernel
theorem dX3_controlWorkers_8 : decode cX3_controlWorkers 8 = .ok (.getfield 37, 3) := by decide +kernel
theorem dX3_controlWorkers_11 : decode cX3_controlWorkers 11 = .ok (.iconst 2, 1) := by decide +kernel
theorem dX3_controlWorkers_12 : decode cX3_controlWorkers 12 = .ok (.idiv, 1) := by decide +kernel
theorem dX3_controlWorkers_13 : decode cX3_controlWorkers 13 = .ok (.if_icmp .le 41, 3) := by decide +kernel
theorem dX3_controlWorkers_16 : decode cX3_controlWorkers 16 = .ok (.aload_n 0, 1) := by decide +kernel
theorem dX3_controlWorkers_17 : decode cX3_controlWorkers 17 = .ok (.getfield 28, 3) := by decide +kernel
theorem dX3_controlWorkers_20 : decode cX3_controlWorkers 20 = .ok (.aload_n 0, 1) := by decide +kernel
theorem dX3_controlWorkers_21 : decode cX3_controlWorkers 21 = .ok (.getfield 54, 3) := by decide +kernel
theorem dX3_controlWorkers_24 : decode cX3_controlWorkers 24 = .ok (.arraylength, 1) := by decide +kernel
theorem dX3_controlWorkers_25 : decode cX3_controlWorkers 25 = .ok (.if_icmp .ge 29, 3) := by decide +kernel
theorem dX3_controlWorkers_28 : decode cX3_controlWorkers 28 = .ok (.aload_n 0, 1) := by decide +kernel
theorem dX3_controlWorkers_29 : decode cX3_controlWorkers 29 = .ok (.getfield 54, 3) := by decide +kernel
theorem dX3_controlWorkers_32 : decode cX3_controlWorkers 32 = .ok (.aload_n 0, 1) := by decide +kernel
theorem dX3_controlWorkers_33 : decode cX3_controlWorkers 33 = .ok (.getfield 28, 3) := by decide +kernel
theorem dX3_controlWorkers_36 : decode cX3_controlWorkers 36 = .ok (.aaload, 1) := by decide +kernel
theorem dX3_controlWorkers_37 : decode cX3_controlWorkers 37 = .ok (.iconst 0, 1) := by decide +kernel
theorem dX3_controlWorkers_38 : decode cX3_controlWorkers 38 = .ok (.putfield 140, 3) := by decide +kernel
theorem dX3_controlWorkers_41 : decode cX3_controlWorkers 41 = .ok (.aload_n 0, 1) := by decide +kernel
theorem dX3_controlWorkers_42 : decode cX3_controlWorkers 42 = .ok (.dup, 1) := by decide +kernel
theorem dX3_controlWorkers_43 : decode cX3_controlWorkers 43 = .ok (.getfield 28, 3) := by decide +kernel
theorem dX3_controlWorkers_46 : decode cX3_controlWorkers 46 = .ok (.iconst 1, 1) := by decide +kernel
theorem dX3_controlWorkers_47 : decode cX3_controlWorkers 47 = .ok (.iadd, 1) := by decide +kernel
theorem dX3_controlWorkers_48 : decode cX3_controlWorkers 48 = .ok (.putfield 28, 3) := by decide +kernel
theorem dX3_controlWorkers_51 : decode cX3_controlWorkers 51 = .ok (.goto 39, 3) := by decide +kernel
theorem dX3_controlWorkers_54 : decode cX3_controlWorkers 54 = .ok (.aload_n 0, 1) := by decide +kernel
theorem dX3_controlWorkers_55 : decode cX3_controlWorkers 55 = .ok (.getfield 28, 3) := by decide +kernel
theorem dX3_controlWorkers_58 : decode cX3_controlWorkers 58 = .ok (.iconst 1, 1) := by decide +kernel
theorem dX3_controlWorkers_59 : decode cX3_controlWorkers 59 = .ok (.if_icmp .le 31, 3) := by decide +kernel
theorem dX3_controlWorkers_62 : decode cX3_controlWorkers 62 = .ok (.aload_n 0, 1) := by decide +kernel
theorem dX3_controlWorkers_63 : decode cX3_controlWorkers 63 = .ok (.aload_n 0, 1) := by decide +kernel
theorem dX3_controlWorkers_64 : decode cX3_controlWorkers 64 = .ok (.getfield 54, 3) := by decide +kernel
theorem dX3_controlWorkers_67 : decode cX3_controlWorkers 67 = .ok (.aload_n 0, 1) := by decide +kernel
theorem dX3_controlWorkers_68 : decode cX3_controlWorkers 68 = .ok (.getfield 28, 3) := by decide +kernel
theorem dX3_controlWorkers_71 : decode cX3_controlWorkers 71 = .ok (.iconst 1, 1) := by decide +kernel
theorem dX3_controlWorkers_72 : decode cX3_controlWorkers 72 = .ok (.isub, 1) := by decide +kernel
theorem dX3_controlWorkers_73 : decode cX3_controlWorkers 73 = .ok (.aaload, 1) := by decide +kernel
theorem dX3_controlWorkers_74 : decode cX3_controlWorkers 74 = .ok (.invokevirtual 143, 3) := by decide +kernel
theorem dX3_controlWorkers_77 : decode cX3_controlWorkers 77 = .ok (.ifCond .eq 13, 3) := by decide +kernel
theorem dX3_controlWorkers_80 : decode cX3_controlWorkers 80 = .ok (.aload_n 0, 1) := by decide +kernel
theorem dX3_controlWorkers_81 : decode cX3_controlWorkers 81 = .ok (.dup, 1) := by decide +kernel
theorem dX3_controlWorkers_82 : decode cX3_controlWorkers 82 = .ok (.getfield 28, 3) := by decide +kernel
theorem dX3_controlWorkers_85 : decode cX3_controlWorkers 85 = .ok (.iconst 1, 1) := by decide +kernel
theorem dX3_controlWorkers_86 : decode cX3_controlWorkers 86 = .ok (.isub, 1) := by decide +kernel
theorem dX3_controlWorkers_87 : decode cX3_controlWorkers 87 = .ok (.putfield 28, 3) := by decide +kernel
theorem dX3_controlWorkers_90 : decode cX3_controlWorkers 90 = .ok (.return_, 1) := by decide +kernel
theorem dX3_isLongIdle_0 : decode cX3_isLongIdle 0 = .ok (.aload_n 1, 1) := by decide +kernel
theorem dX3_isLongIdle_1 : decode cX3_isLongIdle 1 = .ok (.getfield 86, 3) := by decide +kernel
theorem dX3_isLongIdle_4 : decode cX3_isLongIdle 4 = .ok (.getfield 59, 3) := by decide +kernel
theorem dX3_isLongIdle_7 : decode cX3_isLongIdle 7 = .ok (.ifCond .ne 16, 3) := by decide +kernel
theorem dX3_isLongIdle_10 : decode cX3_isLongIdle 10 = .ok (.aload_n 1, 1) := by decide +kernel
theorem dX3_isLongIdle_11 : decode cX3_isLongIdle 11 = .ok (.getfield 140, 3) := by decide +kernel
theorem dX3_isLongIdle_14 : decode cX3_isLongIdle 14 = .ok (.bipush 10, 2) := by decide +kernel
theorem dX3_isLongIdle_16 : decode cX3_isLongIdle 16 = .ok (.if_icmp .lt 7, 3) := by decide +kernel
theorem dX3_isLongIdle_19 : decode cX3_isLongIdle 19 = .ok (.iconst 1, 1) := by decide +kernel
theorem dX3_isLongIdle_20 : decode cX3_isLongIdle 20 = .ok (.goto 4, 3) := by decide +kernel
theorem dX3_isLongIdle_23 : decode cX3_isLongIdle 23 = .ok (.iconst 0, 1) := by decide +kernel
theorem dX3_isLongIdle_24 : decode cX3_isLongIdle 24 = .ok (.ireturn, 1) := by decide +kernel
theorem dX3_controlBatch_0 : decode cX3_controlBatch 0 = .ok (.aload_n 0, 1) := by decide +kernel
theorem dX3_controlBatch_1 : decode cX3_controlBatch 1 = .ok (.getfield 48, 3) := by decide +kernel
theorem dX3_controlBatch_4 : decode cX3_controlBatch 4 = .ok (.getfield 59, 3) := by decide +kernel
theorem dX3_controlBatch_7 : decode cX3_controlBatch 7 = .ok (.aload_n 0, 1) := by decide +kernel
theorem dX3_controlBatch_8 : decode cX3_controlBatch 8 = .ok (.getfield 31, 3) := by decide +kernel
theorem dX3_controlBatch_11 : decode cX3_controlBatch 11 = .ok (.if_icmp .le 21, 3) := by decide +kernel
theorem dX3_controlBatch_14 : decode cX3_controlBatch 14 = .ok (.aload_n 0, 1) := by decide +kernel
theorem dX3_controlBatch_15 : decode cX3_controlBatch 15 = .ok (.aload_n 0, 1) := by decide +kernel
theorem dX3_controlBatch_16 : decode cX3_controlBatch 16 = .ok (.getfield 31, 3) := by decide +kernel
theorem dX3_controlBatch_19 : decode cX3_controlBatch 19 = .ok (.iconst 1, 1) := by decide +kernel
theorem dX3_controlBatch_20 : decode cX3_controlBatch 20 = .ok (.iadd, 1) := by decide +kernel
theorem dX3_controlBatch_21 : decode cX3_controlBatch 21 = .ok (.bipush 8, 2) := by decide +kernel
theorem dX3_controlBatch_23 : decode cX3_controlBatch 23 = .ok (.invokestatic 80, 3) := by decide +kernel
theorem dX3_controlBatch_26 : decode cX3_controlBatch 26 = .ok (.putfield 31, 3) := by decide +kernel
theorem dX3_controlBatch_29 : decode cX3_controlBatch 29 = .ok (.goto 27, 3) := by decide +kernel
theorem dX3_controlBatch_32 : decode cX3_controlBatch 32 = .ok (.aload_n 0, 1) := by decide +kernel
theorem dX3_controlBatch_33 : decode cX3_controlBatch 33 = .ok (.getfield 48, 3) := by decide +kernel
theorem dX3_controlBatch_36 : decode cX3_controlBatch 36 = .ok (.getfield 59, 3) := by decide +kernel
theorem dX3_controlBatch_39 : decode cX3_controlBatch 39 = .ok (.ifCond .ne 17, 3) := by decide +kernel
theorem dX3_controlBatch_42 : decode cX3_controlBatch 42 = .ok (.aload_n 0, 1) := by decide +kernel
theorem dX3_controlBatch_43 : decode cX3_controlBatch 43 = .ok (.aload_n 0, 1) := by decide +kernel
theorem dX3_controlBatch_44 : decode cX3_controlBatch 44 = .ok (.getfield 31, 3) := by decide +kernel
theorem dX3_controlBatch_47 : decode cX3_controlBatch 47 = .ok (.iconst 1, 1) := by decide +kernel
theorem dX3_controlBatch_48 : decode cX3_controlBatch 48 = .ok (.isub, 1) := by decide +kernel
theorem dX3_controlBatch_49 : decode cX3_controlBatch 49 = .ok (.iconst 1, 1) := by decide +kernel
theorem dX3_controlBatch_50 : decode cX3_controlBatch 50 = .ok (.invokestatic 147, 3) := by decide +kernel
theorem dX3_controlBatch_53 : decode cX3_controlBatch 53 = .ok (.putfield 31, 3) := by decide +kernel
theorem dX3_controlBatch_56 : decode cX3_controlBatch 56 = .ok (.return_, 1) := by decide +kernel
set_option maxRecDepth 20000 in
theorem ggX3_controlRate_X5_response : GoodIn wsX3_controlRate wsX5_response := goodIn_r _ [15, 16, 17, 18, 38, 39, 40] (by decide +kernel) (by decide +kernel)
set_option maxRecDepth 20000 in
theorem gX3_controlRate_X5_response : GoodIn wsX3_controlRate (wsV RX3 150 RX5 yX5_response wsX5_response) := goodIn_app (goodIn_of _ (by decide +kernel)) ggX3_controlRate_X5_response
theorem dX3_controlRate_0 : decode cX3_controlRate 0 = .ok (.aload_n 0, 1) := by decide +kernel
theorem dX3_controlRate_1 : decode cX3_controlRate 1 = .ok (.getfield 12, 3) := by decide +kernel
theorem dX3_controlRate_4 : decode cX3_controlRate 4 = .ok (.invokevirtual 150, 3) := by decide +kernel
theorem dX3_controlRate_7 : decode cX3_controlRate 7 = .ok (.aload_n 0, 1) := by decide +kernel
theorem dX3_controlRate_8 : decode cX3_controlRate 8 = .ok (.getfield 133, 3) := by decide +kernel
theorem dX3_controlRate_11 : decode cX3_controlRate 11 = .ok (.if_icmp .le 22, 3) := by decide +kernel
theorem dX3_controlRate_14 : decode cX3_controlRate 14 = .ok (.aload_n 0, 1) := by decide +kernel
theorem dX3_controlRate_15 : decode cX3_controlRate 15 = .ok (.iconst 3, 1) := by decide +kernel
theorem dX3_controlRate_16 : decode cX3_controlRate 16 = .ok (.aload_n 0, 1) := by decide +kernel
theorem dX3_controlRate_17 : decode cX3_controlRate 17 = .ok (.getfield 18, 3) := by decide +kernel
theorem dX3_controlRate_20 : decode cX3_controlRate 20 = .ok (.imul, 1) := by decide +kernel
theorem dX3_controlRate_21 : decode cX3_controlRate 21 = .ok (.iconst 4, 1) := by decide +kernel
theorem dX3_controlRate_22 : decode cX3_controlRate 22 = .ok (.idiv, 1) := by decide +kernel
theorem dX3_controlRate_23 : decode cX3_controlRate 23 = .ok (.iconst 1, 1) := by decide +kernel
theorem dX3_controlRate_24 : decode cX3_controlRate 24 = .ok (.invokestatic 147, 3) := by decide +kernel
theorem dX3_controlRate_27 : decode cX3_controlRate 27 = .ok (.putfield 18, 3) := by decide +kernel
theorem dX3_controlRate_30 : decode cX3_controlRate 30 = .ok (.goto 18, 3) := by decide +kernel
theorem dX3_controlRate_33 : decode cX3_controlRate 33 = .ok (.aload_n 0, 1) := by decide +kernel
theorem dX3_controlRate_34 : decode cX3_controlRate 34 = .ok (.aload_n 0, 1) := by decide +kernel
theorem dX3_controlRate_35 : decode cX3_controlRate 35 = .ok (.getfield 18, 3) := by decide +kernel
theorem dX3_controlRate_38 : decode cX3_controlRate 38 = .ok (.iconst 1, 1) := by decide +kernel
theorem dX3_controlRate_39 : decode cX3_controlRate 39 = .ok (.iadd, 1) := by decide +kernel
theorem dX3_controlRate_40 : decode cX3_controlRate 40 = .ok (.bipush 100, 2) := by decide +kernel
theorem dX3_controlRate_42 : decode cX3_controlRate 42 = .ok (.invokestatic 80, 3) := by decide +kernel
theorem dX3_controlRate_45 : decode cX3_controlRate 45 = .ok (.putfield 18, 3) := by decide +kernel
theorem dX3_controlRate_48 : decode cX3_controlRate 48 = .ok (.return_, 1) := by decide +kernel
set_option maxRecDepth 20000 in
theorem ggX3_figure_X5_response : GoodIn wsX3_figure wsX5_response := goodIn_r _ [16, 17, 18, 19, 43, 44, 45] (by decide +kernel) (by decide +kernel)
set_option maxRecDepth 20000 in
theorem gX3_figure_X5_response : GoodIn wsX3_figure (wsV RX3 150 RX5 yX5_response wsX5_response) := goodIn_app (goodIn_of _ (by decide +kernel)) ggX3_figure_X5_response
theorem dX3_figure_0 : decode cX3_figure 0 = .ok (.iload_n 1, 1) := by decide +kernel
theorem dX3_figure_1 : decode cX3_figure 1 = .ok (.tableswitch 111 0 9 #[55, 63, 68, 73, 78, 83, 88, 93, 98, 103], 55) := by decide +kernel
theorem dX3_figure_56 : decode cX3_figure 56 = .ok (.aload_n 0, 1) := by decide +kernel
theorem dX3_figure_57 : decode cX3_figure 57 = .ok (.getfield 48, 3) := by decide +kernel
theorem dX3_figure_60 : decode cX3_figure 60 = .ok (.getfield 59, 3) := by decide +kernel
theorem dX3_figure_63 : decode cX3_figure 63 = .ok (.ireturn, 1) := by decide +kernel
theorem dX3_figure_64 : decode cX3_figure 64 = .ok (.aload_n 0, 1) := by decide +kernel
theorem dX3_figure_65 : decode cX3_figure 65 = .ok (.getfield 62, 3) := by decide +kernel
theorem dX3_figure_68 : decode cX3_figure 68 = .ok (.ireturn, 1) := by decide +kernel
theorem dX3_figure_69 : decode cX3_figure 69 = .ok (.aload_n 0, 1) := by decide +kernel
theorem dX3_figure_70 : decode cX3_figure 70 = .ok (.getfield 28, 3) := by decide +kernel
theorem dX3_figure_73 : decode cX3_figure 73 = .ok (.ireturn, 1) := by decide +kernel
theorem dX3_figure_74 : decode cX3_figure 74 = .ok (.aload_n 0, 1) := by decide +kernel
theorem dX3_figure_75 : decode cX3_figure 75 = .ok (.getfield 31, 3) := by decide +kernel
theorem dX3_figure_78 : decode cX3_figure 78 = .ok (.ireturn, 1) := by decide +kernel
theorem dX3_figure_79 : decode cX3_figure 79 = .ok (.aload_n 0, 1) := by decide +kernel
theorem dX3_figure_80 : decode cX3_figure 80 = .ok (.getfield 18, 3) := by decide +kernel
theorem dX3_figure_83 : decode cX3_figure 83 = .ok (.ireturn, 1) := by decide +kernel
theorem dX3_figure_84 : decode cX3_figure 84 = .ok (.aload_n 0, 1) := by decide +kernel
theorem dX3_figure_85 : decode cX3_figure 85 = .ok (.getfield 25, 3) := by decide +kernel
theorem dX3_figure_88 : decode cX3_figure 88 = .ok (.ireturn, 1) := by decide +kernel
theorem dX3_figure_89 : decode cX3_figure 89 = .ok (.aload_n 0, 1) := by decide +kernel
theorem dX3_figure_90 : decode cX3_figure 90 = .ok (.getfield 73, 3) := by decide +kernel
theorem dX3_figure_93 : decode cX3_figure 93 = .ok (.ireturn, 1) := by decide +kernel
theorem dX3_figure_94 : decode cX3_figure 94 = .ok (.aload_n 0, 1) := by decide +kernel
theorem dX3_figure_95 : decode cX3_figure 95 = .ok (.getfield 153, 3) := by decide +kernel
theorem dX3_figure_98 : decode cX3_figure 98 = .ok (.ireturn, 1) := by decide +kernel
theorem dX3_figure_99 : decode cX3_figure 99 = .ok (.aload_n 0, 1) := by decide +kernel
theorem dX3_figure_100 : decode cX3_figure 100 = .ok (.getfield 156, 3) := by decide +kernel
theorem dX3_figure_103 : decode cX3_figure 103 = .ok (.ireturn, 1) := by decide +kernel
theorem dX3_figure_104 : decode cX3_figure 104 = .ok (.aload_n 0, 1) := by decide +kernel
theorem dX3_figure_105 : decode cX3_figure 105 = .ok (.getfield 12, 3) := by decide +kernel
theorem dX3_figure_108 : decode cX3_figure 108 = .ok (.invokevirtual 150, 3) := by decide +kernel
theorem dX3_figure_111 : decode cX3_figure 111 = .ok (.ireturn, 1) := by decide +kernel
theorem dX3_figure_112 : decode cX3_figure 112 = .ok (.iconst (-1), 1) := by decide +kernel
theorem dX3_figure_113 : decode cX3_figure 113 = .ok (.ireturn, 1) := by decide +kernel
theorem dX4_init_0 : decode cX4_init 0 = .ok (.aload_n 0, 1) := by decide +kernel
theorem dX4_init_1 : decode cX4_init 1 = .ok (.invokespecial 3, 3) := by decide +kernel
theorem dX4_init_4 : decode cX4_init 4 = .ok (.aload_n 0, 1) := by decide +kernel
theorem dX4_init_5 : decode cX4_init 5 = .ok (.bipush 50, 2) := by decide +kernel
theorem dX4_init_7 : decode cX4_init 7 = .ok (.newarray .int, 2) := by decide +kernel
theorem dX4_init_9 : decode cX4_init 9 = .ok (.putfield 9, 3) := by decide +kernel
theorem dX4_init_12 : decode cX4_init 12 = .ok (.aload_n 0, 1) := by decide +kernel
theorem dX4_init_13 : decode cX4_init 13 = .ok (.bipush 50, 2) := by decide +kernel
theorem dX4_init_15 : decode cX4_init 15 = .ok (.anewarray 15, 3) := by decide +kernel
theorem dX4_init_18 : decode cX4_init 18 = .ok (.putfield 17, 3) := by decide +kernel
theorem dX4_init_21 : decode cX4_init 21 = .ok (.aload_n 0, 1) := by decide +kernel
theorem dX4_init_22 : decode cX4_init 22 = .ok (.bipush 50, 2) := by decide +kernel
theorem dX4_init_24 : decode cX4_init 24 = .ok (.newarray .int, 2) := by decide +kernel
theorem dX4_init_26 : decode cX4_init 26 = .ok (.putfield 21, 3) := by decide +kernel
theorem dX4_init_29 : decode cX4_init 29 = .ok (.aload_n 0, 1) := by decide +kernel
theorem dX4_init_30 : decode cX4_init 30 = .ok (.bipush 50, 2) := by decide +kernel
theorem dX4_init_32 : decode cX4_init 32 = .ok (.newarray .int, 2) := by decide +kernel
theorem dX4_init_34 : decode cX4_init 34 = .ok (.putfield 24, 3) := by decide +kernel
theorem dX4_init_37 : decode cX4_init 37 = .ok (.return_, 1) := by decide +kernel
theorem dX4_append_0 : decode cX4_append 0 = .ok (.aload_n 0, 1) := by decide +kernel
theorem dX4_append_1 : decode cX4_append 1 = .ok (.getfield 27, 3) := by decide +kernel
theorem dX4_append_4 : decode cX4_append 4 = .ok (.bipush 50, 2) := by decide +kernel
theorem dX4_append_6 : decode cX4_append 6 = .ok (.if_icmp .lt 6, 3) := by decide +kernel
theorem dX4_append_9 : decode cX4_append 9 = .ok (.bipush (-2), 2) := by decide +kernel
theorem dX4_append_11 : decode cX4_append 11 = .ok (.ireturn, 1) := by decide +kernel
theorem dX4_append_12 : decode cX4_append 12 = .ok (.aload_n 0, 1) := by decide +kernel
theorem dX4_append_13 : decode cX4_append 13 = .ok (.getfield 9, 3) := by decide +kernel
theorem dX4_append_16 : decode cX4_append 16 = .ok (.aload_n 0, 1) := by decide +kernel
theorem dX4_append_17 : decode cX4_append 17 = .ok (.getfield 27, 3) := by decide +kernel
theorem dX4_append_20 : decode cX4_append 20 = .ok (.aload_n 0, 1) := by decide +kernel
theorem dX4_append_21 : decode cX4_append 21 = .ok (.getfield 31, 3) := by decide +kernel
theorem dX4_append_24 : decode cX4_append 24 = .ok (.iastore, 1) := by decide +kernel
theorem dX4_append_25 : decode cX4_append 25 = .ok (.aload_n 0, 1) := by decide +kernel
theorem dX4_append_26 : decode cX4_append 26 = .ok (.getfield 17, 3) := by decide +kernel
theorem dX4_append_29 : decode cX4_append 29 = .ok (.aload_n 0, 1) := by decide +kernel
theorem dX4_append_30 : decode cX4_append 30 = .ok (.getfield 27, 3) := by decide +kernel
theorem dX4_append_33 : decode cX4_append 33 = .ok (.aload_n 1, 1) := by decide +kernel
theorem dX4_append_34 : decode cX4_append 34 = .ok (.aastore, 1) := by decide +kernel
theorem dX4_append_35 : decode cX4_append 35 = .ok (.aload_n 0, 1) := by decide +kernel
theorem dX4_append_36 : decode cX4_append 36 = .ok (.getfield 21, 3) := by decide +kernel
theorem dX4_append_39 : decode cX4_append 39 = .ok (.aload_n 0, 1) := by decide +kernel
theorem dX4_append_40 : decode cX4_append 40 = .ok (.getfield 27, 3) := by decide +kernel
theorem dX4_append_43 : decode cX4_append 43 = .ok (.iload_n 2, 1) := by decide +kernel
theorem dX4_append_44 : decode cX4_append 44 = .ok (.iastore, 1) := by decide +kernel
theorem dX4_append_45 : decode cX4_append 45 = .ok (.aload_n 0, 1) := by decide +kernel
theorem dX4_append_46 : decode cX4_append 46 = .ok (.getfield 24, 3) := by decide +kernel
theorem dX4_append_49 : decode cX4_append 49 = .ok (.aload_n 0, 1) := by decide +kernel
theorem dX4_append_50 : decode cX4_append 50 = .ok (.getfield 27, 3) := by decide +kernel
theorem dX4_append_53 : decode cX4_append 53 = .ok (.iload_n 3, 1) := by decide +kernel
theorem dX4_append_54 : decode cX4_append 54 = .ok (.iastore, 1) := by decide +kernel
theorem dX4_append_55 : decode cX4_append 55 = .ok (.aload_n 0, 1) := by decide +kernel
theorem dX4_append_56 : decode cX4_append 56 = .ok (.dup, 1) := by decide +kernel
theorem dX4_append_57 : decode cX4_append 57 = .ok (.getfield 27, 3) := by decide +kernel
theorem dX4_append_60 : decode cX4_append 60 = .ok (.iconst 1, 1) := by decide +kernel
theorem dX4_append_61 : decode cX4_append 61 = .ok (.iadd, 1) := by decide +kernel
theorem dX4_append_62 : decode cX4_append 62 = .ok (.putfield 27, 3) := by decide +kernel
theorem dX4_append_65 : decode cX4_append 65 = .ok (.aload_n 0, 1) := by decide +kernel
theorem dX4_append_66 : decode cX4_append 66 = .ok (.dup, 1) := by decide +kernel
theorem dX4_append_67 : decode cX4_append 67 = .ok (.getfield 31, 3) := by decide +kernel
theorem dX4_append_70 : decode cX4_append 70 = .ok (.iconst 1, 1) := by decide +kernel
theorem dX4_append_71 : decode cX4_append 71 = .ok (.iadd, 1) := by decide +kernel
theorem dX4_append_72 : decode cX4_append 72 = .ok (.putfield 31, 3) := by decide +kernel
theorem dX4_append_75 : decode cX4_append 75 = .ok (.aload_n 0, 1) := by decide +kernel
theorem dX4_append_76 : decode cX4_append 76 = .ok (.getfield 31, 3) := by decide +kernel
theorem dX4_append_79 : decode cX4_append 79 = .ok (.iconst 1, 1) := by decide +kernel
theorem dX4_append_80 : decode cX4_append 80 = .ok (.isub, 1) := by decide +kernel
theorem dX4_append_81 : decode cX4_append 81 = .ok (.ireturn, 1) := by decide +kernel
set_option maxRecDepth 20000 in
theorem ggX4_remove_X4_move : GoodIn wsX4_remove wsX4_move := goodIn_r _ [7, 2, 8, 9, 10, 11, 12, 13, 14, 15, 16] (by decide +kernel) (by decide +kernel)
set_option maxRecDepth 20000 in
theorem gX4_remove_X4_move : GoodIn wsX4_remove (wsV RX4 34 RX4 yX4_move wsX4_move) := goodIn_app (goodIn_of _ (by decide +kernel)) ggX4_remove_X4_move
theorem dX4_remove_0 : decode cX4_remove 0 = .ok (.iconst 0, 1) := by decide +kernel
theorem dX4_remove_1 : decode cX4_remove 1 = .ok (.istore_n 2, 1) := by decide +kernel
theorem dX4_remove_2 : decode cX4_remove 2 = .ok (.iconst 0, 1) := by decide +kernel
theorem dX4_remove_3 : decode cX4_remove 3 = .ok (.istore_n 3, 1) := by decide +kernel
theorem dX4_remove_4 : decode cX4_remove 4 = .ok (.iload_n 3, 1) := by decide +kernel
theorem dX4_remove_5 : decode cX4_remove 5 = .ok (.aload_n 0, 1) := by decide +kernel
theorem dX4_remove_6 : decode cX4_remove 6 = .ok (.getfield 27, 3) := by decide +kernel
theorem dX4_remove_9 : decode cX4_remove 9 = .ok (.if_icmp .ge 28, 3) := by decide +kernel
theorem dX4_remove_12 : decode cX4_remove 12 = .ok (.aload_n 0, 1) := by decide +kernel
theorem dX4_remove_13 : decode cX4_remove 13 = .ok (.getfield 9, 3) := by decide +kernel
theorem dX4_remove_16 : decode cX4_remove 16 = .ok (.iload_n 3, 1) := by decide +kernel
theorem dX4_remove_17 : decode cX4_remove 17 = .ok (.iaload, 1) := by decide +kernel
theorem dX4_remove_18 : decode cX4_remove 18 = .ok (.iload_n 1, 1) := by decide +kernel
theorem dX4_remove_19 : decode cX4_remove 19 = .ok (.if_icmp .eq 12, 3) := by decide +kernel
theorem dX4_remove_22 : decode cX4_remove 22 = .ok (.aload_n 0, 1) := by decide +kernel
theorem dX4_remove_23 : decode cX4_remove 23 = .ok (.iload_n 3, 1) := by decide +kernel
theorem dX4_remove_24 : decode cX4_remove 24 = .ok (.iload_n 2, 1) := by decide +kernel
theorem dX4_remove_25 : decode cX4_remove 25 = .ok (.invokevirtual 34, 3) := by decide +kernel
theorem dX4_remove_28 : decode cX4_remove 28 = .ok (.iinc 2 1, 3) := by decide +kernel
theorem dX4_remove_31 : decode cX4_remove 31 = .ok (.iinc 3 1, 3) := by decide +kernel
theorem dX4_remove_34 : decode cX4_remove 34 = .ok (.goto (-30), 3) := by decide +kernel
theorem dX4_remove_37 : decode cX4_remove 37 = .ok (.iload_n 2, 1) := by decide +kernel
theorem dX4_remove_38 : decode cX4_remove 38 = .ok (.aload_n 0, 1) := by decide +kernel
theorem dX4_remove_39 : decode cX4_remove 39 = .ok (.getfield 27, 3) := by decide +kernel
theorem dX4_remove_42 : decode cX4_remove 42 = .ok (.if_icmp .ge 7, 3) := by decide +kernel
theorem dX4_remove_45 : decode cX4_remove 45 = .ok (.iconst 1, 1) := by decide +kernel
theorem dX4_remove_46 : decode cX4_remove 46 = .ok (.goto 4, 3) := by decide +kernel
theorem dX4_remove_49 : decode cX4_remove 49 = .ok (.iconst 0, 1) := by decide +kernel
theorem dX4_remove_50 : decode cX4_remove 50 = .ok (.istore_n 3, 1) := by decide +kernel
theorem dX4_remove_51 : decode cX4_remove 51 = .ok (.aload_n 0, 1) := by decide +kernel
theorem dX4_remove_52 : decode cX4_remove 52 = .ok (.iload_n 2, 1) := by decide +kernel
theorem dX4_remove_53 : decode cX4_remove 53 = .ok (.putfield 27, 3) := by decide +kernel
theorem dX4_remove_56 : decode cX4_remove 56 = .ok (.iload_n 3, 1) := by decide +kernel
theorem dX4_remove_57 : decode cX4_remove 57 = .ok (.ireturn, 1) := by decide +kernel
theorem dX4_move_0 : decode cX4_move 0 = .ok (.aload_n 0, 1) := by decide +kernel
theorem dX4_move_1 : decode cX4_move 1 = .ok (.getfield 9, 3) := by decide +kernel
theorem dX4_move_4 : decode cX4_move 4 = .ok (.iload_n 2, 1) := by decide +kernel
theorem dX4_move_5 : decode cX4_move 5 = .ok (.aload_n 0, 1) := by decide +kernel
theorem dX4_move_6 : decode cX4_move 6 = .ok (.getfield 9, 3) := by decide +kernel
theorem dX4_move_9 : decode cX4_move 9 = .ok (.iload_n 1, 1) := by decide +kernel
theorem dX4_move_10 : decode cX4_move 10 = .ok (.iaload, 1) := by decide +kernel
theorem dX4_move_11 : decode cX4_move 11 = .ok (.iastore, 1) := by decide +kernel
theorem dX4_move_12 : decode cX4_move 12 = .ok (.aload_n 0, 1) := by decide +kernel
theorem dX4_move_13 : decode cX4_move 13 = .ok (.getfield 17, 3) := by decide +kernel
theorem dX4_move_16 : decode cX4_move 16 = .ok (.iload_n 2, 1) := by decide +kernel
theorem dX4_move_17 : decode cX4_move 17 = .ok (.aload_n 0, 1) := by decide +kernel
theorem dX4_move_18 : decode cX4_move 18 = .ok (.getfield 17, 3) := by decide +kernel
theorem dX4_move_21 : decode cX4_move 21 = .ok (.iload_n 1, 1) := by decide +kernel
theorem dX4_move_22 : decode cX4_move 22 = .ok (.aaload, 1) := by decide +kernel
theorem dX4_move_23 : decode cX4_move 23 = .ok (.aastore, 1) := by decide +kernel
theorem dX4_move_24 : decode cX4_move 24 = .ok (.aload_n 0, 1) := by decide +kernel
theorem dX4_move_25 : decode cX4_move 25 = .ok (.getfield 21, 3) := by decide +kernel
theorem dX4_move_28 : decode cX4_move 28 = .ok (.iload_n 2, 1) := by decide +kernel
theorem dX4_move_29 : decode cX4_move 29 = .ok (.aload_n 0, 1) := by decide +kernel
theorem dX4_move_30 : decode cX4_move 30 = .ok (.getfield 21, 3) := by decide +kernel
theorem dX4_move_33 : decode cX4_move 33 = .ok (.iload_n 1, 1) := by decide +kernel
theorem dX4_move_34 : decode cX4_move 34 = .ok (.iaload, 1) := by decide +kernel
theorem dX4_move_35 : decode cX4_move 35 = .ok (.iastore, 1) := by decide +kernel
theorem dX4_move_36 : decode cX4_move 36 = .ok (.aload_n 0, 1) := by decide +kernel
theorem dX4_move_37 : decode cX4_move 37 = .ok (.getfield 24, 3) := by decide +kernel
theorem dX4_move_40 : decode cX4_move 40 = .ok (.iload_n 2, 1) := by decide +kernel
theorem dX4_move_41 : decode cX4_move 41 = .ok (.aload_n 0, 1) := by decide +kernel
theorem dX4_move_42 : decode cX4_move 42 = .ok (.getfield 24, 3) := by decide +kernel
theorem dX4_move_45 : decode cX4_move 45 = .ok (.iload_n 1, 1) := by decide +kernel
theorem dX4_move_46 : decode cX4_move 46 = .ok (.iaload, 1) := by decide +kernel
theorem dX4_move_47 : decode cX4_move 47 = .ok (.iastore, 1) := by decide +kernel
theorem dX4_move_48 : decode cX4_move 48 = .ok (.return_, 1) := by decide +kernel
theorem dX5_init_0 : decode cX5_init 0 = .ok (.aload_n 0, 1) := by decide +kernel
theorem dX5_init_1 : decode cX5_init 1 = .ok (.invokespecial 3, 3) := by decide +kernel
theorem dX5_init_4 : decode cX5_init 4 = .ok (.aload_n 0, 1) := by decide +kernel
theorem dX5_init_5 : decode cX5_init 5 = .ok (.bipush 20, 2) := by decide +kernel
theorem dX5_init_7 : decode cX5_init 7 = .ok (.newarray .int, 2) := by decide +kernel
theorem dX5_init_9 : decode cX5_init 9 = .ok (.putfield 9, 3) := by decide +kernel
theorem dX5_init_12 : decode cX5_init 12 = .ok (.aload_n 0, 1) := by decide +kernel
theorem dX5_init_13 : decode cX5_init 13 = .ok (.bipush 20, 2) := by decide +kernel
theorem dX5_init_15 : decode cX5_init 15 = .ok (.newarray .int, 2) := by decide +kernel
theorem dX5_init_17 : decode cX5_init 17 = .ok (.putfield 15, 3) := by decide +kernel
theorem dX5_init_20 : decode cX5_init 20 = .ok (.return_, 1) := by decide +kernel
theorem dX5_append_0 : decode cX5_append 0 = .ok (.aload_n 0, 1) := by decide +kernel
theorem dX5_append_1 : decode cX5_append 1 = .ok (.getfield 18, 3) := by decide +kernel
theorem dX5_append_4 : decode cX5_append 4 = .ok (.bipush 20, 2) := by decide +kernel
theorem dX5_append_6 : decode cX5_append 6 = .ok (.if_icmp .lt 24, 3) := by decide +kernel
theorem dX5_append_9 : decode cX5_append 9 = .ok (.aload_n 0, 1) := by decide +kernel
theorem dX5_append_10 : decode cX5_append 10 = .ok (.getfield 9, 3) := by decide +kernel
theorem dX5_append_13 : decode cX5_append 13 = .ok (.iconst 1, 1) := by decide +kernel
theorem dX5_append_14 : decode cX5_append 14 = .ok (.aload_n 0, 1) := by decide +kernel
theorem dX5_append_15 : decode cX5_append 15 = .ok (.getfield 9, 3) := by decide +kernel
theorem dX5_append_18 : decode cX5_append 18 = .ok (.iconst 0, 1) := by decide +kernel
theorem dX5_append_19 : decode cX5_append 19 = .ok (.bipush 19, 2) := by decide +kernel
theorem dX5_append_21 : decode cX5_append 21 = .ok (.invokestatic 22, 3) := by decide +kernel
theorem dX5_append_24 : decode cX5_append 24 = .ok (.aload_n 0, 1) := by decide +kernel
theorem dX5_append_25 : decode cX5_append 25 = .ok (.bipush 19, 2) := by decide +kernel
theorem dX5_append_27 : decode cX5_append 27 = .ok (.putfield 18, 3) := by decide +kernel
theorem dX5_append_30 : decode cX5_append 30 = .ok (.aload_n 0, 1) := by decide +kernel
theorem dX5_append_31 : decode cX5_append 31 = .ok (.getfield 9, 3) := by decide +kernel
theorem dX5_append_34 : decode cX5_append 34 = .ok (.aload_n 0, 1) := by decide +kernel
theorem dX5_append_35 : decode cX5_append 35 = .ok (.getfield 18, 3) := by decide +kernel
theorem dX5_append_38 : decode cX5_append 38 = .ok (.iload_n 1, 1) := by decide +kernel
theorem dX5_append_39 : decode cX5_append 39 = .ok (.iastore, 1) := by decide +kernel
theorem dX5_append_40 : decode cX5_append 40 = .ok (.aload_n 0, 1) := by decide +kernel
theorem dX5_append_41 : decode cX5_append 41 = .ok (.dup, 1) := by decide +kernel
theorem dX5_append_42 : decode cX5_append 42 = .ok (.getfield 18, 3) := by decide +kernel
theorem dX5_append_45 : decode cX5_append 45 = .ok (.iconst 1, 1) := by decide +kernel
theorem dX5_append_46 : decode cX5_append 46 = .ok (.iadd, 1) := by decide +kernel
theorem dX5_append_47 : decode cX5_append 47 = .ok (.putfield 18, 3) := by decide +kernel
theorem dX5_append_50 : decode cX5_append 50 = .ok (.return_, 1) := by decide +kernel
theorem dX5_response_0 : decode cX5_response 0 = .ok (.aload_n 0, 1) := by decide +kernel
theorem dX5_response_1 : decode cX5_response 1 = .ok (.getfield 18, 3) := by decide +kernel
theorem dX5_response_4 : decode cX5_response 4 = .ok (.ifCond .ne 5, 3) := by decide +kernel
theorem dX5_response_7 : decode cX5_response 7 = .ok (.iconst 0, 1) := by decide +kernel
theorem dX5_response_8 : decode cX5_response 8 = .ok (.ireturn, 1) := by decide +kernel
theorem dX5_response_9 : decode cX5_response 9 = .ok (.iconst 0, 1) := by decide +kernel
theorem dX5_response_10 : decode cX5_response 10 = .ok (.istore_n 1, 1) := by decide +kernel
theorem dX5_response_11 : decode cX5_response 11 = .ok (.iload_n 1, 1) := by decide +kernel
theorem dX5_response_12 : decode cX5_response 12 = .ok (.aload_n 0, 1) := by decide +kernel
theorem dX5_response_13 : decode cX5_response 13 = .ok (.getfield 18, 3) := by decide +kernel
theorem dX5_response_16 : decode cX5_response 16 = .ok (.if_icmp .ge 64, 3) := by decide +kernel
theorem dX5_response_19 : decode cX5_response 19 = .ok (.iload_n 1, 1) := by decide +kernel
theorem dX5_response_20 : decode cX5_response 20 = .ok (.istore_n 2, 1) := by decide +kernel
theorem dX5_response_21 : decode cX5_response 21 = .ok (.iload_n 2, 1) := by decide +kernel
theorem dX5_response_22 : decode cX5_response 22 = .ok (.ifCond .le 40, 3) := by decide +kernel
theorem dX5_response_25 : decode cX5_response 25 = .ok (.aload_n 0, 1) := by decide +kernel
theorem dX5_response_26 : decode cX5_response 26 = .ok (.getfield 15, 3) := by decide +kernel
theorem dX5_response_29 : decode cX5_response 29 = .ok (.iload_n 2, 1) := by decide +kernel
theorem dX5_response_30 : decode cX5_response 30 = .ok (.iconst 1, 1) := by decide +kernel
theorem dX5_response_31 : decode cX5_response 31 = .ok (.isub, 1) := by decide +kernel
theorem dX5_response_32 : decode cX5_response 32 = .ok (.iaload, 1) := by decide +kernel
theorem dX5_response_33 : decode cX5_response 33 = .ok (.aload_n 0, 1) := by decide +kernel
theorem dX5_response_34 : decode cX5_response 34 = .ok (.getfield 9, 3) := by decide +kernel
theorem dX5_response_37 : decode cX5_response 37 = .ok (.iload_n 1, 1) := by decide +kernel
theorem dX5_response_38 : decode cX5_response 38 = .ok (.iaload, 1) := by decide +kernel
theorem dX5_response_39 : decode cX5_response 39 = .ok (.if_icmp .le 23, 3) := by decide +kernel
theorem dX5_response_42 : decode cX5_response 42 = .ok (.aload_n 0, 1) := by decide +kernel
theorem dX5_response_43 : decode cX5_response 43 = .ok (.getfield 15, 3) := by decide +kernel
theorem dX5_response_46 : decode cX5_response 46 = .ok (.iload_n 2, 1) := by decide +kernel
theorem dX5_response_47 : decode cX5_response 47 = .ok (.aload_n 0, 1) := by decide +kernel
theorem dX5_response_48 : decode cX5_response 48 = .ok (.getfield 15, 3) := by decide +kernel
theorem dX5_response_51 : decode cX5_response 51 = .ok (.iload_n 2, 1) := by decide +kernel
theorem dX5_response_52 : decode cX5_response 52 = .ok (.iconst 1, 1) := by decide +kernel
theorem dX5_response_53 : decode cX5_response 53 = .ok (.isub, 1) := by decide +kernel
theorem dX5_response_54 : decode cX5_response 54 = .ok (.iaload, 1) := by decide +kernel
theorem dX5_response_55 : decode cX5_response 55 = .ok (.iastore, 1) := by decide +kernel
theorem dX5_response_56 : decode cX5_response 56 = .ok (.iinc 2 (-1), 3) := by decide +kernel
theorem dX5_response_59 : decode cX5_response 59 = .ok (.goto (-38), 3) := by decide +kernel
theorem dX5_response_62 : decode cX5_response 62 = .ok (.aload_n 0, 1) := by decide +kernel
theorem dX5_response_63 : decode cX5_response 63 = .ok (.getfield 15, 3) := by decide +kernel
theorem dX5_response_66 : decode cX5_response 66 = .ok (.iload_n 2, 1) := by decide +kernel
theorem dX5_response_67 : decode cX5_response 67 = .ok (.aload_n 0, 1) := by decide +kernel
theorem dX5_response_68 : decode cX5_response 68 = .ok (.getfield 9, 3) := by decide +kernel
theorem dX5_response_71 : decode cX5_response 71 = .ok (.iload_n 1, 1) := by decide +kernel
theorem dX5_response_72 : decode cX5_response 72 = .ok (.iaload, 1) := by decide +kernel
theorem dX5_response_73 : decode cX5_response 73 = .ok (.iastore, 1) := by decide +kernel
theorem dX5_response_74 : decode cX5_response 74 = .ok (.iinc 1 1, 3) := by decide +kernel
theorem dX5_response_77 : decode cX5_response 77 = .ok (.goto (-66), 3) := by decide +kernel
theorem dX5_response_80 : decode cX5_response 80 = .ok (.aload_n 0, 1) := by decide +kernel
theorem dX5_response_81 : decode cX5_response 81 = .ok (.getfield 15, 3) := by decide +kernel
theorem dX5_response_84 : decode cX5_response 84 = .ok (.bipush 9, 2) := by decide +kernel
theorem dX5_response_86 : decode cX5_response 86 = .ok (.aload_n 0, 1) := by decide +kernel
theorem dX5_response_87 : decode cX5_response 87 = .ok (.getfield 18, 3) := by decide +kernel
theorem dX5_response_90 : decode cX5_response 90 = .ok (.imul, 1) := by decide +kernel
theorem dX5_response_91 : decode cX5_response 91 = .ok (.bipush 10, 2) := by decide +kernel
theorem dX5_response_93 : decode cX5_response 93 = .ok (.idiv, 1) := by decide +kernel
theorem dX5_response_94 : decode cX5_response 94 = .ok (.iaload, 1) := by decide +kernel
theorem dX5_response_95 : decode cX5_response 95 = .ok (.ireturn, 1) := by decide +kernel
set_option maxRecDepth 20000 in
theorem ggX6_init_X1_init : GoodIn wsX6_init wsX1_init := goodIn_r _ [14, 15, 2, 3, 16, 17, 18, 19, 28, 29, 30, 31] (by decide +kernel) (by decide +kernel)
set_option maxRecDepth 20000 in
theorem gX6_init_X1_init : GoodIn wsX6_init (wsX1_init) := ggX6_init_X1_init
set_option maxRecDepth 20000 in
theorem ggX6_init_X2_init : GoodIn wsX6_init wsX2_init := goodIn_r _ [21, 22, 2, 3, 23, 24, 16, 25, 26, 27, 37, 38, 39, 40, 41, 42] (by decide +kernel) (by decide +kernel)
set_option maxRecDepth 20000 in
theorem gX6_init_X2_init_n22 : GoodIn wsX6_init (wsX2_init) := ggX6_init_X2_init
theorem dX6_init_0 : decode cX6_init 0 = .ok (.aload_n 0, 1) := by decide +kernel
theorem dX6_init_1 : decode cX6_init 1 = .ok (.invokespecial 3, 3) := by decide +kernel
theorem dX6_init_4 : decode cX6_init 4 = .ok (.aload_n 0, 1) := by decide +kernel
theorem dX6_init_5 : decode cX6_init 5 = .ok (.new 9, 3) := by decide +kernel
theorem dX6_init_8 : decode cX6_init 8 = .ok (.dup, 1) := by decide +kernel
theorem dX6_init_9 : decode cX6_init 9 = .ok (.bipush 8, 2) := by decide +kernel
theorem dX6_init_11 : decode cX6_init 11 = .ok (.invokespecial 11, 3) := by decide +kernel
theorem dX6_init_14 : decode cX6_init 14 = .ok (.putfield 14, 3) := by decide +kernel
theorem dX6_init_17 : decode cX6_init 17 = .ok (.aload_n 0, 1) := by decide +kernel
theorem dX6_init_18 : decode cX6_init 18 = .ok (.new 20, 3) := by decide +kernel
theorem dX6_init_21 : decode cX6_init 21 = .ok (.dup, 1) := by decide +kernel
theorem dX6_init_22 : decode cX6_init 22 = .ok (.invokespecial 22, 3) := by decide +kernel
theorem dX6_init_25 : decode cX6_init 25 = .ok (.putfield 23, 3) := by decide +kernel
theorem dX6_init_28 : decode cX6_init 28 = .ok (.return_, 1) := by decide +kernel
theorem dX6_figure_0 : decode cX6_figure 0 = .ok (.iload_n 1, 1) := by decide +kernel
theorem dX6_figure_1 : decode cX6_figure 1 = .ok (.tableswitch 56 0 2 #[27, 35, 40], 27) := by decide +kernel
theorem dX6_figure_28 : decode cX6_figure 28 = .ok (.aload_n 0, 1) := by decide +kernel
theorem dX6_figure_29 : decode cX6_figure 29 = .ok (.getfield 14, 3) := by decide +kernel
theorem dX6_figure_32 : decode cX6_figure 32 = .ok (.getfield 27, 3) := by decide +kernel
theorem dX6_figure_35 : decode cX6_figure 35 = .ok (.ireturn, 1) := by decide +kernel
theorem dX6_figure_36 : decode cX6_figure 36 = .ok (.aload_n 0, 1) := by decide +kernel
theorem dX6_figure_37 : decode cX6_figure 37 = .ok (.getfield 31, 3) := by decide +kernel
theorem dX6_figure_40 : decode cX6_figure 40 = .ok (.ireturn, 1) := by decide +kernel
theorem dX6_figure_41 : decode cX6_figure 41 = .ok (.aload_n 0, 1) := by decide +kernel
theorem dX6_figure_42 : decode cX6_figure 42 = .ok (.getfield 23, 3) := by decide +kernel
theorem dX6_figure_45 : decode cX6_figure 45 = .ok (.getfield 34, 3) := by decide +kernel
theorem dX6_figure_48 : decode cX6_figure 48 = .ok (.aload_n 0, 1) := by decide +kernel
theorem dX6_figure_49 : decode cX6_figure 49 = .ok (.getfield 23, 3) := by decide +kernel
theorem dX6_figure_52 : decode cX6_figure 52 = .ok (.getfield 35, 3) := by decide +kernel
theorem dX6_figure_55 : decode cX6_figure 55 = .ok (.isub, 1) := by decide +kernel
theorem dX6_figure_56 : decode cX6_figure 56 = .ok (.ireturn, 1) := by decide +kernel
theorem dX6_figure_57 : decode cX6_figure 57 = .ok (.iconst (-1), 1) := by decide +kernel
theorem dX6_figure_58 : decode cX6_figure 58 = .ok (.ireturn, 1) := by decide +kernel
end
section
set_option maxRecDepth 20000 in
theorem ggX7_init_X4_init : GoodIn wsX7_init wsX4_init := goodIn_r _ [15, 16, 2, 3, 17, 18, 19, 20, 21, 22, 35, 36, 37, 38, 39, 40] (by decide +kernel) (by decide +kernel)
set_option maxRecDepth 20000 in
theorem gX7_init_X4_init_n17 : GoodIn wsX7_init (wsX4_init) := ggX7_init_X4_init
set_option maxRecDepth 20000 in
theorem ggX7_init_X0_init : GoodIn wsX7_init wsX0_init := goodIn_r _ [24, 25, 2, 3, 17, 26, 27, 41, 42, 43] (by decide +kernel) (by decide +kernel)
set_option maxRecDepth 20000 in
theorem gX7_init_X0_init_n24 : GoodIn wsX7_init (wsX0_init) := ggX7_init_X0_init
theorem dX7_init_0 : decode cX7_init 0 = .ok (.aload_n 0, 1) := by decide +kernel
theorem dX7_init_1 : decode cX7_init 1 = .ok (.invokespecial 3, 3) := by decide +kernel
theorem dX7_init_4 : decode cX7_init 4 = .ok (.aload_n 0, 1) := by decide +kernel
theorem dX7_init_5 : decode cX7_init 5 = .ok (.bipush 8, 2) := by decide +kernel
theorem dX7_init_7 : decode cX7_init 7 = .ok (.anewarray 9, 3) := by decide +kernel
theorem dX7_init_10 : decode cX7_init 10 = .ok (.putfield 11, 3) := by decide +kernel
theorem dX7_init_13 : decode cX7_init 13 = .ok (.aload_n 0, 1) := by decide +kernel
theorem dX7_init_14 : decode cX7_init 14 = .ok (.new 15, 3) := by decide +kernel
theorem dX7_init_17 : decode cX7_init 17 = .ok (.dup, 1) := by decide +kernel
theorem dX7_init_18 : decode cX7_init 18 = .ok (.invokespecial 17, 3) := by decide +kernel
theorem dX7_init_21 : decode cX7_init 21 = .ok (.putfield 18, 3) := by decide +kernel
theorem dX7_init_24 : decode cX7_init 24 = .ok (.aload_n 0, 1) := by decide +kernel
theorem dX7_init_25 : decode cX7_init 25 = .ok (.new 22, 3) := by decide +kernel
theorem dX7_init_28 : decode cX7_init 28 = .ok (.dup, 1) := by decide +kernel
theorem dX7_init_29 : decode cX7_init 29 = .ok (.invokespecial 24, 3) := by decide +kernel
theorem dX7_init_32 : decode cX7_init 32 = .ok (.putfield 25, 3) := by decide +kernel
theorem dX7_init_35 : decode cX7_init 35 = .ok (.return_, 1) := by decide +kernel
set_option maxRecDepth 20000 in
theorem ggX7_stage_X7_within : GoodIn wsX7_stage wsX7_within := goodIn_r _ [9] (by decide +kernel) (by decide +kernel)
set_option maxRecDepth 20000 in
theorem gX7_stage_X7_within : GoodIn wsX7_stage (va_wsS RX7 29 yX7_within wsX7_within) := goodIn_app (goodIn_of _ (by decide +kernel)) ggX7_stage_X7_within
set_option maxRecDepth 20000 in
theorem ggX7_stage_X3_init : GoodIn wsX7_stage wsX3_init := goodIn_r _ [12, 13, 14, 15, 16, 17, 18, 19, 20, 21, 22, 23, 24, 25, 26, 27, 28, 29, 30, 31, 32, 33, 34, 35, 36, 37, 38, 39, 40, 41, 42, 43, 44, 45, 46, 47, 48, 49, 50, 51, 52, 53, 54, 55, 56, 57, 58, 59, 60, 61, 62, 63, 64, 65, 66, 93, 94, 95, 74, 75, 76, 77, 78, 79, 80, 81, 82, 83, 84, 85, 86, 87, 88, 89, 90, 91, 92, 96, 97, 98, 99, 100, 101, 102, 103, 104, 105, 106, 107, 108, 109, 110] (by decide +kernel) (by decide +kernel)
set_option maxRecDepth 20000 in
theorem gX7_stage_X3_init : GoodIn wsX7_stage (wsX3_init) := ggX7_stage_X3_init
theorem dX7_stage_0 : decode cX7_stage 0 = .ok (.iload_n 1, 1) := by decide +kernel
theorem dX7_stage_1 : decode cX7_stage 1 = .ok (.iconst 0, 1) := by decide +kernel
theorem dX7_stage_2 : decode cX7_stage 2 = .ok (.iconst 4, 1) := by decide +kernel
theorem dX7_stage_3 : decode cX7_stage 3 = .ok (.invokestatic 29, 3) := by decide +kernel
theorem dX7_stage_6 : decode cX7_stage 6 = .ok (.ifCond .eq 33, 3) := by decide +kernel
theorem dX7_stage_9 : decode cX7_stage 9 = .ok (.iload_n 2, 1) := by decide +kernel
theorem dX7_stage_10 : decode cX7_stage 10 = .ok (.iconst 1, 1) := by decide +kernel
theorem dX7_stage_11 : decode cX7_stage 11 = .ok (.bipush 32, 2) := by decide +kernel
theorem dX7_stage_13 : decode cX7_stage 13 = .ok (.invokestatic 29, 3) := by decide +kernel
theorem dX7_stage_16 : decode cX7_stage 16 = .ok (.ifCond .eq 23, 3) := by decide +kernel
theorem dX7_stage_19 : decode cX7_stage 19 = .ok (.iload_n 3, 1) := by decide +kernel
theorem dX7_stage_20 : decode cX7_stage 20 = .ok (.iconst 1, 1) := by decide +kernel
theorem dX7_stage_21 : decode cX7_stage 21 = .ok (.iconst 4, 1) := by decide +kernel
theorem dX7_stage_22 : decode cX7_stage 22 = .ok (.invokestatic 29, 3) := by decide +kernel
theorem dX7_stage_25 : decode cX7_stage 25 = .ok (.ifCond .eq 14, 3) := by decide +kernel
theorem dX7_stage_28 : decode cX7_stage 28 = .ok (.iload 4, 2) := by decide +kernel
theorem dX7_stage_30 : decode cX7_stage 30 = .ok (.iconst 0, 1) := by decide +kernel
theorem dX7_stage_31 : decode cX7_stage 31 = .ok (.bipush 9, 2) := by decide +kernel
theorem dX7_stage_33 : decode cX7_stage 33 = .ok (.invokestatic 29, 3) := by decide +kernel
theorem dX7_stage_36 : decode cX7_stage 36 = .ok (.ifCond .ne 5, 3) := by decide +kernel
theorem dX7_stage_39 : decode cX7_stage 39 = .ok (.iconst (-1), 1) := by decide +kernel
theorem dX7_stage_40 : decode cX7_stage 40 = .ok (.ireturn, 1) := by decide +kernel
theorem dX7_stage_41 : decode cX7_stage 41 = .ok (.aload_n 0, 1) := by decide +kernel
theorem dX7_stage_42 : decode cX7_stage 42 = .ok (.getfield 33, 3) := by decide +kernel
theorem dX7_stage_45 : decode cX7_stage 45 = .ok (.bipush 8, 2) := by decide +kernel
theorem dX7_stage_47 : decode cX7_stage 47 = .ok (.if_icmp .lt 6, 3) := by decide +kernel
theorem dX7_stage_50 : decode cX7_stage 50 = .ok (.bipush (-2), 2) := by decide +kernel
theorem dX7_stage_52 : decode cX7_stage 52 = .ok (.ireturn, 1) := by decide +kernel
theorem dX7_stage_53 : decode cX7_stage 53 = .ok (.aload_n 0, 1) := by decide +kernel
theorem dX7_stage_54 : decode cX7_stage 54 = .ok (.getfield 11, 3) := by decide +kernel
theorem dX7_stage_57 : decode cX7_stage 57 = .ok (.aload_n 0, 1) := by decide +kernel
theorem dX7_stage_58 : decode cX7_stage 58 = .ok (.getfield 33, 3) := by decide +kernel
theorem dX7_stage_61 : decode cX7_stage 61 = .ok (.new 9, 3) := by decide +kernel
theorem dX7_stage_64 : decode cX7_stage 64 = .ok (.dup, 1) := by decide +kernel
theorem dX7_stage_65 : decode cX7_stage 65 = .ok (.iload_n 1, 1) := by decide +kernel
theorem dX7_stage_66 : decode cX7_stage 66 = .ok (.iload_n 2, 1) := by decide +kernel
theorem dX7_stage_67 : decode cX7_stage 67 = .ok (.iload_n 3, 1) := by decide +kernel
theorem dX7_stage_68 : decode cX7_stage 68 = .ok (.iload 4, 2) := by decide +kernel
theorem dX7_stage_70 : decode cX7_stage 70 = .ok (.invokespecial 37, 3) := by decide +kernel
theorem dX7_stage_73 : decode cX7_stage 73 = .ok (.aastore, 1) := by decide +kernel
theorem dX7_stage_74 : decode cX7_stage 74 = .ok (.aload_n 0, 1) := by decide +kernel
theorem dX7_stage_75 : decode cX7_stage 75 = .ok (.dup, 1) := by decide +kernel
theorem dX7_stage_76 : decode cX7_stage 76 = .ok (.getfield 33, 3) := by decide +kernel
theorem dX7_stage_79 : decode cX7_stage 79 = .ok (.iconst 1, 1) := by decide +kernel
theorem dX7_stage_80 : decode cX7_stage 80 = .ok (.iadd, 1) := by decide +kernel
theorem dX7_stage_81 : decode cX7_stage 81 = .ok (.putfield 33, 3) := by decide +kernel
theorem dX7_stage_84 : decode cX7_stage 84 = .ok (.aload_n 0, 1) := by decide +kernel
theorem dX7_stage_85 : decode cX7_stage 85 = .ok (.getfield 33, 3) := by decide +kernel
theorem dX7_stage_88 : decode cX7_stage 88 = .ok (.iconst 1, 1) := by decide +kernel
theorem dX7_stage_89 : decode cX7_stage 89 = .ok (.isub, 1) := by decide +kernel
theorem dX7_stage_90 : decode cX7_stage 90 = .ok (.ireturn, 1) := by decide +kernel
set_option maxRecDepth 20000 in
theorem ggX7_targets_X7_stageAt : GoodIn wsX7_targets wsX7_stageAt := goodIn_r _ [7, 8, 9, 10, 11, 6, 12, 36, 37, 38, 39, 40, 41, 42] (by decide +kernel) (by decide +kernel)
set_option maxRecDepth 20000 in
theorem gX7_targets_X7_stageAt : GoodIn wsX7_targets (wsV RX7 40 RX7 yX7_stageAt wsX7_stageAt) := goodIn_app (goodIn_of _ (by decide +kernel)) ggX7_targets_X7_stageAt
set_option maxRecDepth 20000 in
theorem ggX7_targets_X7_isTarget : GoodIn wsX7_targets wsX7_isTarget := goodIn_r _ [16, 8, 10, 11, 6, 12, 36, 37, 38, 39, 40, 41, 42] (by decide +kernel) (by decide +kernel)
set_option maxRecDepth 20000 in
theorem gX7_targets_X7_isTarget : GoodIn wsX7_targets (wsV RX7 44 RX7 yX7_isTarget wsX7_isTarget) := goodIn_app (goodIn_of _ (by decide +kernel)) ggX7_targets_X7_isTarget
theorem dX7_targets_0 : decode cX7_targets 0 = .ok (.aload_n 0, 1) := by decide +kernel
theorem dX7_targets_1 : decode cX7_targets 1 = .ok (.iload_n 1, 1) := by decide +kernel
theorem dX7_targets_2 : decode cX7_targets 2 = .ok (.invokevirtual 40, 3) := by decide +kernel
theorem dX7_targets_5 : decode cX7_targets 5 = .ok (.astore 4, 2) := by decide +kernel
theorem dX7_targets_7 : decode cX7_targets 7 = .ok (.aload 4, 2) := by decide +kernel
theorem dX7_targets_9 : decode cX7_targets 9 = .ok (.ifnull 19, 3) := by decide +kernel
theorem dX7_targets_12 : decode cX7_targets 12 = .ok (.aload_n 0, 1) := by decide +kernel
theorem dX7_targets_13 : decode cX7_targets 13 = .ok (.iload_n 2, 1) := by decide +kernel
theorem dX7_targets_14 : decode cX7_targets 14 = .ok (.invokevirtual 44, 3) := by decide +kernel
theorem dX7_targets_17 : decode cX7_targets 17 = .ok (.ifCond .eq 11, 3) := by decide +kernel
theorem dX7_targets_20 : decode cX7_targets 20 = .ok (.aload_n 0, 1) := by decide +kernel
theorem dX7_targets_21 : decode cX7_targets 21 = .ok (.iload_n 3, 1) := by decide +kernel
theorem dX7_targets_22 : decode cX7_targets 22 = .ok (.invokevirtual 44, 3) := by decide +kernel
theorem dX7_targets_25 : decode cX7_targets 25 = .ok (.ifCond .ne 5, 3) := by decide +kernel
theorem dX7_targets_28 : decode cX7_targets 28 = .ok (.iconst (-1), 1) := by decide +kernel
theorem dX7_targets_29 : decode cX7_targets 29 = .ok (.ireturn, 1) := by decide +kernel
theorem dX7_targets_30 : decode cX7_targets 30 = .ok (.aload 4, 2) := by decide +kernel
theorem dX7_targets_32 : decode cX7_targets 32 = .ok (.aload_n 0, 1) := by decide +kernel
theorem dX7_targets_33 : decode cX7_targets 33 = .ok (.iload_n 2, 1) := by decide +kernel
theorem dX7_targets_34 : decode cX7_targets 34 = .ok (.invokevirtual 40, 3) := by decide +kernel
theorem dX7_targets_37 : decode cX7_targets 37 = .ok (.putfield 48, 3) := by decide +kernel
theorem dX7_targets_40 : decode cX7_targets 40 = .ok (.aload 4, 2) := by decide +kernel
theorem dX7_targets_42 : decode cX7_targets 42 = .ok (.aload_n 0, 1) := by decide +kernel
theorem dX7_targets_43 : decode cX7_targets 43 = .ok (.iload_n 3, 1) := by decide +kernel
theorem dX7_targets_44 : decode cX7_targets 44 = .ok (.invokevirtual 40, 3) := by decide +kernel
theorem dX7_targets_47 : decode cX7_targets 47 = .ok (.putfield 52, 3) := by decide +kernel
theorem dX7_targets_50 : decode cX7_targets 50 = .ok (.iconst 1, 1) := by decide +kernel
theorem dX7_targets_51 : decode cX7_targets 51 = .ok (.ireturn, 1) := by decide +kernel
set_option maxRecDepth 20000 in
theorem ggX7_admit_X7_stageAt : GoodIn wsX7_admit wsX7_stageAt := goodIn_r _ [13, 14, 15, 16, 17, 12, 18, 38, 39, 40, 41, 42, 43, 44] (by decide +kernel) (by decide +kernel)
set_option maxRecDepth 20000 in
theorem gX7_admit_X7_stageAt : GoodIn wsX7_admit (wsV RX7 40 RX7 yX7_stageAt wsX7_stageAt) := goodIn_app (goodIn_of _ (by decide +kernel)) ggX7_admit_X7_stageAt
set_option maxRecDepth 20000 in
theorem ggX7_admit_X7_within : GoodIn wsX7_admit wsX7_within := goodIn_r _ [18] (by decide +kernel) (by decide +kernel)
set_option maxRecDepth 20000 in
theorem gX7_admit_X7_within : GoodIn wsX7_admit (va_wsS RX7 29 yX7_within wsX7_within) := goodIn_app (goodIn_of _ (by decide +kernel)) ggX7_admit_X7_within
theorem dX7_admit_0 : decode cX7_admit 0 = .ok (.aload_n 0, 1) := by decide +kernel
theorem dX7_admit_1 : decode cX7_admit 1 = .ok (.iload_n 1, 1) := by decide +kernel
theorem dX7_admit_2 : decode cX7_admit 2 = .ok (.invokevirtual 40, 3) := by decide +kernel
theorem dX7_admit_5 : decode cX7_admit 5 = .ok (.astore 5, 2) := by decide +kernel
theorem dX7_admit_7 : decode cX7_admit 7 = .ok (.aload 5, 2) := by decide +kernel
theorem dX7_admit_9 : decode cX7_admit 9 = .ok (.ifnull 35, 3) := by decide +kernel
theorem dX7_admit_12 : decode cX7_admit 12 = .ok (.iload_n 2, 1) := by decide +kernel
theorem dX7_admit_13 : decode cX7_admit 13 = .ok (.iconst 0, 1) := by decide +kernel
theorem dX7_admit_14 : decode cX7_admit 14 = .ok (.bipush 100, 2) := by decide +kernel
theorem dX7_admit_16 : decode cX7_admit 16 = .ok (.invokestatic 29, 3) := by decide +kernel
theorem dX7_admit_19 : decode cX7_admit 19 = .ok (.ifCond .eq 25, 3) := by decide +kernel
theorem dX7_admit_22 : decode cX7_admit 22 = .ok (.iload_n 3, 1) := by decide +kernel
theorem dX7_admit_23 : decode cX7_admit 23 = .ok (.iconst 1, 1) := by decide +kernel
theorem dX7_admit_24 : decode cX7_admit 24 = .ok (.bipush 100, 2) := by decide +kernel
theorem dX7_admit_26 : decode cX7_admit 26 = .ok (.invokestatic 29, 3) := by decide +kernel
theorem dX7_admit_29 : decode cX7_admit 29 = .ok (.ifCond .eq 15, 3) := by decide +kernel
theorem dX7_admit_32 : decode cX7_admit 32 = .ok (.iload 4, 2) := by decide +kernel
theorem dX7_admit_34 : decode cX7_admit 34 = .ok (.iconst 0, 1) := by decide +kernel
theorem dX7_admit_35 : decode cX7_admit 35 = .ok (.sipush 1000, 3) := by decide +kernel
theorem dX7_admit_38 : decode cX7_admit 38 = .ok (.invokestatic 29, 3) := by decide +kernel
theorem dX7_admit_41 : decode cX7_admit 41 = .ok (.ifCond .ne 5, 3) := by decide +kernel
theorem dX7_admit_44 : decode cX7_admit 44 = .ok (.iconst (-1), 1) := by decide +kernel
theorem dX7_admit_45 : decode cX7_admit 45 = .ok (.ireturn, 1) := by decide +kernel
theorem dX7_admit_46 : decode cX7_admit 46 = .ok (.aload 5, 2) := by decide +kernel
theorem dX7_admit_48 : decode cX7_admit 48 = .ok (.iload_n 2, 1) := by decide +kernel
theorem dX7_admit_49 : decode cX7_admit 49 = .ok (.putfield 55, 3) := by decide +kernel
theorem dX7_admit_52 : decode cX7_admit 52 = .ok (.aload 5, 2) := by decide +kernel
theorem dX7_admit_54 : decode cX7_admit 54 = .ok (.iload_n 3, 1) := by decide +kernel
theorem dX7_admit_55 : decode cX7_admit 55 = .ok (.putfield 58, 3) := by decide +kernel
theorem dX7_admit_58 : decode cX7_admit 58 = .ok (.aload 5, 2) := by decide +kernel
theorem dX7_admit_60 : decode cX7_admit 60 = .ok (.iload 4, 2) := by decide +kernel
theorem dX7_admit_62 : decode cX7_admit 62 = .ok (.putfield 61, 3) := by decide +kernel
theorem dX7_admit_65 : decode cX7_admit 65 = .ok (.aload 5, 2) := by decide +kernel
theorem dX7_admit_67 : decode cX7_admit 67 = .ok (.aload 5, 2) := by decide +kernel
theorem dX7_admit_69 : decode cX7_admit 69 = .ok (.getfield 64, 3) := by decide +kernel
theorem dX7_admit_72 : decode cX7_admit 72 = .ok (.iload_n 3, 1) := by decide +kernel
theorem dX7_admit_73 : decode cX7_admit 73 = .ok (.invokestatic 67, 3) := by decide +kernel
theorem dX7_admit_76 : decode cX7_admit 76 = .ok (.putfield 64, 3) := by decide +kernel
theorem dX7_admit_79 : decode cX7_admit 79 = .ok (.iconst 1, 1) := by decide +kernel
theorem dX7_admit_80 : decode cX7_admit 80 = .ok (.ireturn, 1) := by decide +kernel
set_option maxRecDepth 20000 in
theorem ggX7_put_X7_stageAt : GoodIn wsX7_put wsX7_stageAt := goodIn_r _ [6, 7, 8, 9, 10, 5, 11, 46, 47, 48, 49, 50, 51, 52] (by decide +kernel) (by decide +kernel)
set_option maxRecDepth 20000 in
theorem gX7_put_X7_stageAt : GoodIn wsX7_put (wsV RX7 40 RX7 yX7_stageAt wsX7_stageAt) := goodIn_app (goodIn_of _ (by decide +kernel)) ggX7_put_X7_stageAt
set_option maxRecDepth 20000 in
theorem ggX7_put_X3_ask : GoodIn wsX7_put wsX3_ask := goodIn_r _ [16, 17, 18, 19, 20, 21, 22, 15, 23, 24, 25, 26, 27, 53, 54, 55, 56, 57, 58, 59, 60, 61, 62, 63, 64, 65, 66, 67, 68, 69, 70, 71, 72, 73, 74, 75] (by decide +kernel) (by decide +kernel)
set_option maxRecDepth 20000 in
theorem gX7_put_X3_ask : GoodIn wsX7_put (wsV RX7 73 RX3 yX3_ask wsX3_ask) := goodIn_app (goodIn_of _ (by decide +kernel)) ggX7_put_X3_ask
set_option maxRecDepth 20000 in
theorem ggX7_put_X7_makeEvent : GoodIn wsX7_put wsX7_makeEvent := goodIn_r _ [31, 32, 46, 47, 48, 49, 50, 51, 52] (by decide +kernel) (by decide +kernel)
set_option maxRecDepth 20000 in
theorem gX7_put_X7_makeEvent : GoodIn wsX7_put (wsV RX7 77 RX7 yX7_makeEvent wsX7_makeEvent) := goodIn_app (goodIn_of _ (by decide +kernel)) ggX7_put_X7_makeEvent
set_option maxRecDepth 20000 in
theorem ggX7_put_X3_take : GoodIn wsX7_put wsX3_take := goodIn_r _ [36, 25, 18, 37, 38, 39, 40, 41, 42, 43, 44, 45, 53, 54, 55, 56, 57, 58, 59, 60, 61, 62, 63, 64, 65, 66, 67, 68, 69, 70, 71, 72, 73, 74, 75] (by decide +kernel) (by decide +kernel)
set_option maxRecDepth 20000 in
theorem gX7_put_X3_take : GoodIn wsX7_put (wsV RX7 83 RX3 yX3_take wsX3_take) := goodIn_app (goodIn_of _ (by decide +kernel)) ggX7_put_X3_take
theorem dX7_put_0 : decode cX7_put 0 = .ok (.aload_n 0, 1) := by decide +kernel
theorem dX7_put_1 : decode cX7_put 1 = .ok (.iload_n 1, 1) := by decide +kernel
theorem dX7_put_2 : decode cX7_put 2 = .ok (.invokevirtual 40, 3) := by decide +kernel
theorem dX7_put_5 : decode cX7_put 5 = .ok (.astore_n 3, 1) := by decide +kernel
theorem dX7_put_6 : decode cX7_put 6 = .ok (.aload_n 3, 1) := by decide +kernel
theorem dX7_put_7 : decode cX7_put 7 = .ok (.ifnonnull 5, 3) := by decide +kernel
theorem dX7_put_10 : decode cX7_put 10 = .ok (.iconst (-1), 1) := by decide +kernel
theorem dX7_put_11 : decode cX7_put 11 = .ok (.ireturn, 1) := by decide +kernel
theorem dX7_put_12 : decode cX7_put 12 = .ok (.aload_n 3, 1) := by decide +kernel
theorem dX7_put_13 : decode cX7_put 13 = .ok (.invokevirtual 73, 3) := by decide +kernel
theorem dX7_put_16 : decode cX7_put 16 = .ok (.istore 4, 2) := by decide +kernel
theorem dX7_put_18 : decode cX7_put 18 = .ok (.iload 4, 2) := by decide +kernel
theorem dX7_put_20 : decode cX7_put 20 = .ok (.ifCond .eq 6, 3) := by decide +kernel
theorem dX7_put_23 : decode cX7_put 23 = .ok (.iload 4, 2) := by decide +kernel
theorem dX7_put_25 : decode cX7_put 25 = .ok (.ireturn, 1) := by decide +kernel
theorem dX7_put_26 : decode cX7_put 26 = .ok (.aload_n 0, 1) := by decide +kernel
theorem dX7_put_27 : decode cX7_put 27 = .ok (.invokevirtual 77, 3) := by decide +kernel
theorem dX7_put_30 : decode cX7_put 30 = .ok (.istore 5, 2) := by decide +kernel
theorem dX7_put_32 : decode cX7_put 32 = .ok (.aload_n 3, 1) := by decide +kernel
theorem dX7_put_33 : decode cX7_put 33 = .ok (.iload 5, 2) := by decide +kernel
theorem dX7_put_35 : decode cX7_put 35 = .ok (.iload_n 2, 1) := by decide +kernel
theorem dX7_put_36 : decode cX7_put 36 = .ok (.aload_n 0, 1) := by decide +kernel
theorem dX7_put_37 : decode cX7_put 37 = .ok (.getfield 80, 3) := by decide +kernel
theorem dX7_put_40 : decode cX7_put 40 = .ok (.invokevirtual 83, 3) := by decide +kernel
theorem dX7_put_43 : decode cX7_put 43 = .ok (.iload 5, 2) := by decide +kernel
theorem dX7_put_45 : decode cX7_put 45 = .ok (.ireturn, 1) := by decide +kernel
set_option maxRecDepth 20000 in
theorem ggX7_prepare_X7_stageAt : GoodIn wsX7_prepare wsX7_stageAt := goodIn_r _ [7, 8, 9, 10, 11, 6, 12, 41, 42, 43, 44, 45, 46, 47] (by decide +kernel) (by decide +kernel)
set_option maxRecDepth 20000 in
theorem gX7_prepare_X7_stageAt : GoodIn wsX7_prepare (wsV RX7 40 RX7 yX7_stageAt wsX7_stageAt) := goodIn_app (goodIn_of _ (by decide +kernel)) ggX7_prepare_X7_stageAt
set_option maxRecDepth 20000 in
theorem ggX7_prepare_X7_within : GoodIn wsX7_prepare wsX7_within := goodIn_r _ [12] (by decide +kernel) (by decide +kernel)
set_option maxRecDepth 20000 in
theorem gX7_prepare_X7_within : GoodIn wsX7_prepare (va_wsS RX7 29 yX7_within wsX7_within) := goodIn_app (goodIn_of _ (by decide +kernel)) ggX7_prepare_X7_within
set_option maxRecDepth 20000 in
theorem ggX7_prepare_X3_freePlaces : GoodIn wsX7_prepare wsX3_freePlaces := goodIn_r _ [17, 18, 19, 20, 21, 22, 23, 24, 25, 26, 27, 28, 29, 30, 31, 32, 33, 34, 35, 36, 37, 38, 39, 40, 48, 49, 50, 51] (by decide +kernel) (by decide +kernel)
set_option maxRecDepth 20000 in
theorem gX7_prepare_X3_freePlaces : GoodIn wsX7_prepare (wsV RX7 91 RX3 yX3_freePlaces wsX3_freePlaces) := goodIn_app (goodIn_of _ (by decide +kernel)) ggX7_prepare_X3_freePlaces
theorem dX7_prepare_0 : decode cX7_prepare 0 = .ok (.aload_n 0, 1) := by decide +kernel
theorem dX7_prepare_1 : decode cX7_prepare 1 = .ok (.iload_n 1, 1) := by decide +kernel
theorem dX7_prepare_2 : decode cX7_prepare 2 = .ok (.invokevirtual 40, 3) := by decide +kernel
theorem dX7_prepare_5 : decode cX7_prepare 5 = .ok (.astore_n 3, 1) := by decide +kernel
theorem dX7_prepare_6 : decode cX7_prepare 6 = .ok (.aload_n 3, 1) := by decide +kernel
theorem dX7_prepare_7 : decode cX7_prepare 7 = .ok (.ifnull 13, 3) := by decide +kernel
theorem dX7_prepare_10 : decode cX7_prepare 10 = .ok (.iload_n 2, 1) := by decide +kernel
theorem dX7_prepare_11 : decode cX7_prepare 11 = .ok (.iconst 1, 1) := by decide +kernel
theorem dX7_prepare_12 : decode cX7_prepare 12 = .ok (.bipush 8, 2) := by decide +kernel
theorem dX7_prepare_14 : decode cX7_prepare 14 = .ok (.invokestatic 29, 3) := by decide +kernel
theorem dX7_prepare_17 : decode cX7_prepare 17 = .ok (.ifCond .ne 5, 3) := by decide +kernel
theorem dX7_prepare_20 : decode cX7_prepare 20 = .ok (.iconst (-1), 1) := by decide +kernel
theorem dX7_prepare_21 : decode cX7_prepare 21 = .ok (.ireturn, 1) := by decide +kernel
theorem dX7_prepare_22 : decode cX7_prepare 22 = .ok (.aload_n 3, 1) := by decide +kernel
theorem dX7_prepare_23 : decode cX7_prepare 23 = .ok (.getfield 87, 3) := by decide +kernel
theorem dX7_prepare_26 : decode cX7_prepare 26 = .ok (.ifCond .eq 6, 3) := by decide +kernel
theorem dX7_prepare_29 : decode cX7_prepare 29 = .ok (.bipush (-3), 2) := by decide +kernel
theorem dX7_prepare_31 : decode cX7_prepare 31 = .ok (.ireturn, 1) := by decide +kernel
theorem dX7_prepare_32 : decode cX7_prepare 32 = .ok (.iload_n 2, 1) := by decide +kernel
theorem dX7_prepare_33 : decode cX7_prepare 33 = .ok (.aload_n 3, 1) := by decide +kernel
theorem dX7_prepare_34 : decode cX7_prepare 34 = .ok (.invokevirtual 91, 3) := by decide +kernel
theorem dX7_prepare_37 : decode cX7_prepare 37 = .ok (.if_icmp .le 6, 3) := by decide +kernel
theorem dX7_prepare_40 : decode cX7_prepare 40 = .ok (.bipush (-2), 2) := by decide +kernel
theorem dX7_prepare_42 : decode cX7_prepare 42 = .ok (.ireturn, 1) := by decide +kernel
theorem dX7_prepare_43 : decode cX7_prepare 43 = .ok (.aload_n 3, 1) := by decide +kernel
theorem dX7_prepare_44 : decode cX7_prepare 44 = .ok (.dup, 1) := by decide +kernel
theorem dX7_prepare_45 : decode cX7_prepare 45 = .ok (.getfield 94, 3) := by decide +kernel
theorem dX7_prepare_48 : decode cX7_prepare 48 = .ok (.iload_n 2, 1) := by decide +kernel
theorem dX7_prepare_49 : decode cX7_prepare 49 = .ok (.iadd, 1) := by decide +kernel
theorem dX7_prepare_50 : decode cX7_prepare 50 = .ok (.putfield 94, 3) := by decide +kernel
theorem dX7_prepare_53 : decode cX7_prepare 53 = .ok (.iconst 1, 1) := by decide +kernel
theorem dX7_prepare_54 : decode cX7_prepare 54 = .ok (.ireturn, 1) := by decide +kernel
set_option maxRecDepth 20000 in
theorem ggX7_commit_X7_stageAt : GoodIn wsX7_commit wsX7_stageAt := goodIn_r _ [10, 11, 12, 13, 14, 9, 15, 48, 49, 50, 51, 52, 53, 54] (by decide +kernel) (by decide +kernel)
set_option maxRecDepth 20000 in
theorem gX7_commit_X7_stageAt : GoodIn wsX7_commit (wsV RX7 40 RX7 yX7_stageAt wsX7_stageAt) := goodIn_app (goodIn_of _ (by decide +kernel)) ggX7_commit_X7_stageAt
set_option maxRecDepth 20000 in
theorem ggX7_commit_X7_makeEvent : GoodIn wsX7_commit wsX7_makeEvent := goodIn_r _ [19, 3, 48, 49, 50, 51, 52, 53, 54] (by decide +kernel) (by decide +kernel)
set_option maxRecDepth 20000 in
theorem gX7_commit_X7_makeEvent : GoodIn wsX7_commit (wsV RX7 77 RX7 yX7_makeEvent wsX7_makeEvent) := goodIn_app (goodIn_of _ (by decide +kernel)) ggX7_commit_X7_makeEvent
set_option maxRecDepth 20000 in
theorem ggX7_commit_X1_append : GoodIn wsX7_commit wsX1_append := goodIn_r _ [24, 25, 26, 27, 28, 55, 56, 57, 58] (by decide +kernel) (by decide +kernel)
set_option maxRecDepth 20000 in
theorem gX7_commit_X1_append : GoodIn wsX7_commit (wsV RX7 104 RX1 yX1_append wsX1_append) := goodIn_app (goodIn_of _ (by decide +kernel)) ggX7_commit_X1_append
theorem dX7_commit_0 : decode cX7_commit 0 = .ok (.aload_n 0, 1) := by decide +kernel
theorem dX7_commit_1 : decode cX7_commit 1 = .ok (.iload_n 1, 1) := by decide +kernel
theorem dX7_commit_2 : decode cX7_commit 2 = .ok (.invokevirtual 40, 3) := by decide +kernel
theorem dX7_commit_5 : decode cX7_commit 5 = .ok (.astore_n 3, 1) := by decide +kernel
theorem dX7_commit_6 : decode cX7_commit 6 = .ok (.aload_n 3, 1) := by decide +kernel
theorem dX7_commit_7 : decode cX7_commit 7 = .ok (.ifnull 10, 3) := by decide +kernel
theorem dX7_commit_10 : decode cX7_commit 10 = .ok (.aload_n 3, 1) := by decide +kernel
theorem dX7_commit_11 : decode cX7_commit 11 = .ok (.getfield 94, 3) := by decide +kernel
theorem dX7_commit_14 : decode cX7_commit 14 = .ok (.ifCond .ne 5, 3) := by decide +kernel
theorem dX7_commit_17 : decode cX7_commit 17 = .ok (.iconst (-1), 1) := by decide +kernel
theorem dX7_commit_18 : decode cX7_commit 18 = .ok (.ireturn, 1) := by decide +kernel
theorem dX7_commit_19 : decode cX7_commit 19 = .ok (.aload_n 3, 1) := by decide +kernel
theorem dX7_commit_20 : decode cX7_commit 20 = .ok (.getfield 87, 3) := by decide +kernel
theorem dX7_commit_23 : decode cX7_commit 23 = .ok (.ifCond .eq 6, 3) := by decide +kernel
theorem dX7_commit_26 : decode cX7_commit 26 = .ok (.bipush (-3), 2) := by decide +kernel
theorem dX7_commit_28 : decode cX7_commit 28 = .ok (.ireturn, 1) := by decide +kernel
theorem dX7_commit_29 : decode cX7_commit 29 = .ok (.aload_n 0, 1) := by decide +kernel
theorem dX7_commit_30 : decode cX7_commit 30 = .ok (.getfield 97, 3) := by decide +kernel
theorem dX7_commit_33 : decode cX7_commit 33 = .ok (.istore 4, 2) := by decide +kernel
theorem dX7_commit_35 : decode cX7_commit 35 = .ok (.iconst 0, 1) := by decide +kernel
theorem dX7_commit_36 : decode cX7_commit 36 = .ok (.istore 5, 2) := by decide +kernel
theorem dX7_commit_38 : decode cX7_commit 38 = .ok (.iload 5, 2) := by decide +kernel
theorem dX7_commit_40 : decode cX7_commit 40 = .ok (.aload_n 3, 1) := by decide +kernel
theorem dX7_commit_41 : decode cX7_commit 41 = .ok (.getfield 94, 3) := by decide +kernel
theorem dX7_commit_44 : decode cX7_commit 44 = .ok (.if_icmp .ge 25, 3) := by decide +kernel
theorem dX7_commit_47 : decode cX7_commit 47 = .ok (.aload_n 3, 1) := by decide +kernel
theorem dX7_commit_48 : decode cX7_commit 48 = .ok (.getfield 100, 3) := by decide +kernel
theorem dX7_commit_51 : decode cX7_commit 51 = .ok (.aload_n 0, 1) := by decide +kernel
theorem dX7_commit_52 : decode cX7_commit 52 = .ok (.invokevirtual 77, 3) := by decide +kernel
theorem dX7_commit_55 : decode cX7_commit 55 = .ok (.iload_n 2, 1) := by decide +kernel
theorem dX7_commit_56 : decode cX7_commit 56 = .ok (.aload_n 0, 1) := by decide +kernel
theorem dX7_commit_57 : decode cX7_commit 57 = .ok (.getfield 80, 3) := by decide +kernel
theorem dX7_commit_60 : decode cX7_commit 60 = .ok (.invokevirtual 104, 3) := by decide +kernel
theorem dX7_commit_63 : decode cX7_commit 63 = .ok (.iinc 5 1, 3) := by decide +kernel
theorem dX7_commit_66 : decode cX7_commit 66 = .ok (.goto (-28), 3) := by decide +kernel
theorem dX7_commit_69 : decode cX7_commit 69 = .ok (.aload_n 3, 1) := by decide +kernel
theorem dX7_commit_70 : decode cX7_commit 70 = .ok (.iconst 0, 1) := by decide +kernel
theorem dX7_commit_71 : decode cX7_commit 71 = .ok (.putfield 94, 3) := by decide +kernel
theorem dX7_commit_74 : decode cX7_commit 74 = .ok (.iload 4, 2) := by decide +kernel
theorem dX7_commit_76 : decode cX7_commit 76 = .ok (.ireturn, 1) := by decide +kernel
set_option maxRecDepth 20000 in
theorem ggX7_abort_X7_stageAt : GoodIn wsX7_abort wsX7_stageAt := goodIn_r _ [6, 7, 8, 9, 10, 5, 11, 31, 32, 33, 34, 35, 36, 37] (by decide +kernel) (by decide +kernel)
set_option maxRecDepth 20000 in
theorem gX7_abort_X7_stageAt : GoodIn wsX7_abort (wsV RX7 40 RX7 yX7_stageAt wsX7_stageAt) := goodIn_app (goodIn_of _ (by decide +kernel)) ggX7_abort_X7_stageAt
theorem dX7_abort_0 : decode cX7_abort 0 = .ok (.aload_n 0, 1) := by decide +kernel
theorem dX7_abort_1 : decode cX7_abort 1 = .ok (.iload_n 1, 1) := by decide +kernel
theorem dX7_abort_2 : decode cX7_abort 2 = .ok (.invokevirtual 40, 3) := by decide +kernel
theorem dX7_abort_5 : decode cX7_abort 5 = .ok (.astore_n 2, 1) := by decide +kernel
theorem dX7_abort_6 : decode cX7_abort 6 = .ok (.aload_n 2, 1) := by decide +kernel
theorem dX7_abort_7 : decode cX7_abort 7 = .ok (.ifnonnull 5, 3) := by decide +kernel
theorem dX7_abort_10 : decode cX7_abort 10 = .ok (.iconst (-1), 1) := by decide +kernel
theorem dX7_abort_11 : decode cX7_abort 11 = .ok (.ireturn, 1) := by decide +kernel
theorem dX7_abort_12 : decode cX7_abort 12 = .ok (.aload_n 2, 1) := by decide +kernel
theorem dX7_abort_13 : decode cX7_abort 13 = .ok (.getfield 94, 3) := by decide +kernel
theorem dX7_abort_16 : decode cX7_abort 16 = .ok (.istore_n 3, 1) := by decide +kernel
theorem dX7_abort_17 : decode cX7_abort 17 = .ok (.aload_n 2, 1) := by decide +kernel
theorem dX7_abort_18 : decode cX7_abort 18 = .ok (.iconst 0, 1) := by decide +kernel
theorem dX7_abort_19 : decode cX7_abort 19 = .ok (.putfield 94, 3) := by decide +kernel
theorem dX7_abort_22 : decode cX7_abort 22 = .ok (.iload_n 3, 1) := by decide +kernel
theorem dX7_abort_23 : decode cX7_abort 23 = .ok (.ireturn, 1) := by decide +kernel
set_option maxRecDepth 20000 in
theorem ggX7_timer_X7_stageAt : GoodIn wsX7_timer wsX7_stageAt := goodIn_r _ [7, 8, 9, 10, 11, 6, 12, 24, 25, 26, 27, 28, 29, 30] (by decide +kernel) (by decide +kernel)
set_option maxRecDepth 20000 in
theorem gX7_timer_X7_stageAt : GoodIn wsX7_timer (wsV RX7 40 RX7 yX7_stageAt wsX7_stageAt) := goodIn_app (goodIn_of _ (by decide +kernel)) ggX7_timer_X7_stageAt
set_option maxRecDepth 20000 in
theorem ggX7_timer_X7_within : GoodIn wsX7_timer wsX7_within := goodIn_r _ [12] (by decide +kernel) (by decide +kernel)
set_option maxRecDepth 20000 in
theorem gX7_timer_X7_within : GoodIn wsX7_timer (va_wsS RX7 29 yX7_within wsX7_within) := goodIn_app (goodIn_of _ (by decide +kernel)) ggX7_timer_X7_within
set_option maxRecDepth 20000 in
theorem ggX7_timer_X4_append : GoodIn wsX7_timer wsX4_append := goodIn_r _ [17, 18, 19, 20, 21, 22, 23, 31, 32, 33, 34, 35, 36] (by decide +kernel) (by decide +kernel)
set_option maxRecDepth 20000 in
theorem gX7_timer_X4_append : GoodIn wsX7_timer (wsV RX7 109 RX4 yX4_append wsX4_append) := goodIn_app (goodIn_of _ (by decide +kernel)) ggX7_timer_X4_append
theorem dX7_timer_0 : decode cX7_timer 0 = .ok (.aload_n 0, 1) := by decide +kernel
theorem dX7_timer_1 : decode cX7_timer 1 = .ok (.iload_n 1, 1) := by decide +kernel
theorem dX7_timer_2 : decode cX7_timer 2 = .ok (.invokevirtual 40, 3) := by decide +kernel
theorem dX7_timer_5 : decode cX7_timer 5 = .ok (.astore 4, 2) := by decide +kernel
theorem dX7_timer_7 : decode cX7_timer 7 = .ok (.aload 4, 2) := by decide +kernel
theorem dX7_timer_9 : decode cX7_timer 9 = .ok (.ifnull 14, 3) := by decide +kernel
theorem dX7_timer_12 : decode cX7_timer 12 = .ok (.iload_n 3, 1) := by decide +kernel
theorem dX7_timer_13 : decode cX7_timer 13 = .ok (.iconst 1, 1) := by decide +kernel
theorem dX7_timer_14 : decode cX7_timer 14 = .ok (.sipush 1000, 3) := by decide +kernel
theorem dX7_timer_17 : decode cX7_timer 17 = .ok (.invokestatic 29, 3) := by decide +kernel
theorem dX7_timer_20 : decode cX7_timer 20 = .ok (.ifCond .ne 5, 3) := by decide +kernel
theorem dX7_timer_23 : decode cX7_timer 23 = .ok (.iconst (-1), 1) := by decide +kernel
theorem dX7_timer_24 : decode cX7_timer 24 = .ok (.ireturn, 1) := by decide +kernel
theorem dX7_timer_25 : decode cX7_timer 25 = .ok (.aload_n 0, 1) := by decide +kernel
theorem dX7_timer_26 : decode cX7_timer 26 = .ok (.getfield 18, 3) := by decide +kernel
theorem dX7_timer_29 : decode cX7_timer 29 = .ok (.aload 4, 2) := by decide +kernel
theorem dX7_timer_31 : decode cX7_timer 31 = .ok (.iload_n 2, 1) := by decide +kernel
theorem dX7_timer_32 : decode cX7_timer 32 = .ok (.aload_n 0, 1) := by decide +kernel
theorem dX7_timer_33 : decode cX7_timer 33 = .ok (.getfield 80, 3) := by decide +kernel
theorem dX7_timer_36 : decode cX7_timer 36 = .ok (.iload_n 3, 1) := by decide +kernel
theorem dX7_timer_37 : decode cX7_timer 37 = .ok (.iadd, 1) := by decide +kernel
theorem dX7_timer_38 : decode cX7_timer 38 = .ok (.invokevirtual 109, 3) := by decide +kernel
theorem dX7_timer_41 : decode cX7_timer 41 = .ok (.ireturn, 1) := by decide +kernel
set_option maxRecDepth 20000 in
theorem ggX7_cancel_X4_remove : GoodIn wsX7_cancel wsX4_remove := goodIn_r _ [6, 7, 8, 9, 10, 11, 5, 12, 13, 14, 15, 23, 24, 25, 26, 27, 28] (by decide +kernel) (by decide +kernel)
set_option maxRecDepth 20000 in
theorem gX7_cancel_X4_remove : GoodIn wsX7_cancel (wsV RX7 112 RX4 yX4_remove wsX4_remove) := goodIn_app (goodIn_of _ (by decide +kernel)) ggX7_cancel_X4_remove
theorem dX7_cancel_0 : decode cX7_cancel 0 = .ok (.aload_n 0, 1) := by decide +kernel
theorem dX7_cancel_1 : decode cX7_cancel 1 = .ok (.getfield 18, 3) := by decide +kernel
theorem dX7_cancel_4 : decode cX7_cancel 4 = .ok (.iload_n 1, 1) := by decide +kernel
theorem dX7_cancel_5 : decode cX7_cancel 5 = .ok (.invokevirtual 112, 3) := by decide +kernel
theorem dX7_cancel_8 : decode cX7_cancel 8 = .ok (.ifCond .eq 7, 3) := by decide +kernel
theorem dX7_cancel_11 : decode cX7_cancel 11 = .ok (.iconst 1, 1) := by decide +kernel
theorem dX7_cancel_12 : decode cX7_cancel 12 = .ok (.goto 4, 3) := by decide +kernel
theorem dX7_cancel_15 : decode cX7_cancel 15 = .ok (.iconst (-1), 1) := by decide +kernel
theorem dX7_cancel_16 : decode cX7_cancel 16 = .ok (.ireturn, 1) := by decide +kernel
set_option maxRecDepth 20000 in
theorem ggX7_close_X7_stageAt : GoodIn wsX7_close wsX7_stageAt := goodIn_r _ [6, 7, 8, 9, 10, 5, 11, 31, 32, 33, 34, 35, 36, 37] (by decide +kernel) (by decide +kernel)
set_option maxRecDepth 20000 in
theorem gX7_close_X7_stageAt : GoodIn wsX7_close (wsV RX7 40 RX7 yX7_stageAt wsX7_stageAt) := goodIn_app (goodIn_of _ (by decide +kernel)) ggX7_close_X7_stageAt
theorem dX7_close_0 : decode cX7_close 0 = .ok (.aload_n 0, 1) := by decide +kernel
theorem dX7_close_1 : decode cX7_close 1 = .ok (.iload_n 1, 1) := by decide +kernel
theorem dX7_close_2 : decode cX7_close 2 = .ok (.invokevirtual 40, 3) := by decide +kernel
theorem dX7_close_5 : decode cX7_close 5 = .ok (.astore_n 2, 1) := by decide +kernel
theorem dX7_close_6 : decode cX7_close 6 = .ok (.aload_n 2, 1) := by decide +kernel
theorem dX7_close_7 : decode cX7_close 7 = .ok (.ifnonnull 5, 3) := by decide +kernel
theorem dX7_close_10 : decode cX7_close 10 = .ok (.iconst (-1), 1) := by decide +kernel
theorem dX7_close_11 : decode cX7_close 11 = .ok (.ireturn, 1) := by decide +kernel
theorem dX7_close_12 : decode cX7_close 12 = .ok (.aload_n 2, 1) := by decide +kernel
theorem dX7_close_13 : decode cX7_close 13 = .ok (.getfield 87, 3) := by decide +kernel
theorem dX7_close_16 : decode cX7_close 16 = .ok (.ifCond .eq 6, 3) := by decide +kernel
theorem dX7_close_19 : decode cX7_close 19 = .ok (.bipush (-3), 2) := by decide +kernel
theorem dX7_close_21 : decode cX7_close 21 = .ok (.ireturn, 1) := by decide +kernel
theorem dX7_close_22 : decode cX7_close 22 = .ok (.aload_n 2, 1) := by decide +kernel
theorem dX7_close_23 : decode cX7_close 23 = .ok (.iconst 1, 1) := by decide +kernel
theorem dX7_close_24 : decode cX7_close 24 = .ok (.putfield 87, 3) := by decide +kernel
theorem dX7_close_27 : decode cX7_close 27 = .ok (.iconst 1, 1) := by decide +kernel
theorem dX7_close_28 : decode cX7_close 28 = .ok (.ireturn, 1) := by decide +kernel
set_option maxRecDepth 20000 in
theorem ggX7_tick_X7_within : GoodIn wsX7_tick wsX7_within := goodIn_r _ [5] (by decide +kernel) (by decide +kernel)
set_option maxRecDepth 20000 in
theorem gX7_tick_X7_within : GoodIn wsX7_tick (va_wsS RX7 29 yX7_within wsX7_within) := goodIn_app (goodIn_of _ (by decide +kernel)) ggX7_tick_X7_within
set_option maxRecDepth 20000 in
theorem ggX7_tick_X7_passTick : GoodIn wsX7_tick wsX7_passTick := goodIn_r _ [9, 1, 10, 11, 12, 13, 14, 15, 16, 17, 18, 19, 20, 21, 22, 23, 24, 25, 26, 27, 28, 4, 29, 30, 31, 32, 33, 34, 35, 36, 37, 38, 39, 40, 41, 42, 43, 44, 45, 46, 47, 48, 49, 50, 51, 52, 53, 54, 55, 56, 57, 58, 59, 60, 61, 62, 63, 64, 65, 66, 67, 68, 69, 70, 71, 72, 73, 74, 75, 76, 77, 78, 79, 80, 81, 82, 83, 84, 85, 86, 87, 88, 89, 90, 91, 92, 93, 94, 95, 96, 97, 98, 99, 100, 101, 102, 103, 104, 105, 106, 107, 108, 109, 110, 111, 112, 113, 114, 115, 116, 117, 118, 119, 120, 121, 122, 123, 124, 125, 126, 127, 128, 129, 130, 131, 132, 133, 134, 135, 136, 137, 138, 139, 140, 141, 142, 143, 144, 145, 146, 147, 148, 149, 150, 151, 152, 153, 154, 155, 156, 157, 158, 159, 160, 161, 162, 163, 164, 165, 166, 167, 168, 169, 170, 171, 172, 173, 174, 175, 176, 177, 178, 179, 180, 181, 182, 183, 184, 185, 186, 187, 188, 189, 190, 191, 192, 193, 194, 195, 196, 197, 198, 199, 200, 201, 202, 203, 204, 205, 206, 207, 208, 209, 210, 211, 212, 213, 214, 215, 216, 217, 218, 219, 220, 221, 222, 223, 224, 225, 226, 227, 228, 229, 230, 231, 232, 233, 234, 235, 236, 237, 238, 239, 240, 241, 242, 243, 244, 245, 246, 247, 248, 249, 250, 251, 252, 253, 254, 255, 256, 257, 258, 259, 260, 261, 262, 263, 264, 265, 266, 267, 268, 269, 270, 271, 272, 273, 274, 275, 276, 277, 278, 279, 280, 281, 282, 283, 284, 285, 286] (by decide +kernel) (by decide +kernel)
set_option maxRecDepth 20000 in
theorem gX7_tick_X7_passTick : GoodIn wsX7_tick (wsV RX7 115 RX7 yX7_passTick wsX7_passTick) := goodIn_app (goodIn_of _ (by decide +kernel)) ggX7_tick_X7_passTick
theorem dX7_tick_0 : decode cX7_tick 0 = .ok (.iload_n 1, 1) := by decide +kernel
theorem dX7_tick_1 : decode cX7_tick 1 = .ok (.iconst 1, 1) := by decide +kernel
theorem dX7_tick_2 : decode cX7_tick 2 = .ok (.bipush 50, 2) := by decide +kernel
theorem dX7_tick_4 : decode cX7_tick 4 = .ok (.invokestatic 29, 3) := by decide +kernel
theorem dX7_tick_7 : decode cX7_tick 7 = .ok (.ifCond .ne 5, 3) := by decide +kernel
theorem dX7_tick_10 : decode cX7_tick 10 = .ok (.iconst (-1), 1) := by decide +kernel
theorem dX7_tick_11 : decode cX7_tick 11 = .ok (.ireturn, 1) := by decide +kernel
theorem dX7_tick_12 : decode cX7_tick 12 = .ok (.aload_n 0, 1) := by decide +kernel
theorem dX7_tick_13 : decode cX7_tick 13 = .ok (.getfield 80, 3) := by decide +kernel
theorem dX7_tick_16 : decode cX7_tick 16 = .ok (.iload_n 1, 1) := by decide +kernel
theorem dX7_tick_17 : decode cX7_tick 17 = .ok (.iadd, 1) := by decide +kernel
theorem dX7_tick_18 : decode cX7_tick 18 = .ok (.sipush 400, 3) := by decide +kernel
theorem dX7_tick_21 : decode cX7_tick 21 = .ok (.if_icmp .le 6, 3) := by decide +kernel
theorem dX7_tick_24 : decode cX7_tick 24 = .ok (.bipush (-2), 2) := by decide +kernel
theorem dX7_tick_26 : decode cX7_tick 26 = .ok (.ireturn, 1) := by decide +kernel
theorem dX7_tick_27 : decode cX7_tick 27 = .ok (.iconst 0, 1) := by decide +kernel
theorem dX7_tick_28 : decode cX7_tick 28 = .ok (.istore_n 2, 1) := by decide +kernel
theorem dX7_tick_29 : decode cX7_tick 29 = .ok (.iload_n 2, 1) := by decide +kernel
theorem dX7_tick_30 : decode cX7_tick 30 = .ok (.iload_n 1, 1) := by decide +kernel
theorem dX7_tick_31 : decode cX7_tick 31 = .ok (.if_icmp .ge 13, 3) := by decide +kernel
theorem dX7_tick_34 : decode cX7_tick 34 = .ok (.aload_n 0, 1) := by decide +kernel
theorem dX7_tick_35 : decode cX7_tick 35 = .ok (.invokevirtual 115, 3) := by decide +kernel
theorem dX7_tick_38 : decode cX7_tick 38 = .ok (.iinc 2 1, 3) := by decide +kernel
theorem dX7_tick_41 : decode cX7_tick 41 = .ok (.goto (-12), 3) := by decide +kernel
theorem dX7_tick_44 : decode cX7_tick 44 = .ok (.aload_n 0, 1) := by decide +kernel
theorem dX7_tick_45 : decode cX7_tick 45 = .ok (.getfield 80, 3) := by decide +kernel
theorem dX7_tick_48 : decode cX7_tick 48 = .ok (.ireturn, 1) := by decide +kernel
set_option maxRecDepth 20000 in
theorem ggX7_told_X7_stageAt : GoodIn wsX7_told wsX7_stageAt := goodIn_r _ [5, 6, 7, 8, 9, 4, 10, 35, 36, 37, 38, 39, 40, 41] (by decide +kernel) (by decide +kernel)
set_option maxRecDepth 20000 in
theorem gX7_told_X7_stageAt : GoodIn wsX7_told (wsV RX7 40 RX7 yX7_stageAt wsX7_stageAt) := goodIn_app (goodIn_of _ (by decide +kernel)) ggX7_told_X7_stageAt
set_option maxRecDepth 20000 in
theorem ggX7_told_X3_figure : GoodIn wsX7_told wsX3_figure := goodIn_r _ [15, 16, 17, 18, 19, 20, 21, 22, 23, 24, 25, 26, 27, 28, 29, 30, 31, 32, 33, 34, 42, 43, 44, 45, 46, 47, 48, 49, 50, 51, 52, 53, 54, 55, 56, 57, 58, 59, 60, 61, 62, 63, 64, 65, 66, 67] (by decide +kernel) (by decide +kernel)
set_option maxRecDepth 20000 in
theorem gX7_told_X3_figure : GoodIn wsX7_told (wsV RX7 118 RX3 yX3_figure wsX3_figure) := goodIn_app (goodIn_of _ (by decide +kernel)) ggX7_told_X3_figure
theorem dX7_told_0 : decode cX7_told 0 = .ok (.aload_n 0, 1) := by decide +kernel
theorem dX7_told_1 : decode cX7_told 1 = .ok (.iload_n 1, 1) := by decide +kernel
theorem dX7_told_2 : decode cX7_told 2 = .ok (.invokevirtual 40, 3) := by decide +kernel
theorem dX7_told_5 : decode cX7_told 5 = .ok (.astore_n 3, 1) := by decide +kernel
theorem dX7_told_6 : decode cX7_told 6 = .ok (.aload_n 3, 1) := by decide +kernel
theorem dX7_told_7 : decode cX7_told 7 = .ok (.ifnonnull 7, 3) := by decide +kernel
theorem dX7_told_10 : decode cX7_told 10 = .ok (.iconst (-1), 1) := by decide +kernel
theorem dX7_told_11 : decode cX7_told 11 = .ok (.goto 8, 3) := by decide +kernel
theorem dX7_told_14 : decode cX7_told 14 = .ok (.aload_n 3, 1) := by decide +kernel
theorem dX7_told_15 : decode cX7_told 15 = .ok (.iload_n 2, 1) := by decide +kernel
theorem dX7_told_16 : decode cX7_told 16 = .ok (.invokevirtual 118, 3) := by decide +kernel
theorem dX7_told_19 : decode cX7_told 19 = .ok (.ireturn, 1) := by decide +kernel
set_option maxRecDepth 20000 in
theorem ggX7_queued_X7_stageAt : GoodIn wsX7_queued wsX7_stageAt := goodIn_r _ [8, 9, 10, 11, 12, 7, 13, 37, 38, 39, 40, 41, 42, 43] (by decide +kernel) (by decide +kernel)
set_option maxRecDepth 20000 in
theorem gX7_queued_X7_stageAt : GoodIn wsX7_queued (wsV RX7 40 RX7 yX7_stageAt wsX7_stageAt) := goodIn_app (goodIn_of _ (by decide +kernel)) ggX7_queued_X7_stageAt
set_option maxRecDepth 20000 in
theorem ggX7_queued_X7_within : GoodIn wsX7_queued wsX7_within := goodIn_r _ [13] (by decide +kernel) (by decide +kernel)
set_option maxRecDepth 20000 in
theorem gX7_queued_X7_within : GoodIn wsX7_queued (va_wsS RX7 29 yX7_within wsX7_within) := goodIn_app (goodIn_of _ (by decide +kernel)) ggX7_queued_X7_within
theorem dX7_queued_0 : decode cX7_queued 0 = .ok (.aload_n 0, 1) := by decide +kernel
theorem dX7_queued_1 : decode cX7_queued 1 = .ok (.iload_n 1, 1) := by decide +kernel
theorem dX7_queued_2 : decode cX7_queued 2 = .ok (.invokevirtual 40, 3) := by decide +kernel
theorem dX7_queued_5 : decode cX7_queued 5 = .ok (.astore_n 3, 1) := by decide +kernel
theorem dX7_queued_6 : decode cX7_queued 6 = .ok (.aload_n 3, 1) := by decide +kernel
theorem dX7_queued_7 : decode cX7_queued 7 = .ok (.ifnull 20, 3) := by decide +kernel
theorem dX7_queued_10 : decode cX7_queued 10 = .ok (.iload_n 2, 1) := by decide +kernel
theorem dX7_queued_11 : decode cX7_queued 11 = .ok (.iconst 0, 1) := by decide +kernel
theorem dX7_queued_12 : decode cX7_queued 12 = .ok (.aload_n 3, 1) := by decide +kernel
theorem dX7_queued_13 : decode cX7_queued 13 = .ok (.getfield 100, 3) := by decide +kernel
theorem dX7_queued_16 : decode cX7_queued 16 = .ok (.getfield 122, 3) := by decide +kernel
theorem dX7_queued_19 : decode cX7_queued 19 = .ok (.iconst 1, 1) := by decide +kernel
theorem dX7_queued_20 : decode cX7_queued 20 = .ok (.isub, 1) := by decide +kernel
theorem dX7_queued_21 : decode cX7_queued 21 = .ok (.invokestatic 29, 3) := by decide +kernel
theorem dX7_queued_24 : decode cX7_queued 24 = .ok (.ifCond .ne 5, 3) := by decide +kernel
theorem dX7_queued_27 : decode cX7_queued 27 = .ok (.iconst (-1), 1) := by decide +kernel
theorem dX7_queued_28 : decode cX7_queued 28 = .ok (.ireturn, 1) := by decide +kernel
theorem dX7_queued_29 : decode cX7_queued 29 = .ok (.aload_n 3, 1) := by decide +kernel
theorem dX7_queued_30 : decode cX7_queued 30 = .ok (.getfield 100, 3) := by decide +kernel
theorem dX7_queued_33 : decode cX7_queued 33 = .ok (.getfield 125, 3) := by decide +kernel
theorem dX7_queued_36 : decode cX7_queued 36 = .ok (.iload_n 2, 1) := by decide +kernel
theorem dX7_queued_37 : decode cX7_queued 37 = .ok (.iaload, 1) := by decide +kernel
theorem dX7_queued_38 : decode cX7_queued 38 = .ok (.ireturn, 1) := by decide +kernel
set_option maxRecDepth 20000 in
theorem ggX7_worker_X7_stageAt : GoodIn wsX7_worker wsX7_stageAt := goodIn_r _ [7, 8, 9, 10, 11, 6, 12, 43, 44, 45, 46, 47, 48, 49] (by decide +kernel) (by decide +kernel)
set_option maxRecDepth 20000 in
theorem gX7_worker_X7_stageAt : GoodIn wsX7_worker (wsV RX7 40 RX7 yX7_stageAt wsX7_stageAt) := goodIn_app (goodIn_of _ (by decide +kernel)) ggX7_worker_X7_stageAt
set_option maxRecDepth 20000 in
theorem ggX7_worker_X7_within : GoodIn wsX7_worker wsX7_within := goodIn_r _ [12] (by decide +kernel) (by decide +kernel)
set_option maxRecDepth 20000 in
theorem gX7_worker_X7_within : GoodIn wsX7_worker (va_wsS RX7 29 yX7_within wsX7_within) := goodIn_app (goodIn_of _ (by decide +kernel)) ggX7_worker_X7_within
set_option maxRecDepth 20000 in
theorem ggX7_worker_X6_figure : GoodIn wsX7_worker wsX6_figure := goodIn_r _ [17, 18, 19, 20, 21, 22, 23, 50, 51, 52, 53, 54, 55, 56, 57, 58, 59, 60, 61, 62, 63, 64] (by decide +kernel) (by decide +kernel)
set_option maxRecDepth 20000 in
theorem gX7_worker_X6_figure : GoodIn wsX7_worker (wsV RX7 136 RX6 yX6_figure wsX6_figure) := goodIn_app (goodIn_of _ (by decide +kernel)) ggX7_worker_X6_figure
theorem dX7_worker_0 : decode cX7_worker 0 = .ok (.aload_n 0, 1) := by decide +kernel
theorem dX7_worker_1 : decode cX7_worker 1 = .ok (.iload_n 1, 1) := by decide +kernel
theorem dX7_worker_2 : decode cX7_worker 2 = .ok (.invokevirtual 40, 3) := by decide +kernel
theorem dX7_worker_5 : decode cX7_worker 5 = .ok (.astore 4, 2) := by decide +kernel
theorem dX7_worker_7 : decode cX7_worker 7 = .ok (.aload 4, 2) := by decide +kernel
theorem dX7_worker_9 : decode cX7_worker 9 = .ok (.ifnull 18, 3) := by decide +kernel
theorem dX7_worker_12 : decode cX7_worker 12 = .ok (.iload_n 2, 1) := by decide +kernel
theorem dX7_worker_13 : decode cX7_worker 13 = .ok (.iconst 0, 1) := by decide +kernel
theorem dX7_worker_14 : decode cX7_worker 14 = .ok (.aload 4, 2) := by decide +kernel
theorem dX7_worker_16 : decode cX7_worker 16 = .ok (.getfield 129, 3) := by decide +kernel
theorem dX7_worker_19 : decode cX7_worker 19 = .ok (.iconst 1, 1) := by decide +kernel
theorem dX7_worker_20 : decode cX7_worker 20 = .ok (.isub, 1) := by decide +kernel
theorem dX7_worker_21 : decode cX7_worker 21 = .ok (.invokestatic 29, 3) := by decide +kernel
theorem dX7_worker_24 : decode cX7_worker 24 = .ok (.ifCond .ne 5, 3) := by decide +kernel
theorem dX7_worker_27 : decode cX7_worker 27 = .ok (.iconst (-1), 1) := by decide +kernel
theorem dX7_worker_28 : decode cX7_worker 28 = .ok (.ireturn, 1) := by decide +kernel
theorem dX7_worker_29 : decode cX7_worker 29 = .ok (.aload 4, 2) := by decide +kernel
theorem dX7_worker_31 : decode cX7_worker 31 = .ok (.getfield 132, 3) := by decide +kernel
theorem dX7_worker_34 : decode cX7_worker 34 = .ok (.iload_n 2, 1) := by decide +kernel
theorem dX7_worker_35 : decode cX7_worker 35 = .ok (.aaload, 1) := by decide +kernel
theorem dX7_worker_36 : decode cX7_worker 36 = .ok (.iload_n 3, 1) := by decide +kernel
theorem dX7_worker_37 : decode cX7_worker 37 = .ok (.invokevirtual 136, 3) := by decide +kernel
theorem dX7_worker_40 : decode cX7_worker 40 = .ok (.ireturn, 1) := by decide +kernel
set_option maxRecDepth 20000 in
theorem ggX7_done_X7_within : GoodIn wsX7_done wsX7_within := goodIn_r _ [7] (by decide +kernel) (by decide +kernel)
set_option maxRecDepth 20000 in
theorem gX7_done_X7_within : GoodIn wsX7_done (va_wsS RX7 29 yX7_within wsX7_within) := goodIn_app (goodIn_of _ (by decide +kernel)) ggX7_done_X7_within
theorem dX7_done_0 : decode cX7_done 0 = .ok (.iload_n 1, 1) := by decide +kernel
theorem dX7_done_1 : decode cX7_done 1 = .ok (.iconst 0, 1) := by decide +kernel
theorem dX7_done_2 : decode cX7_done 2 = .ok (.aload_n 0, 1) := by decide +kernel
theorem dX7_done_3 : decode cX7_done 3 = .ok (.getfield 25, 3) := by decide +kernel
theorem dX7_done_6 : decode cX7_done 6 = .ok (.getfield 139, 3) := by decide +kernel
theorem dX7_done_9 : decode cX7_done 9 = .ok (.iconst 1, 1) := by decide +kernel
theorem dX7_done_10 : decode cX7_done 10 = .ok (.isub, 1) := by decide +kernel
theorem dX7_done_11 : decode cX7_done 11 = .ok (.invokestatic 29, 3) := by decide +kernel
theorem dX7_done_14 : decode cX7_done 14 = .ok (.ifCond .eq 15, 3) := by decide +kernel
theorem dX7_done_17 : decode cX7_done 17 = .ok (.aload_n 0, 1) := by decide +kernel
theorem dX7_done_18 : decode cX7_done 18 = .ok (.getfield 25, 3) := by decide +kernel
theorem dX7_done_21 : decode cX7_done 21 = .ok (.getfield 140, 3) := by decide +kernel
theorem dX7_done_24 : decode cX7_done 24 = .ok (.iload_n 1, 1) := by decide +kernel
theorem dX7_done_25 : decode cX7_done 25 = .ok (.iaload, 1) := by decide +kernel
theorem dX7_done_26 : decode cX7_done 26 = .ok (.goto 4, 3) := by decide +kernel
theorem dX7_done_29 : decode cX7_done 29 = .ok (.iconst (-1), 1) := by decide +kernel
theorem dX7_done_30 : decode cX7_done 30 = .ok (.ireturn, 1) := by decide +kernel
set_option maxRecDepth 20000 in
theorem ggX7_value_X7_within : GoodIn wsX7_value wsX7_within := goodIn_r _ [7] (by decide +kernel) (by decide +kernel)
set_option maxRecDepth 20000 in
theorem gX7_value_X7_within : GoodIn wsX7_value (va_wsS RX7 29 yX7_within wsX7_within) := goodIn_app (goodIn_of _ (by decide +kernel)) ggX7_value_X7_within
theorem dX7_value_0 : decode cX7_value 0 = .ok (.iload_n 1, 1) := by decide +kernel
theorem dX7_value_1 : decode cX7_value 1 = .ok (.iconst 0, 1) := by decide +kernel
theorem dX7_value_2 : decode cX7_value 2 = .ok (.aload_n 0, 1) := by decide +kernel
theorem dX7_value_3 : decode cX7_value 3 = .ok (.getfield 25, 3) := by decide +kernel
theorem dX7_value_6 : decode cX7_value 6 = .ok (.getfield 139, 3) := by decide +kernel
theorem dX7_value_9 : decode cX7_value 9 = .ok (.iconst 1, 1) := by decide +kernel
theorem dX7_value_10 : decode cX7_value 10 = .ok (.isub, 1) := by decide +kernel
theorem dX7_value_11 : decode cX7_value 11 = .ok (.invokestatic 29, 3) := by decide +kernel
theorem dX7_value_14 : decode cX7_value 14 = .ok (.ifCond .eq 15, 3) := by decide +kernel
theorem dX7_value_17 : decode cX7_value 17 = .ok (.aload_n 0, 1) := by decide +kernel
theorem dX7_value_18 : decode cX7_value 18 = .ok (.getfield 25, 3) := by decide +kernel
theorem dX7_value_21 : decode cX7_value 21 = .ok (.getfield 141, 3) := by decide +kernel
theorem dX7_value_24 : decode cX7_value 24 = .ok (.iload_n 1, 1) := by decide +kernel
theorem dX7_value_25 : decode cX7_value 25 = .ok (.iaload, 1) := by decide +kernel
theorem dX7_value_26 : decode cX7_value 26 = .ok (.goto 4, 3) := by decide +kernel
theorem dX7_value_29 : decode cX7_value 29 = .ok (.iconst (-1), 1) := by decide +kernel
theorem dX7_value_30 : decode cX7_value 30 = .ok (.ireturn, 1) := by decide +kernel
theorem dX7_events_0 : decode cX7_events 0 = .ok (.aload_n 0, 1) := by decide +kernel
theorem dX7_events_1 : decode cX7_events 1 = .ok (.getfield 97, 3) := by decide +kernel
theorem dX7_events_4 : decode cX7_events 4 = .ok (.ireturn, 1) := by decide +kernel
theorem dX7_ended_0 : decode cX7_ended 0 = .ok (.aload_n 0, 1) := by decide +kernel
theorem dX7_ended_1 : decode cX7_ended 1 = .ok (.getfield 25, 3) := by decide +kernel
theorem dX7_ended_4 : decode cX7_ended 4 = .ok (.getfield 139, 3) := by decide +kernel
theorem dX7_ended_7 : decode cX7_ended 7 = .ok (.ireturn, 1) := by decide +kernel
theorem dX7_lost_0 : decode cX7_lost 0 = .ok (.aload_n 0, 1) := by decide +kernel
theorem dX7_lost_1 : decode cX7_lost 1 = .ok (.getfield 144, 3) := by decide +kernel
theorem dX7_lost_4 : decode cX7_lost 4 = .ok (.ireturn, 1) := by decide +kernel
theorem dX7_clock_0 : decode cX7_clock 0 = .ok (.aload_n 0, 1) := by decide +kernel
theorem dX7_clock_1 : decode cX7_clock 1 = .ok (.getfield 80, 3) := by decide +kernel
theorem dX7_clock_4 : decode cX7_clock 4 = .ok (.ireturn, 1) := by decide +kernel
theorem dX7_within_0 : decode cX7_within 0 = .ok (.iload_n 0, 1) := by decide +kernel
theorem dX7_within_1 : decode cX7_within 1 = .ok (.iload_n 1, 1) := by decide +kernel
theorem dX7_within_2 : decode cX7_within 2 = .ok (.if_icmp .lt 12, 3) := by decide +kernel
theorem dX7_within_5 : decode cX7_within 5 = .ok (.iload_n 0, 1) := by decide +kernel
theorem dX7_within_6 : decode cX7_within 6 = .ok (.iload_n 2, 1) := by decide +kernel
theorem dX7_within_7 : decode cX7_within 7 = .ok (.if_icmp .gt 7, 3) := by decide +kernel
theorem dX7_within_10 : decode cX7_within 10 = .ok (.iconst 1, 1) := by decide +kernel
theorem dX7_within_11 : decode cX7_within 11 = .ok (.goto 4, 3) := by decide +kernel
theorem dX7_within_14 : decode cX7_within 14 = .ok (.iconst 0, 1) := by decide +kernel
theorem dX7_within_15 : decode cX7_within 15 = .ok (.ireturn, 1) := by decide +kernel
set_option maxRecDepth 20000 in
theorem ggX7_stageAt_X7_within : GoodIn wsX7_stageAt wsX7_within := goodIn_r _ [6] (by decide +kernel) (by decide +kernel)
set_option maxRecDepth 20000 in
theorem gX7_stageAt_X7_within : GoodIn wsX7_stageAt (va_wsS RX7 29 yX7_within wsX7_within) := goodIn_app (goodIn_of _ (by decide +kernel)) ggX7_stageAt_X7_within
theorem dX7_stageAt_0 : decode cX7_stageAt 0 = .ok (.iload_n 1, 1) := by decide +kernel
theorem dX7_stageAt_1 : decode cX7_stageAt 1 = .ok (.iconst 0, 1) := by decide +kernel
theorem dX7_stageAt_2 : decode cX7_stageAt 2 = .ok (.aload_n 0, 1) := by decide +kernel
theorem dX7_stageAt_3 : decode cX7_stageAt 3 = .ok (.getfield 33, 3) := by decide +kernel
theorem dX7_stageAt_6 : decode cX7_stageAt 6 = .ok (.iconst 1, 1) := by decide +kernel
theorem dX7_stageAt_7 : decode cX7_stageAt 7 = .ok (.isub, 1) := by decide +kernel
theorem dX7_stageAt_8 : decode cX7_stageAt 8 = .ok (.invokestatic 29, 3) := by decide +kernel
theorem dX7_stageAt_11 : decode cX7_stageAt 11 = .ok (.ifCond .eq 12, 3) := by decide +kernel
theorem dX7_stageAt_14 : decode cX7_stageAt 14 = .ok (.aload_n 0, 1) := by decide +kernel
theorem dX7_stageAt_15 : decode cX7_stageAt 15 = .ok (.getfield 11, 3) := by decide +kernel
theorem dX7_stageAt_18 : decode cX7_stageAt 18 = .ok (.iload_n 1, 1) := by decide +kernel
theorem dX7_stageAt_19 : decode cX7_stageAt 19 = .ok (.aaload, 1) := by decide +kernel
theorem dX7_stageAt_20 : decode cX7_stageAt 20 = .ok (.goto 4, 3) := by decide +kernel
theorem dX7_stageAt_23 : decode cX7_stageAt 23 = .ok (.aconst_null, 1) := by decide +kernel
theorem dX7_stageAt_24 : decode cX7_stageAt 24 = .ok (.areturn, 1) := by decide +kernel
set_option maxRecDepth 20000 in
theorem ggX7_isTarget_X7_within : GoodIn wsX7_isTarget wsX7_within := goodIn_r _ [5] (by decide +kernel) (by decide +kernel)
set_option maxRecDepth 20000 in
theorem gX7_isTarget_X7_within : GoodIn wsX7_isTarget (va_wsS RX7 29 yX7_within wsX7_within) := goodIn_app (goodIn_of _ (by decide +kernel)) ggX7_isTarget_X7_within
theorem dX7_isTarget_0 : decode cX7_isTarget 0 = .ok (.iload_n 1, 1) := by decide +kernel
theorem dX7_isTarget_1 : decode cX7_isTarget 1 = .ok (.iconst (-1), 1) := by decide +kernel
theorem dX7_isTarget_2 : decode cX7_isTarget 2 = .ok (.aload_n 0, 1) := by decide +kernel
theorem dX7_isTarget_3 : decode cX7_isTarget 3 = .ok (.getfield 33, 3) := by decide +kernel
theorem dX7_isTarget_6 : decode cX7_isTarget 6 = .ok (.iconst 1, 1) := by decide +kernel
theorem dX7_isTarget_7 : decode cX7_isTarget 7 = .ok (.isub, 1) := by decide +kernel
theorem dX7_isTarget_8 : decode cX7_isTarget 8 = .ok (.invokestatic 29, 3) := by decide +kernel
theorem dX7_isTarget_11 : decode cX7_isTarget 11 = .ok (.ireturn, 1) := by decide +kernel
theorem dX7_makeEvent_0 : decode cX7_makeEvent 0 = .ok (.aload_n 0, 1) := by decide +kernel
theorem dX7_makeEvent_1 : decode cX7_makeEvent 1 = .ok (.dup, 1) := by decide +kernel
theorem dX7_makeEvent_2 : decode cX7_makeEvent 2 = .ok (.getfield 97, 3) := by decide +kernel
theorem dX7_makeEvent_5 : decode cX7_makeEvent 5 = .ok (.iconst 1, 1) := by decide +kernel
theorem dX7_makeEvent_6 : decode cX7_makeEvent 6 = .ok (.iadd, 1) := by decide +kernel
theorem dX7_makeEvent_7 : decode cX7_makeEvent 7 = .ok (.putfield 97, 3) := by decide +kernel
theorem dX7_makeEvent_10 : decode cX7_makeEvent 10 = .ok (.aload_n 0, 1) := by decide +kernel
theorem dX7_makeEvent_11 : decode cX7_makeEvent 11 = .ok (.getfield 97, 3) := by decide +kernel
theorem dX7_makeEvent_14 : decode cX7_makeEvent 14 = .ok (.iconst 1, 1) := by decide +kernel
theorem dX7_makeEvent_15 : decode cX7_makeEvent 15 = .ok (.isub, 1) := by decide +kernel
theorem dX7_makeEvent_16 : decode cX7_makeEvent 16 = .ok (.ireturn, 1) := by decide +kernel
set_option maxRecDepth 20000 in
theorem ggX7_passTick_X3_growTokens : GoodIn wsX7_passTick wsX3_growTokens := goodIn_r _ [10, 11, 12, 13, 14, 15, 16, 17, 234, 235, 236, 237, 238, 239, 240, 241, 242, 243, 244, 245, 246, 247, 248, 249, 250, 251, 252] (by decide +kernel) (by decide +kernel)
set_option maxRecDepth 20000 in
theorem gX7_passTick_X3_growTokens : GoodIn wsX7_passTick (wsV RX7 147 RX3 yX3_growTokens wsX3_growTokens) := goodIn_app (goodIn_of _ (by decide +kernel)) ggX7_passTick_X3_growTokens
set_option maxRecDepth 20000 in
theorem ggX7_passTick_X7_fireTimers : GoodIn wsX7_passTick wsX7_fireTimers := goodIn_r _ [22, 23, 24, 25, 1, 26, 27, 28, 29, 30, 21, 31, 32, 33, 34, 35, 36, 37, 38, 39, 40, 9, 41, 42, 11, 43, 44, 45, 46, 47, 48, 49, 50, 51, 52, 53, 54, 55, 56, 57, 58, 59, 60, 61, 62, 63, 64, 65, 66, 67, 68, 69, 70, 71, 72, 73, 227, 228, 229, 230, 231, 232, 233, 253, 254, 255, 256, 257, 258, 234, 235, 236, 237, 238, 239, 240, 241, 242, 243, 244, 245, 246, 247, 248, 249, 250, 251, 252, 259, 260, 261, 262] (by decide +kernel) (by decide +kernel)
set_option maxRecDepth 20000 in
theorem gX7_passTick_X7_fireTimers : GoodIn wsX7_passTick (wsV RX7 150 RX7 yX7_fireTimers wsX7_fireTimers) := goodIn_app (goodIn_of _ (by decide +kernel)) ggX7_passTick_X7_fireTimers
set_option maxRecDepth 20000 in
theorem ggX7_passTick_X7_letWork : GoodIn wsX7_passTick wsX7_letWork := goodIn_r _ [77, 78, 79, 80, 81, 82, 83, 21, 84, 85, 86, 87, 88, 89, 90, 9, 91, 92, 93, 50, 94, 95, 96, 97, 98, 99, 100, 101, 102, 103, 104, 105, 106, 107, 108, 109, 110, 111, 112, 113, 114, 115, 116, 117, 118, 119, 120, 121, 122, 123, 124, 125, 33, 34, 35, 36, 37, 38, 39, 40, 41, 42, 11, 43, 44, 45, 46, 47, 48, 49, 51, 52, 53, 54, 55, 56, 57, 58, 59, 60, 61, 62, 63, 64, 126, 127, 128, 129, 130, 131, 132, 133, 1, 134, 135, 136, 137, 138, 139, 140, 141, 142, 143, 144, 145, 146, 147, 148, 149, 150, 151, 152, 153, 154, 155, 156, 157, 158, 159, 160, 161, 162, 163, 164, 165, 166, 167, 168, 15, 16, 17, 169, 170, 171, 172, 173, 174, 175, 176, 177, 178, 179, 180, 181, 182, 183, 184, 185, 186, 187, 188, 189, 190, 191, 192, 263, 264, 265, 266, 267, 259, 260, 261, 262, 234, 235, 236, 237, 238, 239, 240, 241, 242, 243, 244, 245, 246, 247, 248, 249, 250, 251, 252, 268, 269, 270, 271, 272, 273, 227, 228, 229, 230, 231, 232, 233, 274, 275, 276, 277, 278, 279] (by decide +kernel) (by decide +kernel)
set_option maxRecDepth 20000 in
theorem gX7_passTick_X7_letWork : GoodIn wsX7_passTick (wsV RX7 153 RX7 yX7_letWork wsX7_letWork) := goodIn_app (goodIn_of _ (by decide +kernel)) ggX7_passTick_X7_letWork
set_option maxRecDepth 20000 in
theorem ggX7_passTick_X3_control : GoodIn wsX7_passTick wsX3_control := goodIn_r _ [196, 92, 197, 198, 199, 200, 201, 202, 9, 203, 49, 50, 48, 204, 205, 206, 207, 208, 209, 210, 93, 211, 212, 213, 214, 180, 14, 15, 16, 17, 215, 216, 217, 218, 219, 220, 221, 12, 222, 223, 224, 141, 225, 143, 226, 144, 234, 235, 236, 237, 238, 239, 240, 241, 242, 243, 244, 245, 246, 247, 248, 249, 250, 251, 252, 274, 275, 276, 259, 260, 261, 262, 263, 264, 265, 266, 267] (by decide +kernel) (by decide +kernel)
set_option maxRecDepth 20000 in
theorem gX7_passTick_X3_control : GoodIn wsX7_passTick (wsV RX7 157 RX3 yX3_control wsX3_control) := goodIn_app (goodIn_of _ (by decide +kernel)) ggX7_passTick_X3_control
theorem dX7_passTick_0 : decode cX7_passTick 0 = .ok (.aload_n 0, 1) := by decide +kernel
theorem dX7_passTick_1 : decode cX7_passTick 1 = .ok (.dup, 1) := by decide +kernel
theorem dX7_passTick_2 : decode cX7_passTick 2 = .ok (.getfield 80, 3) := by decide +kernel
theorem dX7_passTick_5 : decode cX7_passTick 5 = .ok (.iconst 1, 1) := by decide +kernel
theorem dX7_passTick_6 : decode cX7_passTick 6 = .ok (.iadd, 1) := by decide +kernel
theorem dX7_passTick_7 : decode cX7_passTick 7 = .ok (.putfield 80, 3) := by decide +kernel
theorem dX7_passTick_10 : decode cX7_passTick 10 = .ok (.iconst 0, 1) := by decide +kernel
theorem dX7_passTick_11 : decode cX7_passTick 11 = .ok (.istore_n 1, 1) := by decide +kernel
theorem dX7_passTick_12 : decode cX7_passTick 12 = .ok (.iload_n 1, 1) := by decide +kernel
theorem dX7_passTick_13 : decode cX7_passTick 13 = .ok (.aload_n 0, 1) := by decide +kernel
theorem dX7_passTick_14 : decode cX7_passTick 14 = .ok (.getfield 33, 3) := by decide +kernel
theorem dX7_passTick_17 : decode cX7_passTick 17 = .ok (.if_icmp .ge 18, 3) := by decide +kernel
theorem dX7_passTick_20 : decode cX7_passTick 20 = .ok (.aload_n 0, 1) := by decide +kernel
theorem dX7_passTick_21 : decode cX7_passTick 21 = .ok (.getfield 11, 3) := by decide +kernel
theorem dX7_passTick_24 : decode cX7_passTick 24 = .ok (.iload_n 1, 1) := by decide +kernel
theorem dX7_passTick_25 : decode cX7_passTick 25 = .ok (.aaload, 1) := by decide +kernel
theorem dX7_passTick_26 : decode cX7_passTick 26 = .ok (.invokevirtual 147, 3) := by decide +kernel
theorem dX7_passTick_29 : decode cX7_passTick 29 = .ok (.iinc 1 1, 3) := by decide +kernel
theorem dX7_passTick_32 : decode cX7_passTick 32 = .ok (.goto (-20), 3) := by decide +kernel
theorem dX7_passTick_35 : decode cX7_passTick 35 = .ok (.aload_n 0, 1) := by decide +kernel
theorem dX7_passTick_36 : decode cX7_passTick 36 = .ok (.invokevirtual 150, 3) := by decide +kernel
theorem dX7_passTick_39 : decode cX7_passTick 39 = .ok (.iconst 0, 1) := by decide +kernel
theorem dX7_passTick_40 : decode cX7_passTick 40 = .ok (.istore_n 1, 1) := by decide +kernel
theorem dX7_passTick_41 : decode cX7_passTick 41 = .ok (.iload_n 1, 1) := by decide +kernel
theorem dX7_passTick_42 : decode cX7_passTick 42 = .ok (.aload_n 0, 1) := by decide +kernel
theorem dX7_passTick_43 : decode cX7_passTick 43 = .ok (.getfield 33, 3) := by decide +kernel
theorem dX7_passTick_46 : decode cX7_passTick 46 = .ok (.if_icmp .ge 43, 3) := by decide +kernel
theorem dX7_passTick_49 : decode cX7_passTick 49 = .ok (.aload_n 0, 1) := by decide +kernel
theorem dX7_passTick_50 : decode cX7_passTick 50 = .ok (.getfield 11, 3) := by decide +kernel
theorem dX7_passTick_53 : decode cX7_passTick 53 = .ok (.iload_n 1, 1) := by decide +kernel
theorem dX7_passTick_54 : decode cX7_passTick 54 = .ok (.aaload, 1) := by decide +kernel
theorem dX7_passTick_55 : decode cX7_passTick 55 = .ok (.astore_n 2, 1) := by decide +kernel
theorem dX7_passTick_56 : decode cX7_passTick 56 = .ok (.iconst 0, 1) := by decide +kernel
theorem dX7_passTick_57 : decode cX7_passTick 57 = .ok (.istore_n 3, 1) := by decide +kernel
theorem dX7_passTick_58 : decode cX7_passTick 58 = .ok (.iload_n 3, 1) := by decide +kernel
theorem dX7_passTick_59 : decode cX7_passTick 59 = .ok (.aload_n 2, 1) := by decide +kernel
theorem dX7_passTick_60 : decode cX7_passTick 60 = .ok (.getfield 129, 3) := by decide +kernel
theorem dX7_passTick_63 : decode cX7_passTick 63 = .ok (.if_icmp .ge 20, 3) := by decide +kernel
theorem dX7_passTick_66 : decode cX7_passTick 66 = .ok (.aload_n 0, 1) := by decide +kernel
theorem dX7_passTick_67 : decode cX7_passTick 67 = .ok (.aload_n 2, 1) := by decide +kernel
theorem dX7_passTick_68 : decode cX7_passTick 68 = .ok (.aload_n 2, 1) := by decide +kernel
theorem dX7_passTick_69 : decode cX7_passTick 69 = .ok (.getfield 132, 3) := by decide +kernel
theorem dX7_passTick_72 : decode cX7_passTick 72 = .ok (.iload_n 3, 1) := by decide +kernel
theorem dX7_passTick_73 : decode cX7_passTick 73 = .ok (.aaload, 1) := by decide +kernel
theorem dX7_passTick_74 : decode cX7_passTick 74 = .ok (.invokevirtual 153, 3) := by decide +kernel
theorem dX7_passTick_77 : decode cX7_passTick 77 = .ok (.iinc 3 1, 3) := by decide +kernel
theorem dX7_passTick_80 : decode cX7_passTick 80 = .ok (.goto (-22), 3) := by decide +kernel
theorem dX7_passTick_83 : decode cX7_passTick 83 = .ok (.iinc 1 1, 3) := by decide +kernel
theorem dX7_passTick_86 : decode cX7_passTick 86 = .ok (.goto (-45), 3) := by decide +kernel
theorem dX7_passTick_89 : decode cX7_passTick 89 = .ok (.aload_n 0, 1) := by decide +kernel
theorem dX7_passTick_90 : decode cX7_passTick 90 = .ok (.getfield 80, 3) := by decide +kernel
theorem dX7_passTick_93 : decode cX7_passTick 93 = .ok (.bipush 10, 2) := by decide +kernel
theorem dX7_passTick_95 : decode cX7_passTick 95 = .ok (.irem, 1) := by decide +kernel
theorem dX7_passTick_96 : decode cX7_passTick 96 = .ok (.ifCond .ne 28, 3) := by decide +kernel
theorem dX7_passTick_99 : decode cX7_passTick 99 = .ok (.iconst 0, 1) := by decide +kernel
theorem dX7_passTick_100 : decode cX7_passTick 100 = .ok (.istore_n 1, 1) := by decide +kernel
theorem dX7_passTick_101 : decode cX7_passTick 101 = .ok (.iload_n 1, 1) := by decide +kernel
theorem dX7_passTick_102 : decode cX7_passTick 102 = .ok (.aload_n 0, 1) := by decide +kernel
theorem dX7_passTick_103 : decode cX7_passTick 103 = .ok (.getfield 33, 3) := by decide +kernel
theorem dX7_passTick_106 : decode cX7_passTick 106 = .ok (.if_icmp .ge 18, 3) := by decide +kernel
theorem dX7_passTick_109 : decode cX7_passTick 109 = .ok (.aload_n 0, 1) := by decide +kernel
theorem dX7_passTick_110 : decode cX7_passTick 110 = .ok (.getfield 11, 3) := by decide +kernel
theorem dX7_passTick_113 : decode cX7_passTick 113 = .ok (.iload_n 1, 1) := by decide +kernel
theorem dX7_passTick_114 : decode cX7_passTick 114 = .ok (.aaload, 1) := by decide +kernel
theorem dX7_passTick_115 : decode cX7_passTick 115 = .ok (.invokevirtual 157, 3) := by decide +kernel
theorem dX7_passTick_118 : decode cX7_passTick 118 = .ok (.iinc 1 1, 3) := by decide +kernel
theorem dX7_passTick_121 : decode cX7_passTick 121 = .ok (.goto (-20), 3) := by decide +kernel
theorem dX7_passTick_124 : decode cX7_passTick 124 = .ok (.return_, 1) := by decide +kernel
set_option maxRecDepth 20000 in
theorem ggX7_fireTimers_X7_fire : GoodIn wsX7_fireTimers wsX7_fire := goodIn_r _ [11, 4, 12, 13, 14, 15, 10, 16, 17, 18, 19, 20, 21, 22, 23, 24, 25, 26, 27, 28, 29, 30, 31, 32, 33, 34, 35, 36, 37, 38, 39, 40, 41, 42, 43, 44, 45, 46, 56, 57, 58, 59, 60, 61, 62, 69, 70, 71, 72, 73, 74, 75, 76, 77, 78, 79, 80, 81, 82, 83, 84, 85, 86, 87, 88, 89, 90, 91] (by decide +kernel) (by decide +kernel)
set_option maxRecDepth 20000 in
theorem gX7_fireTimers_X7_fire : GoodIn wsX7_fireTimers (wsV RX7 166 RX7 yX7_fire wsX7_fire) := goodIn_app (goodIn_of _ (by decide +kernel)) ggX7_fireTimers_X7_fire
set_option maxRecDepth 20000 in
theorem ggX7_fireTimers_X4_move : GoodIn wsX7_fireTimers wsX4_move := goodIn_r _ [51, 52, 53, 54, 55, 63, 64, 65, 66, 67, 68] (by decide +kernel) (by decide +kernel)
set_option maxRecDepth 20000 in
theorem gX7_fireTimers_X4_move : GoodIn wsX7_fireTimers (wsV RX7 170 RX4 yX4_move wsX4_move) := goodIn_app (goodIn_of _ (by decide +kernel)) ggX7_fireTimers_X4_move
theorem dX7_fireTimers_0 : decode cX7_fireTimers 0 = .ok (.iconst 0, 1) := by decide +kernel
theorem dX7_fireTimers_1 : decode cX7_fireTimers 1 = .ok (.istore_n 1, 1) := by decide +kernel
theorem dX7_fireTimers_2 : decode cX7_fireTimers 2 = .ok (.iconst 0, 1) := by decide +kernel
theorem dX7_fireTimers_3 : decode cX7_fireTimers 3 = .ok (.istore_n 2, 1) := by decide +kernel
theorem dX7_fireTimers_4 : decode cX7_fireTimers 4 = .ok (.iload_n 2, 1) := by decide +kernel
theorem dX7_fireTimers_5 : decode cX7_fireTimers 5 = .ok (.aload_n 0, 1) := by decide +kernel
theorem dX7_fireTimers_6 : decode cX7_fireTimers 6 = .ok (.getfield 18, 3) := by decide +kernel
theorem dX7_fireTimers_9 : decode cX7_fireTimers 9 = .ok (.getfield 160, 3) := by decide +kernel
theorem dX7_fireTimers_12 : decode cX7_fireTimers 12 = .ok (.if_icmp .ge 62, 3) := by decide +kernel
theorem dX7_fireTimers_15 : decode cX7_fireTimers 15 = .ok (.aload_n 0, 1) := by decide +kernel
theorem dX7_fireTimers_16 : decode cX7_fireTimers 16 = .ok (.getfield 18, 3) := by decide +kernel
theorem dX7_fireTimers_19 : decode cX7_fireTimers 19 = .ok (.getfield 161, 3) := by decide +kernel
theorem dX7_fireTimers_22 : decode cX7_fireTimers 22 = .ok (.iload_n 2, 1) := by decide +kernel
theorem dX7_fireTimers_23 : decode cX7_fireTimers 23 = .ok (.iaload, 1) := by decide +kernel
theorem dX7_fireTimers_24 : decode cX7_fireTimers 24 = .ok (.aload_n 0, 1) := by decide +kernel
theorem dX7_fireTimers_25 : decode cX7_fireTimers 25 = .ok (.getfield 80, 3) := by decide +kernel
theorem dX7_fireTimers_28 : decode cX7_fireTimers 28 = .ok (.if_icmp .ne 28, 3) := by decide +kernel
theorem dX7_fireTimers_31 : decode cX7_fireTimers 31 = .ok (.aload_n 0, 1) := by decide +kernel
theorem dX7_fireTimers_32 : decode cX7_fireTimers 32 = .ok (.aload_n 0, 1) := by decide +kernel
theorem dX7_fireTimers_33 : decode cX7_fireTimers 33 = .ok (.getfield 18, 3) := by decide +kernel
theorem dX7_fireTimers_36 : decode cX7_fireTimers 36 = .ok (.getfield 164, 3) := by decide +kernel
theorem dX7_fireTimers_39 : decode cX7_fireTimers 39 = .ok (.iload_n 2, 1) := by decide +kernel
theorem dX7_fireTimers_40 : decode cX7_fireTimers 40 = .ok (.aaload, 1) := by decide +kernel
theorem dX7_fireTimers_41 : decode cX7_fireTimers 41 = .ok (.aload_n 0, 1) := by decide +kernel
theorem dX7_fireTimers_42 : decode cX7_fireTimers 42 = .ok (.getfield 18, 3) := by decide +kernel
theorem dX7_fireTimers_45 : decode cX7_fireTimers 45 = .ok (.getfield 165, 3) := by decide +kernel
theorem dX7_fireTimers_48 : decode cX7_fireTimers 48 = .ok (.iload_n 2, 1) := by decide +kernel
theorem dX7_fireTimers_49 : decode cX7_fireTimers 49 = .ok (.iaload, 1) := by decide +kernel
theorem dX7_fireTimers_50 : decode cX7_fireTimers 50 = .ok (.invokevirtual 166, 3) := by decide +kernel
theorem dX7_fireTimers_53 : decode cX7_fireTimers 53 = .ok (.goto 15, 3) := by decide +kernel
theorem dX7_fireTimers_56 : decode cX7_fireTimers 56 = .ok (.aload_n 0, 1) := by decide +kernel
theorem dX7_fireTimers_57 : decode cX7_fireTimers 57 = .ok (.getfield 18, 3) := by decide +kernel
theorem dX7_fireTimers_60 : decode cX7_fireTimers 60 = .ok (.iload_n 2, 1) := by decide +kernel
theorem dX7_fireTimers_61 : decode cX7_fireTimers 61 = .ok (.iload_n 1, 1) := by decide +kernel
theorem dX7_fireTimers_62 : decode cX7_fireTimers 62 = .ok (.invokevirtual 170, 3) := by decide +kernel
theorem dX7_fireTimers_65 : decode cX7_fireTimers 65 = .ok (.iinc 1 1, 3) := by decide +kernel
theorem dX7_fireTimers_68 : decode cX7_fireTimers 68 = .ok (.iinc 2 1, 3) := by decide +kernel
theorem dX7_fireTimers_71 : decode cX7_fireTimers 71 = .ok (.goto (-67), 3) := by decide +kernel
theorem dX7_fireTimers_74 : decode cX7_fireTimers 74 = .ok (.aload_n 0, 1) := by decide +kernel
theorem dX7_fireTimers_75 : decode cX7_fireTimers 75 = .ok (.getfield 18, 3) := by decide +kernel
theorem dX7_fireTimers_78 : decode cX7_fireTimers 78 = .ok (.iload_n 1, 1) := by decide +kernel
theorem dX7_fireTimers_79 : decode cX7_fireTimers 79 = .ok (.putfield 160, 3) := by decide +kernel
theorem dX7_fireTimers_82 : decode cX7_fireTimers 82 = .ok (.return_, 1) := by decide +kernel
set_option maxRecDepth 20000 in
theorem ggX7_fire_X7_makeEvent : GoodIn wsX7_fire wsX7_makeEvent := goodIn_r _ [7, 8, 38, 39, 40, 41, 42, 43, 44] (by decide +kernel) (by decide +kernel)
set_option maxRecDepth 20000 in
theorem gX7_fire_X7_makeEvent : GoodIn wsX7_fire (wsV RX7 77 RX7 yX7_makeEvent wsX7_makeEvent) := goodIn_app (goodIn_of _ (by decide +kernel)) ggX7_fire_X7_makeEvent
set_option maxRecDepth 20000 in
theorem ggX7_fire_X3_ask : GoodIn wsX7_fire wsX3_ask := goodIn_r _ [13, 14, 15, 16, 17, 18, 19, 12, 20, 21, 22, 23, 24, 45, 46, 47, 48, 49, 50, 51, 52, 53, 54, 55, 56, 57, 58, 59, 60, 61, 62, 63, 64, 65, 66, 67] (by decide +kernel) (by decide +kernel)
set_option maxRecDepth 20000 in
theorem gX7_fire_X3_ask : GoodIn wsX7_fire (wsV RX7 73 RX3 yX3_ask wsX3_ask) := goodIn_app (goodIn_of _ (by decide +kernel)) ggX7_fire_X3_ask
set_option maxRecDepth 20000 in
theorem ggX7_fire_X3_take : GoodIn wsX7_fire wsX3_take := goodIn_r _ [28, 22, 15, 29, 30, 31, 32, 33, 34, 35, 36, 37, 45, 46, 47, 48, 49, 50, 51, 52, 53, 54, 55, 56, 57, 58, 59, 60, 61, 62, 63, 64, 65, 66, 67] (by decide +kernel) (by decide +kernel)
set_option maxRecDepth 20000 in
theorem gX7_fire_X3_take : GoodIn wsX7_fire (wsV RX7 83 RX3 yX3_take wsX3_take) := goodIn_app (goodIn_of _ (by decide +kernel)) ggX7_fire_X3_take
theorem dX7_fire_0 : decode cX7_fire 0 = .ok (.aload_n 0, 1) := by decide +kernel
theorem dX7_fire_1 : decode cX7_fire 1 = .ok (.invokevirtual 77, 3) := by decide +kernel
theorem dX7_fire_4 : decode cX7_fire 4 = .ok (.istore_n 3, 1) := by decide +kernel
theorem dX7_fire_5 : decode cX7_fire 5 = .ok (.aload_n 1, 1) := by decide +kernel
theorem dX7_fire_6 : decode cX7_fire 6 = .ok (.invokevirtual 73, 3) := by decide +kernel
theorem dX7_fire_9 : decode cX7_fire 9 = .ok (.ifCond .ne 16, 3) := by decide +kernel
theorem dX7_fire_12 : decode cX7_fire 12 = .ok (.aload_n 1, 1) := by decide +kernel
theorem dX7_fire_13 : decode cX7_fire 13 = .ok (.iload_n 3, 1) := by decide +kernel
theorem dX7_fire_14 : decode cX7_fire 14 = .ok (.iload_n 2, 1) := by decide +kernel
theorem dX7_fire_15 : decode cX7_fire 15 = .ok (.aload_n 0, 1) := by decide +kernel
theorem dX7_fire_16 : decode cX7_fire 16 = .ok (.getfield 80, 3) := by decide +kernel
theorem dX7_fire_19 : decode cX7_fire 19 = .ok (.invokevirtual 83, 3) := by decide +kernel
theorem dX7_fire_22 : decode cX7_fire 22 = .ok (.goto 13, 3) := by decide +kernel
theorem dX7_fire_25 : decode cX7_fire 25 = .ok (.aload_n 0, 1) := by decide +kernel
theorem dX7_fire_26 : decode cX7_fire 26 = .ok (.dup, 1) := by decide +kernel
theorem dX7_fire_27 : decode cX7_fire 27 = .ok (.getfield 144, 3) := by decide +kernel
theorem dX7_fire_30 : decode cX7_fire 30 = .ok (.iconst 1, 1) := by decide +kernel
theorem dX7_fire_31 : decode cX7_fire 31 = .ok (.iadd, 1) := by decide +kernel
theorem dX7_fire_32 : decode cX7_fire 32 = .ok (.putfield 144, 3) := by decide +kernel
theorem dX7_fire_35 : decode cX7_fire 35 = .ok (.return_, 1) := by decide +kernel
set_option maxRecDepth 20000 in
theorem ggX7_letWork_X7_workOnBatch : GoodIn wsX7_letWork wsX7_workOnBatch := goodIn_r _ [8, 9, 10, 11, 12, 13, 14, 15, 16, 17, 18, 19, 20, 21, 22, 23, 24, 25, 26, 27, 28, 29, 30, 31, 32, 33, 34, 35, 36, 37, 38, 39, 40, 41, 42, 43, 44, 7, 45, 46, 47, 48, 49, 50, 51, 52, 53, 54, 55, 56, 57, 58, 59, 60, 61, 62, 63, 64, 65, 66, 67, 68, 69, 70, 71, 72, 73, 74, 75, 76, 77, 78, 79, 80, 81, 82, 83, 84, 85, 86, 87, 1, 88, 89, 2, 90, 91, 92, 93, 94, 95, 96, 97, 98, 99, 100, 101, 102, 103, 104, 105, 106, 107, 108, 109, 110, 111, 112, 113, 114, 115, 116, 117, 118, 119, 120, 121, 122, 123, 124, 125, 126, 127, 128, 129, 130, 131, 132, 133, 134, 135, 136, 137, 155, 156, 157, 158, 159, 164, 165, 166, 167, 168, 169, 170, 171, 172, 173, 174, 175, 176, 177, 178, 179, 180, 181, 182, 160, 161, 162, 163, 183, 184, 185, 186, 187, 188, 189, 190, 191, 192, 193, 194, 195, 196, 197, 198, 199, 200, 201] (by decide +kernel) (by decide +kernel)
set_option maxRecDepth 20000 in
theorem gX7_letWork_X7_workOnBatch : GoodIn wsX7_letWork (wsV RX7 177 RX7 yX7_workOnBatch wsX7_workOnBatch) := goodIn_app (goodIn_of _ (by decide +kernel)) ggX7_letWork_X7_workOnBatch
set_option maxRecDepth 20000 in
theorem ggX7_letWork_X3_startBatch : GoodIn wsX7_letWork wsX3_startBatch := goodIn_r _ [141, 18, 69, 142, 143, 19, 144, 145, 146, 147, 78, 148, 80, 149, 128, 129, 130, 81, 150, 105, 106, 107, 82, 83, 151, 152, 153, 154, 155, 156, 157, 158, 159, 164, 165, 166, 167, 168, 169, 170, 171, 172, 173, 174, 175, 176, 177, 178, 179, 180, 181, 182, 160, 161, 162, 163] (by decide +kernel) (by decide +kernel)
set_option maxRecDepth 20000 in
theorem gX7_letWork_X3_startBatch : GoodIn wsX7_letWork (wsV RX7 180 RX3 yX3_startBatch wsX3_startBatch) := goodIn_app (goodIn_of _ (by decide +kernel)) ggX7_letWork_X3_startBatch
theorem dX7_letWork_0 : decode cX7_letWork 0 = .ok (.aload_n 2, 1) := by decide +kernel
theorem dX7_letWork_1 : decode cX7_letWork 1 = .ok (.getfield 174, 3) := by decide +kernel
theorem dX7_letWork_4 : decode cX7_letWork 4 = .ok (.getfield 122, 3) := by decide +kernel
theorem dX7_letWork_7 : decode cX7_letWork 7 = .ok (.ifCond .le 9, 3) := by decide +kernel
theorem dX7_letWork_10 : decode cX7_letWork 10 = .ok (.aload_n 0, 1) := by decide +kernel
theorem dX7_letWork_11 : decode cX7_letWork 11 = .ok (.aload_n 1, 1) := by decide +kernel
theorem dX7_letWork_12 : decode cX7_letWork 12 = .ok (.aload_n 2, 1) := by decide +kernel
theorem dX7_letWork_13 : decode cX7_letWork 13 = .ok (.invokevirtual 177, 3) := by decide +kernel
theorem dX7_letWork_16 : decode cX7_letWork 16 = .ok (.aload_n 2, 1) := by decide +kernel
theorem dX7_letWork_17 : decode cX7_letWork 17 = .ok (.getfield 174, 3) := by decide +kernel
theorem dX7_letWork_20 : decode cX7_letWork 20 = .ok (.getfield 122, 3) := by decide +kernel
theorem dX7_letWork_23 : decode cX7_letWork 23 = .ok (.ifCond .ne 8, 3) := by decide +kernel
theorem dX7_letWork_26 : decode cX7_letWork 26 = .ok (.aload_n 1, 1) := by decide +kernel
theorem dX7_letWork_27 : decode cX7_letWork 27 = .ok (.aload_n 2, 1) := by decide +kernel
theorem dX7_letWork_28 : decode cX7_letWork 28 = .ok (.invokevirtual 180, 3) := by decide +kernel
theorem dX7_letWork_31 : decode cX7_letWork 31 = .ok (.aload_n 2, 1) := by decide +kernel
theorem dX7_letWork_32 : decode cX7_letWork 32 = .ok (.aload_n 2, 1) := by decide +kernel
theorem dX7_letWork_33 : decode cX7_letWork 33 = .ok (.getfield 174, 3) := by decide +kernel
theorem dX7_letWork_36 : decode cX7_letWork 36 = .ok (.getfield 122, 3) := by decide +kernel
theorem dX7_letWork_39 : decode cX7_letWork 39 = .ok (.ifCond .ne 12, 3) := by decide +kernel
theorem dX7_letWork_42 : decode cX7_letWork 42 = .ok (.aload_n 2, 1) := by decide +kernel
theorem dX7_letWork_43 : decode cX7_letWork 43 = .ok (.getfield 184, 3) := by decide +kernel
theorem dX7_letWork_46 : decode cX7_letWork 46 = .ok (.iconst 1, 1) := by decide +kernel
theorem dX7_letWork_47 : decode cX7_letWork 47 = .ok (.iadd, 1) := by decide +kernel
theorem dX7_letWork_48 : decode cX7_letWork 48 = .ok (.goto 4, 3) := by decide +kernel
theorem dX7_letWork_51 : decode cX7_letWork 51 = .ok (.iconst 0, 1) := by decide +kernel
theorem dX7_letWork_52 : decode cX7_letWork 52 = .ok (.putfield 184, 3) := by decide +kernel
theorem dX7_letWork_55 : decode cX7_letWork 55 = .ok (.return_, 1) := by decide +kernel
set_option maxRecDepth 20000 in
theorem ggX7_workOnBatch_X3_collectGifts : GoodIn wsX7_workOnBatch wsX3_collectGifts := goodIn_r _ [8, 9, 10, 11, 12, 13, 14, 15, 16, 17, 7, 18, 19, 20, 21, 22, 23, 24, 25, 26, 27, 28, 29, 30, 31, 32, 33, 138, 139, 140, 141, 142, 143, 144, 145, 146, 147, 148, 149, 150, 151, 152, 153, 154, 155, 156, 133, 134, 135, 136, 137, 157, 158, 159, 160, 161, 162, 163, 164, 165, 166] (by decide +kernel) (by decide +kernel)
set_option maxRecDepth 20000 in
theorem gX7_workOnBatch_X3_collectGifts : GoodIn wsX7_workOnBatch (wsV RX7 193 RX3 yX3_collectGifts wsX3_collectGifts) := goodIn_app (goodIn_of _ (by decide +kernel)) ggX7_workOnBatch_X3_collectGifts
set_option maxRecDepth 20000 in
theorem ggX7_workOnBatch_X7_offerGifts : GoodIn wsX7_workOnBatch wsX7_offerGifts := goodIn_r _ [38, 39, 40, 41, 42, 43, 44, 45, 46, 47, 37, 48, 49, 50, 51, 52, 7, 53, 54, 55, 56, 57, 58, 59, 60, 61, 62, 11, 63, 64, 65, 66, 67, 68, 69, 70, 71, 72, 73, 74, 75, 76, 161, 162, 163, 164, 165, 166, 167, 168, 169, 170, 171, 172, 173, 138, 139, 140, 141, 142, 143, 144, 145, 146, 147, 148, 149, 150, 151, 152, 153, 154, 155, 156, 157, 158, 159, 160] (by decide +kernel) (by decide +kernel)
set_option maxRecDepth 20000 in
theorem gX7_workOnBatch_X7_offerGifts : GoodIn wsX7_workOnBatch (wsV RX7 200 RX7 yX7_offerGifts wsX7_offerGifts) := goodIn_app (goodIn_of _ (by decide +kernel)) ggX7_workOnBatch_X7_offerGifts
set_option maxRecDepth 20000 in
theorem ggX7_workOnBatch_X7_finishBatch : GoodIn wsX7_workOnBatch wsX7_finishBatch := goodIn_r _ [80, 81, 82, 83, 84, 85, 86, 87, 88, 89, 90, 91, 2, 3, 92, 93, 94, 95, 96, 97, 98, 99, 100, 101, 102, 103, 104, 105, 106, 107, 108, 109, 110, 111, 112, 113, 114, 115, 116, 117, 118, 119, 120, 121, 122, 123, 124, 125, 126, 127, 128, 129, 23, 130, 25, 131, 132, 133, 134, 135, 136, 137, 138, 139, 140, 141, 142, 143, 144, 145, 146, 147, 148, 149, 150, 151, 152, 153, 154, 155, 156, 157, 158, 159, 160, 167, 168, 169, 170, 171, 172, 173, 174, 175, 176, 177, 178, 179, 161, 162, 163, 164, 165, 166] (by decide +kernel) (by decide +kernel)
set_option maxRecDepth 20000 in
theorem gX7_workOnBatch_X7_finishBatch : GoodIn wsX7_workOnBatch (wsV RX7 204 RX7 yX7_finishBatch wsX7_finishBatch) := goodIn_app (goodIn_of _ (by decide +kernel)) ggX7_workOnBatch_X7_finishBatch
theorem dX7_workOnBatch_0 : decode cX7_workOnBatch 0 = .ok (.aload_n 2, 1) := by decide +kernel
theorem dX7_workOnBatch_1 : decode cX7_workOnBatch 1 = .ok (.getfield 187, 3) := by decide +kernel
theorem dX7_workOnBatch_4 : decode cX7_workOnBatch 4 = .ok (.ifCond .le 13, 3) := by decide +kernel
theorem dX7_workOnBatch_7 : decode cX7_workOnBatch 7 = .ok (.aload_n 2, 1) := by decide +kernel
theorem dX7_workOnBatch_8 : decode cX7_workOnBatch 8 = .ok (.dup, 1) := by decide +kernel
theorem dX7_workOnBatch_9 : decode cX7_workOnBatch 9 = .ok (.getfield 187, 3) := by decide +kernel
theorem dX7_workOnBatch_12 : decode cX7_workOnBatch 12 = .ok (.iconst 1, 1) := by decide +kernel
theorem dX7_workOnBatch_13 : decode cX7_workOnBatch 13 = .ok (.isub, 1) := by decide +kernel
theorem dX7_workOnBatch_14 : decode cX7_workOnBatch 14 = .ok (.putfield 187, 3) := by decide +kernel
theorem dX7_workOnBatch_17 : decode cX7_workOnBatch 17 = .ok (.aload_n 2, 1) := by decide +kernel
theorem dX7_workOnBatch_18 : decode cX7_workOnBatch 18 = .ok (.getfield 187, 3) := by decide +kernel
theorem dX7_workOnBatch_21 : decode cX7_workOnBatch 21 = .ok (.ifCond .le 4, 3) := by decide +kernel
theorem dX7_workOnBatch_24 : decode cX7_workOnBatch 24 = .ok (.return_, 1) := by decide +kernel
theorem dX7_workOnBatch_25 : decode cX7_workOnBatch 25 = .ok (.aload_n 2, 1) := by decide +kernel
theorem dX7_workOnBatch_26 : decode cX7_workOnBatch 26 = .ok (.getfield 190, 3) := by decide +kernel
theorem dX7_workOnBatch_29 : decode cX7_workOnBatch 29 = .ok (.ifCond .ne 13, 3) := by decide +kernel
theorem dX7_workOnBatch_32 : decode cX7_workOnBatch 32 = .ok (.aload_n 1, 1) := by decide +kernel
theorem dX7_workOnBatch_33 : decode cX7_workOnBatch 33 = .ok (.aload_n 2, 1) := by decide +kernel
theorem dX7_workOnBatch_34 : decode cX7_workOnBatch 34 = .ok (.invokevirtual 193, 3) := by decide +kernel
theorem dX7_workOnBatch_37 : decode cX7_workOnBatch 37 = .ok (.aload_n 2, 1) := by decide +kernel
theorem dX7_workOnBatch_38 : decode cX7_workOnBatch 38 = .ok (.iconst 1, 1) := by decide +kernel
theorem dX7_workOnBatch_39 : decode cX7_workOnBatch 39 = .ok (.putfield 190, 3) := by decide +kernel
theorem dX7_workOnBatch_42 : decode cX7_workOnBatch 42 = .ok (.aload_n 0, 1) := by decide +kernel
theorem dX7_workOnBatch_43 : decode cX7_workOnBatch 43 = .ok (.aload_n 2, 1) := by decide +kernel
theorem dX7_workOnBatch_44 : decode cX7_workOnBatch 44 = .ok (.getfield 196, 3) := by decide +kernel
theorem dX7_workOnBatch_47 : decode cX7_workOnBatch 47 = .ok (.invokevirtual 200, 3) := by decide +kernel
theorem dX7_workOnBatch_50 : decode cX7_workOnBatch 50 = .ok (.ifCond .eq 9, 3) := by decide +kernel
theorem dX7_workOnBatch_53 : decode cX7_workOnBatch 53 = .ok (.aload_n 0, 1) := by decide +kernel
theorem dX7_workOnBatch_54 : decode cX7_workOnBatch 54 = .ok (.aload_n 1, 1) := by decide +kernel
theorem dX7_workOnBatch_55 : decode cX7_workOnBatch 55 = .ok (.aload_n 2, 1) := by decide +kernel
theorem dX7_workOnBatch_56 : decode cX7_workOnBatch 56 = .ok (.invokevirtual 204, 3) := by decide +kernel
theorem dX7_workOnBatch_59 : decode cX7_workOnBatch 59 = .ok (.return_, 1) := by decide +kernel
set_option maxRecDepth 20000 in
theorem ggX7_offerGifts_X7_makeEvent : GoodIn wsX7_offerGifts wsX7_makeEvent := goodIn_r _ [11, 12, 48, 49, 50, 51, 52, 53, 54] (by decide +kernel) (by decide +kernel)
set_option maxRecDepth 20000 in
theorem gX7_offerGifts_X7_makeEvent : GoodIn wsX7_offerGifts (wsV RX7 77 RX7 yX7_makeEvent wsX7_makeEvent) := goodIn_app (goodIn_of _ (by decide +kernel)) ggX7_offerGifts_X7_makeEvent
set_option maxRecDepth 20000 in
theorem ggX7_offerGifts_X3_ask : GoodIn wsX7_offerGifts wsX3_ask := goodIn_r _ [17, 18, 19, 20, 21, 22, 23, 16, 24, 25, 26, 27, 28, 55, 56, 57, 58, 59, 60, 61, 62, 63, 64, 65, 66, 67, 68, 69, 70, 71, 72, 73, 74, 75, 76, 77] (by decide +kernel) (by decide +kernel)
set_option maxRecDepth 20000 in
theorem gX7_offerGifts_X3_ask : GoodIn wsX7_offerGifts (wsV RX7 73 RX3 yX3_ask wsX3_ask) := goodIn_app (goodIn_of _ (by decide +kernel)) ggX7_offerGifts_X3_ask
set_option maxRecDepth 20000 in
theorem ggX7_offerGifts_X3_take : GoodIn wsX7_offerGifts wsX3_take := goodIn_r _ [32, 26, 19, 33, 34, 35, 36, 37, 38, 39, 40, 41, 55, 56, 57, 58, 59, 60, 61, 62, 63, 64, 65, 66, 67, 68, 69, 70, 71, 72, 73, 74, 75, 76, 77] (by decide +kernel) (by decide +kernel)
set_option maxRecDepth 20000 in
theorem gX7_offerGifts_X3_take : GoodIn wsX7_offerGifts (wsV RX7 83 RX3 yX3_take wsX3_take) := goodIn_app (goodIn_of _ (by decide +kernel)) ggX7_offerGifts_X3_take
theorem dX7_offerGifts_0 : decode cX7_offerGifts 0 = .ok (.aload_n 1, 1) := by decide +kernel
theorem dX7_offerGifts_1 : decode cX7_offerGifts 1 = .ok (.getfield 207, 3) := by decide +kernel
theorem dX7_offerGifts_4 : decode cX7_offerGifts 4 = .ok (.aload_n 1, 1) := by decide +kernel
theorem dX7_offerGifts_5 : decode cX7_offerGifts 5 = .ok (.getfield 212, 3) := by decide +kernel
theorem dX7_offerGifts_8 : decode cX7_offerGifts 8 = .ok (.if_icmp .ge 82, 3) := by decide +kernel
theorem dX7_offerGifts_11 : decode cX7_offerGifts 11 = .ok (.aload_n 1, 1) := by decide +kernel
theorem dX7_offerGifts_12 : decode cX7_offerGifts 12 = .ok (.getfield 213, 3) := by decide +kernel
theorem dX7_offerGifts_15 : decode cX7_offerGifts 15 = .ok (.iconst (-1), 1) := by decide +kernel
theorem dX7_offerGifts_16 : decode cX7_offerGifts 16 = .ok (.if_icmp .ne 11, 3) := by decide +kernel
theorem dX7_offerGifts_19 : decode cX7_offerGifts 19 = .ok (.aload_n 1, 1) := by decide +kernel
theorem dX7_offerGifts_20 : decode cX7_offerGifts 20 = .ok (.aload_n 0, 1) := by decide +kernel
theorem dX7_offerGifts_21 : decode cX7_offerGifts 21 = .ok (.invokevirtual 77, 3) := by decide +kernel
theorem dX7_offerGifts_24 : decode cX7_offerGifts 24 = .ok (.putfield 213, 3) := by decide +kernel
theorem dX7_offerGifts_27 : decode cX7_offerGifts 27 = .ok (.aload_n 1, 1) := by decide +kernel
theorem dX7_offerGifts_28 : decode cX7_offerGifts 28 = .ok (.getfield 216, 3) := by decide +kernel
theorem dX7_offerGifts_31 : decode cX7_offerGifts 31 = .ok (.aload_n 1, 1) := by decide +kernel
theorem dX7_offerGifts_32 : decode cX7_offerGifts 32 = .ok (.getfield 207, 3) := by decide +kernel
theorem dX7_offerGifts_35 : decode cX7_offerGifts 35 = .ok (.aaload, 1) := by decide +kernel
theorem dX7_offerGifts_36 : decode cX7_offerGifts 36 = .ok (.astore_n 2, 1) := by decide +kernel
theorem dX7_offerGifts_37 : decode cX7_offerGifts 37 = .ok (.aload_n 2, 1) := by decide +kernel
theorem dX7_offerGifts_38 : decode cX7_offerGifts 38 = .ok (.invokevirtual 73, 3) := by decide +kernel
theorem dX7_offerGifts_41 : decode cX7_offerGifts 41 = .ok (.ifCond .eq 5, 3) := by decide +kernel
theorem dX7_offerGifts_44 : decode cX7_offerGifts 44 = .ok (.iconst 0, 1) := by decide +kernel
theorem dX7_offerGifts_45 : decode cX7_offerGifts 45 = .ok (.ireturn, 1) := by decide +kernel
theorem dX7_offerGifts_46 : decode cX7_offerGifts 46 = .ok (.aload_n 2, 1) := by decide +kernel
theorem dX7_offerGifts_47 : decode cX7_offerGifts 47 = .ok (.aload_n 1, 1) := by decide +kernel
theorem dX7_offerGifts_48 : decode cX7_offerGifts 48 = .ok (.getfield 213, 3) := by decide +kernel
theorem dX7_offerGifts_51 : decode cX7_offerGifts 51 = .ok (.aload_n 1, 1) := by decide +kernel
theorem dX7_offerGifts_52 : decode cX7_offerGifts 52 = .ok (.getfield 219, 3) := by decide +kernel
theorem dX7_offerGifts_55 : decode cX7_offerGifts 55 = .ok (.aload_n 1, 1) := by decide +kernel
theorem dX7_offerGifts_56 : decode cX7_offerGifts 56 = .ok (.getfield 207, 3) := by decide +kernel
theorem dX7_offerGifts_59 : decode cX7_offerGifts 59 = .ok (.iaload, 1) := by decide +kernel
theorem dX7_offerGifts_60 : decode cX7_offerGifts 60 = .ok (.aload_n 1, 1) := by decide +kernel
theorem dX7_offerGifts_61 : decode cX7_offerGifts 61 = .ok (.getfield 220, 3) := by decide +kernel
theorem dX7_offerGifts_64 : decode cX7_offerGifts 64 = .ok (.aload_n 1, 1) := by decide +kernel
theorem dX7_offerGifts_65 : decode cX7_offerGifts 65 = .ok (.getfield 207, 3) := by decide +kernel
theorem dX7_offerGifts_68 : decode cX7_offerGifts 68 = .ok (.iaload, 1) := by decide +kernel
theorem dX7_offerGifts_69 : decode cX7_offerGifts 69 = .ok (.invokevirtual 83, 3) := by decide +kernel
theorem dX7_offerGifts_72 : decode cX7_offerGifts 72 = .ok (.aload_n 1, 1) := by decide +kernel
theorem dX7_offerGifts_73 : decode cX7_offerGifts 73 = .ok (.iconst (-1), 1) := by decide +kernel
theorem dX7_offerGifts_74 : decode cX7_offerGifts 74 = .ok (.putfield 213, 3) := by decide +kernel
theorem dX7_offerGifts_77 : decode cX7_offerGifts 77 = .ok (.aload_n 1, 1) := by decide +kernel
theorem dX7_offerGifts_78 : decode cX7_offerGifts 78 = .ok (.dup, 1) := by decide +kernel
theorem dX7_offerGifts_79 : decode cX7_offerGifts 79 = .ok (.getfield 207, 3) := by decide +kernel
theorem dX7_offerGifts_82 : decode cX7_offerGifts 82 = .ok (.iconst 1, 1) := by decide +kernel
theorem dX7_offerGifts_83 : decode cX7_offerGifts 83 = .ok (.iadd, 1) := by decide +kernel
theorem dX7_offerGifts_84 : decode cX7_offerGifts 84 = .ok (.putfield 207, 3) := by decide +kernel
theorem dX7_offerGifts_87 : decode cX7_offerGifts 87 = .ok (.goto (-87), 3) := by decide +kernel
theorem dX7_offerGifts_90 : decode cX7_offerGifts 90 = .ok (.iconst 1, 1) := by decide +kernel
theorem dX7_offerGifts_91 : decode cX7_offerGifts 91 = .ok (.ireturn, 1) := by decide +kernel
set_option maxRecDepth 20000 in
theorem ggX7_finishBatch_X5_append : GoodIn wsX7_finishBatch wsX5_append := goodIn_r _ [18, 19, 20, 21, 22, 23, 24, 92, 93, 94] (by decide +kernel) (by decide +kernel)
set_option maxRecDepth 20000 in
theorem gX7_finishBatch_X5_append : GoodIn wsX7_finishBatch (wsV RX7 237 RX5 yX5_append wsX5_append) := goodIn_app (goodIn_of _ (by decide +kernel)) ggX7_finishBatch_X5_append
set_option maxRecDepth 20000 in
theorem ggX7_finishBatch_X0_append : GoodIn wsX7_finishBatch wsX0_append := goodIn_r _ [29, 30, 31, 32, 33, 34, 35, 36, 37, 38, 39, 40, 41, 42, 43, 44, 45, 46, 47, 48, 22, 23, 24, 95, 96, 97] (by decide +kernel) (by decide +kernel)
set_option maxRecDepth 20000 in
theorem gX7_finishBatch_X0_append : GoodIn wsX7_finishBatch (wsV RX7 243 RX0 yX0_append wsX0_append) := goodIn_app (goodIn_of _ (by decide +kernel)) ggX7_finishBatch_X0_append
set_option maxRecDepth 20000 in
theorem ggX7_finishBatch_X2_clear : GoodIn wsX7_finishBatch wsX2_clear := goodIn_r _ [53, 54, 55, 56, 98, 99, 100, 101, 102, 103] (by decide +kernel) (by decide +kernel)
set_option maxRecDepth 20000 in
theorem gX7_finishBatch_X2_clear : GoodIn wsX7_finishBatch (wsV RX7 245 RX2 yX2_clear wsX2_clear) := goodIn_app (goodIn_of _ (by decide +kernel)) ggX7_finishBatch_X2_clear
theorem dX7_finishBatch_0 : decode cX7_finishBatch 0 = .ok (.aload_n 2, 1) := by decide +kernel
theorem dX7_finishBatch_1 : decode cX7_finishBatch 1 = .ok (.getfield 174, 3) := by decide +kernel
theorem dX7_finishBatch_4 : decode cX7_finishBatch 4 = .ok (.astore_n 3, 1) := by decide +kernel
theorem dX7_finishBatch_5 : decode cX7_finishBatch 5 = .ok (.aload_n 1, 1) := by decide +kernel
theorem dX7_finishBatch_6 : decode cX7_finishBatch 6 = .ok (.dup, 1) := by decide +kernel
theorem dX7_finishBatch_7 : decode cX7_finishBatch 7 = .ok (.getfield 223, 3) := by decide +kernel
theorem dX7_finishBatch_10 : decode cX7_finishBatch 10 = .ok (.iconst 1, 1) := by decide +kernel
theorem dX7_finishBatch_11 : decode cX7_finishBatch 11 = .ok (.iadd, 1) := by decide +kernel
theorem dX7_finishBatch_12 : decode cX7_finishBatch 12 = .ok (.putfield 223, 3) := by decide +kernel
theorem dX7_finishBatch_15 : decode cX7_finishBatch 15 = .ok (.aload_n 1, 1) := by decide +kernel
theorem dX7_finishBatch_16 : decode cX7_finishBatch 16 = .ok (.dup, 1) := by decide +kernel
theorem dX7_finishBatch_17 : decode cX7_finishBatch 17 = .ok (.getfield 226, 3) := by decide +kernel
theorem dX7_finishBatch_20 : decode cX7_finishBatch 20 = .ok (.aload_n 3, 1) := by decide +kernel
theorem dX7_finishBatch_21 : decode cX7_finishBatch 21 = .ok (.getfield 122, 3) := by decide +kernel
theorem dX7_finishBatch_24 : decode cX7_finishBatch 24 = .ok (.iadd, 1) := by decide +kernel
theorem dX7_finishBatch_25 : decode cX7_finishBatch 25 = .ok (.putfield 226, 3) := by decide +kernel
theorem dX7_finishBatch_28 : decode cX7_finishBatch 28 = .ok (.aload_n 1, 1) := by decide +kernel
theorem dX7_finishBatch_29 : decode cX7_finishBatch 29 = .ok (.getfield 229, 3) := by decide +kernel
theorem dX7_finishBatch_32 : decode cX7_finishBatch 32 = .ok (.iconst 4, 1) := by decide +kernel
theorem dX7_finishBatch_33 : decode cX7_finishBatch 33 = .ok (.if_icmp .ne 61, 3) := by decide +kernel
theorem dX7_finishBatch_36 : decode cX7_finishBatch 36 = .ok (.iconst 0, 1) := by decide +kernel
theorem dX7_finishBatch_37 : decode cX7_finishBatch 37 = .ok (.istore 4, 2) := by decide +kernel
theorem dX7_finishBatch_39 : decode cX7_finishBatch 39 = .ok (.iload 4, 2) := by decide +kernel
theorem dX7_finishBatch_41 : decode cX7_finishBatch 41 = .ok (.aload_n 3, 1) := by decide +kernel
theorem dX7_finishBatch_42 : decode cX7_finishBatch 42 = .ok (.getfield 122, 3) := by decide +kernel
theorem dX7_finishBatch_45 : decode cX7_finishBatch 45 = .ok (.if_icmp .ge 49, 3) := by decide +kernel
theorem dX7_finishBatch_48 : decode cX7_finishBatch 48 = .ok (.aload_n 1, 1) := by decide +kernel
theorem dX7_finishBatch_49 : decode cX7_finishBatch 49 = .ok (.getfield 232, 3) := by decide +kernel
theorem dX7_finishBatch_52 : decode cX7_finishBatch 52 = .ok (.aload_n 0, 1) := by decide +kernel
theorem dX7_finishBatch_53 : decode cX7_finishBatch 53 = .ok (.getfield 80, 3) := by decide +kernel
theorem dX7_finishBatch_56 : decode cX7_finishBatch 56 = .ok (.aload_n 3, 1) := by decide +kernel
theorem dX7_finishBatch_57 : decode cX7_finishBatch 57 = .ok (.getfield 236, 3) := by decide +kernel
theorem dX7_finishBatch_60 : decode cX7_finishBatch 60 = .ok (.iload 4, 2) := by decide +kernel
theorem dX7_finishBatch_62 : decode cX7_finishBatch 62 = .ok (.iaload, 1) := by decide +kernel
theorem dX7_finishBatch_63 : decode cX7_finishBatch 63 = .ok (.isub, 1) := by decide +kernel
theorem dX7_finishBatch_64 : decode cX7_finishBatch 64 = .ok (.invokevirtual 237, 3) := by decide +kernel
theorem dX7_finishBatch_67 : decode cX7_finishBatch 67 = .ok (.aload_n 0, 1) := by decide +kernel
theorem dX7_finishBatch_68 : decode cX7_finishBatch 68 = .ok (.getfield 25, 3) := by decide +kernel
theorem dX7_finishBatch_71 : decode cX7_finishBatch 71 = .ok (.aload_n 3, 1) := by decide +kernel
theorem dX7_finishBatch_72 : decode cX7_finishBatch 72 = .ok (.getfield 125, 3) := by decide +kernel
theorem dX7_finishBatch_75 : decode cX7_finishBatch 75 = .ok (.iload 4, 2) := by decide +kernel
theorem dX7_finishBatch_77 : decode cX7_finishBatch 77 = .ok (.iaload, 1) := by decide +kernel
theorem dX7_finishBatch_78 : decode cX7_finishBatch 78 = .ok (.aload_n 3, 1) := by decide +kernel
theorem dX7_finishBatch_79 : decode cX7_finishBatch 79 = .ok (.getfield 242, 3) := by decide +kernel
theorem dX7_finishBatch_82 : decode cX7_finishBatch 82 = .ok (.iload 4, 2) := by decide +kernel
theorem dX7_finishBatch_84 : decode cX7_finishBatch 84 = .ok (.iaload, 1) := by decide +kernel
theorem dX7_finishBatch_85 : decode cX7_finishBatch 85 = .ok (.invokevirtual 243, 3) := by decide +kernel
theorem dX7_finishBatch_88 : decode cX7_finishBatch 88 = .ok (.iinc 4 1, 3) := by decide +kernel
theorem dX7_finishBatch_91 : decode cX7_finishBatch 91 = .ok (.goto (-52), 3) := by decide +kernel
theorem dX7_finishBatch_94 : decode cX7_finishBatch 94 = .ok (.aload_n 3, 1) := by decide +kernel
theorem dX7_finishBatch_95 : decode cX7_finishBatch 95 = .ok (.iconst 0, 1) := by decide +kernel
theorem dX7_finishBatch_96 : decode cX7_finishBatch 96 = .ok (.putfield 122, 3) := by decide +kernel
theorem dX7_finishBatch_99 : decode cX7_finishBatch 99 = .ok (.aload_n 2, 1) := by decide +kernel
theorem dX7_finishBatch_100 : decode cX7_finishBatch 100 = .ok (.iconst 0, 1) := by decide +kernel
theorem dX7_finishBatch_101 : decode cX7_finishBatch 101 = .ok (.putfield 190, 3) := by decide +kernel
theorem dX7_finishBatch_104 : decode cX7_finishBatch 104 = .ok (.aload_n 2, 1) := by decide +kernel
theorem dX7_finishBatch_105 : decode cX7_finishBatch 105 = .ok (.getfield 196, 3) := by decide +kernel
theorem dX7_finishBatch_108 : decode cX7_finishBatch 108 = .ok (.invokevirtual 245, 3) := by decide +kernel
theorem dX7_finishBatch_111 : decode cX7_finishBatch 111 = .ok (.return_, 1) := by decide +kernel
end
section
theorem dX8_init_0 : decode cX8_init 0 = .ok (.aload_n 0, 1) := by decide +kernel
theorem dX8_init_1 : decode cX8_init 1 = .ok (.invokespecial 1, 3) := by decide +kernel
theorem dX8_init_4 : decode cX8_init 4 = .ok (.aload_n 0, 1) := by decide +kernel
theorem dX8_init_5 : decode cX8_init 5 = .ok (.ldc 7, 2) := by decide +kernel
theorem dX8_init_7 : decode cX8_init 7 = .ok (.newarray .int, 2) := by decide +kernel
theorem dX8_init_9 : decode cX8_init 9 = .ok (.putfield 8, 3) := by decide +kernel
theorem dX8_init_12 : decode cX8_init 12 = .ok (.aload_n 0, 1) := by decide +kernel
theorem dX8_init_13 : decode cX8_init 13 = .ok (.ldc 7, 2) := by decide +kernel
theorem dX8_init_15 : decode cX8_init 15 = .ok (.newarray .int, 2) := by decide +kernel
theorem dX8_init_17 : decode cX8_init 17 = .ok (.putfield 14, 3) := by decide +kernel
theorem dX8_init_20 : decode cX8_init 20 = .ok (.aload_n 0, 1) := by decide +kernel
theorem dX8_init_21 : decode cX8_init 21 = .ok (.ldc 17, 2) := by decide +kernel
theorem dX8_init_23 : decode cX8_init 23 = .ok (.newarray .int, 2) := by decide +kernel
theorem dX8_init_25 : decode cX8_init 25 = .ok (.putfield 18, 3) := by decide +kernel
theorem dX8_init_28 : decode cX8_init 28 = .ok (.aload_n 0, 1) := by decide +kernel
theorem dX8_init_29 : decode cX8_init 29 = .ok (.bipush 8, 2) := by decide +kernel
theorem dX8_init_31 : decode cX8_init 31 = .ok (.newarray .int, 2) := by decide +kernel
theorem dX8_init_33 : decode cX8_init 33 = .ok (.putfield 21, 3) := by decide +kernel
theorem dX8_init_36 : decode cX8_init 36 = .ok (.aload_n 0, 1) := by decide +kernel
theorem dX8_init_37 : decode cX8_init 37 = .ok (.bipush 8, 2) := by decide +kernel
theorem dX8_init_39 : decode cX8_init 39 = .ok (.newarray .int, 2) := by decide +kernel
theorem dX8_init_41 : decode cX8_init 41 = .ok (.putfield 24, 3) := by decide +kernel
theorem dX8_init_44 : decode cX8_init 44 = .ok (.aload_n 0, 1) := by decide +kernel
theorem dX8_init_45 : decode cX8_init 45 = .ok (.bipush 8, 2) := by decide +kernel
theorem dX8_init_47 : decode cX8_init 47 = .ok (.newarray .int, 2) := by decide +kernel
theorem dX8_init_49 : decode cX8_init 49 = .ok (.putfield 27, 3) := by decide +kernel
theorem dX8_init_52 : decode cX8_init 52 = .ok (.aload_n 0, 1) := by decide +kernel
theorem dX8_init_53 : decode cX8_init 53 = .ok (.bipush 8, 2) := by decide +kernel
theorem dX8_init_55 : decode cX8_init 55 = .ok (.newarray .int, 2) := by decide +kernel
theorem dX8_init_57 : decode cX8_init 57 = .ok (.putfield 30, 3) := by decide +kernel
theorem dX8_init_60 : decode cX8_init 60 = .ok (.aload_n 0, 1) := by decide +kernel
theorem dX8_init_61 : decode cX8_init 61 = .ok (.bipush 8, 2) := by decide +kernel
theorem dX8_init_63 : decode cX8_init 63 = .ok (.newarray .int, 2) := by decide +kernel
theorem dX8_init_65 : decode cX8_init 65 = .ok (.putfield 33, 3) := by decide +kernel
theorem dX8_init_68 : decode cX8_init 68 = .ok (.aload_n 0, 1) := by decide +kernel
theorem dX8_init_69 : decode cX8_init 69 = .ok (.bipush 8, 2) := by decide +kernel
theorem dX8_init_71 : decode cX8_init 71 = .ok (.newarray .int, 2) := by decide +kernel
theorem dX8_init_73 : decode cX8_init 73 = .ok (.putfield 36, 3) := by decide +kernel
theorem dX8_init_76 : decode cX8_init 76 = .ok (.aload_n 0, 1) := by decide +kernel
theorem dX8_init_77 : decode cX8_init 77 = .ok (.bipush 8, 2) := by decide +kernel
theorem dX8_init_79 : decode cX8_init 79 = .ok (.newarray .int, 2) := by decide +kernel
theorem dX8_init_81 : decode cX8_init 81 = .ok (.putfield 39, 3) := by decide +kernel
theorem dX8_init_84 : decode cX8_init 84 = .ok (.aload_n 0, 1) := by decide +kernel
theorem dX8_init_85 : decode cX8_init 85 = .ok (.bipush 8, 2) := by decide +kernel
theorem dX8_init_87 : decode cX8_init 87 = .ok (.newarray .int, 2) := by decide +kernel
theorem dX8_init_89 : decode cX8_init 89 = .ok (.putfield 42, 3) := by decide +kernel
theorem dX8_init_92 : decode cX8_init 92 = .ok (.aload_n 0, 1) := by decide +kernel
theorem dX8_init_93 : decode cX8_init 93 = .ok (.bipush 8, 2) := by decide +kernel
theorem dX8_init_95 : decode cX8_init 95 = .ok (.newarray .int, 2) := by decide +kernel
theorem dX8_init_97 : decode cX8_init 97 = .ok (.putfield 45, 3) := by decide +kernel
theorem dX8_init_100 : decode cX8_init 100 = .ok (.aload_n 0, 1) := by decide +kernel
theorem dX8_init_101 : decode cX8_init 101 = .ok (.bipush 8, 2) := by decide +kernel
theorem dX8_init_103 : decode cX8_init 103 = .ok (.newarray .int, 2) := by decide +kernel
theorem dX8_init_105 : decode cX8_init 105 = .ok (.putfield 48, 3) := by decide +kernel
theorem dX8_init_108 : decode cX8_init 108 = .ok (.aload_n 0, 1) := by decide +kernel
theorem dX8_init_109 : decode cX8_init 109 = .ok (.bipush 8, 2) := by decide +kernel
theorem dX8_init_111 : decode cX8_init 111 = .ok (.newarray .int, 2) := by decide +kernel
theorem dX8_init_113 : decode cX8_init 113 = .ok (.putfield 51, 3) := by decide +kernel
theorem dX8_init_116 : decode cX8_init 116 = .ok (.aload_n 0, 1) := by decide +kernel
theorem dX8_init_117 : decode cX8_init 117 = .ok (.bipush 8, 2) := by decide +kernel
theorem dX8_init_119 : decode cX8_init 119 = .ok (.newarray .int, 2) := by decide +kernel
theorem dX8_init_121 : decode cX8_init 121 = .ok (.putfield 54, 3) := by decide +kernel
theorem dX8_init_124 : decode cX8_init 124 = .ok (.aload_n 0, 1) := by decide +kernel
theorem dX8_init_125 : decode cX8_init 125 = .ok (.bipush 8, 2) := by decide +kernel
theorem dX8_init_127 : decode cX8_init 127 = .ok (.newarray .int, 2) := by decide +kernel
theorem dX8_init_129 : decode cX8_init 129 = .ok (.putfield 57, 3) := by decide +kernel
theorem dX8_init_132 : decode cX8_init 132 = .ok (.aload_n 0, 1) := by decide +kernel
theorem dX8_init_133 : decode cX8_init 133 = .ok (.bipush 8, 2) := by decide +kernel
theorem dX8_init_135 : decode cX8_init 135 = .ok (.newarray .boolean, 2) := by decide +kernel
theorem dX8_init_137 : decode cX8_init 137 = .ok (.putfield 60, 3) := by decide +kernel
theorem dX8_init_140 : decode cX8_init 140 = .ok (.aload_n 0, 1) := by decide +kernel
theorem dX8_init_141 : decode cX8_init 141 = .ok (.bipush 8, 2) := by decide +kernel
theorem dX8_init_143 : decode cX8_init 143 = .ok (.newarray .int, 2) := by decide +kernel
theorem dX8_init_145 : decode cX8_init 145 = .ok (.putfield 64, 3) := by decide +kernel
theorem dX8_init_148 : decode cX8_init 148 = .ok (.aload_n 0, 1) := by decide +kernel
theorem dX8_init_149 : decode cX8_init 149 = .ok (.bipush 8, 2) := by decide +kernel
theorem dX8_init_151 : decode cX8_init 151 = .ok (.newarray .int, 2) := by decide +kernel
theorem dX8_init_153 : decode cX8_init 153 = .ok (.putfield 67, 3) := by decide +kernel
theorem dX8_init_156 : decode cX8_init 156 = .ok (.aload_n 0, 1) := by decide +kernel
theorem dX8_init_157 : decode cX8_init 157 = .ok (.bipush 8, 2) := by decide +kernel
theorem dX8_init_159 : decode cX8_init 159 = .ok (.newarray .int, 2) := by decide +kernel
theorem dX8_init_161 : decode cX8_init 161 = .ok (.putfield 70, 3) := by decide +kernel
theorem dX8_init_164 : decode cX8_init 164 = .ok (.aload_n 0, 1) := by decide +kernel
theorem dX8_init_165 : decode cX8_init 165 = .ok (.bipush 8, 2) := by decide +kernel
theorem dX8_init_167 : decode cX8_init 167 = .ok (.newarray .int, 2) := by decide +kernel
theorem dX8_init_169 : decode cX8_init 169 = .ok (.putfield 73, 3) := by decide +kernel
theorem dX8_init_172 : decode cX8_init 172 = .ok (.aload_n 0, 1) := by decide +kernel
theorem dX8_init_173 : decode cX8_init 173 = .ok (.sipush 256, 3) := by decide +kernel
theorem dX8_init_176 : decode cX8_init 176 = .ok (.newarray .int, 2) := by decide +kernel
theorem dX8_init_178 : decode cX8_init 178 = .ok (.putfield 76, 3) := by decide +kernel
theorem dX8_init_181 : decode cX8_init 181 = .ok (.aload_n 0, 1) := by decide +kernel
theorem dX8_init_182 : decode cX8_init 182 = .ok (.bipush 8, 2) := by decide +kernel
theorem dX8_init_184 : decode cX8_init 184 = .ok (.newarray .int, 2) := by decide +kernel
theorem dX8_init_186 : decode cX8_init 186 = .ok (.putfield 79, 3) := by decide +kernel
theorem dX8_init_189 : decode cX8_init 189 = .ok (.aload_n 0, 1) := by decide +kernel
theorem dX8_init_190 : decode cX8_init 190 = .ok (.sipush 160, 3) := by decide +kernel
theorem dX8_init_193 : decode cX8_init 193 = .ok (.newarray .int, 2) := by decide +kernel
theorem dX8_init_195 : decode cX8_init 195 = .ok (.putfield 82, 3) := by decide +kernel
theorem dX8_init_198 : decode cX8_init 198 = .ok (.aload_n 0, 1) := by decide +kernel
theorem dX8_init_199 : decode cX8_init 199 = .ok (.bipush 20, 2) := by decide +kernel
theorem dX8_init_201 : decode cX8_init 201 = .ok (.newarray .int, 2) := by decide +kernel
theorem dX8_init_203 : decode cX8_init 203 = .ok (.putfield 85, 3) := by decide +kernel
theorem dX8_init_206 : decode cX8_init 206 = .ok (.aload_n 0, 1) := by decide +kernel
theorem dX8_init_207 : decode cX8_init 207 = .ok (.bipush 32, 2) := by decide +kernel
theorem dX8_init_209 : decode cX8_init 209 = .ok (.newarray .int, 2) := by decide +kernel
theorem dX8_init_211 : decode cX8_init 211 = .ok (.putfield 88, 3) := by decide +kernel
theorem dX8_init_214 : decode cX8_init 214 = .ok (.aload_n 0, 1) := by decide +kernel
theorem dX8_init_215 : decode cX8_init 215 = .ok (.sipush 256, 3) := by decide +kernel
theorem dX8_init_218 : decode cX8_init 218 = .ok (.newarray .int, 2) := by decide +kernel
theorem dX8_init_220 : decode cX8_init 220 = .ok (.putfield 91, 3) := by decide +kernel
theorem dX8_init_223 : decode cX8_init 223 = .ok (.aload_n 0, 1) := by decide +kernel
theorem dX8_init_224 : decode cX8_init 224 = .ok (.bipush 32, 2) := by decide +kernel
theorem dX8_init_226 : decode cX8_init 226 = .ok (.newarray .int, 2) := by decide +kernel
theorem dX8_init_228 : decode cX8_init 228 = .ok (.putfield 94, 3) := by decide +kernel
theorem dX8_init_231 : decode cX8_init 231 = .ok (.aload_n 0, 1) := by decide +kernel
theorem dX8_init_232 : decode cX8_init 232 = .ok (.bipush 32, 2) := by decide +kernel
theorem dX8_init_234 : decode cX8_init 234 = .ok (.newarray .boolean, 2) := by decide +kernel
theorem dX8_init_236 : decode cX8_init 236 = .ok (.putfield 97, 3) := by decide +kernel
theorem dX8_init_239 : decode cX8_init 239 = .ok (.aload_n 0, 1) := by decide +kernel
theorem dX8_init_240 : decode cX8_init 240 = .ok (.bipush 32, 2) := by decide +kernel
theorem dX8_init_242 : decode cX8_init 242 = .ok (.newarray .int, 2) := by decide +kernel
theorem dX8_init_244 : decode cX8_init 244 = .ok (.putfield 100, 3) := by decide +kernel
theorem dX8_init_247 : decode cX8_init 247 = .ok (.aload_n 0, 1) := by decide +kernel
theorem dX8_init_248 : decode cX8_init 248 = .ok (.bipush 32, 2) := by decide +kernel
theorem dX8_init_250 : decode cX8_init 250 = .ok (.newarray .int, 2) := by decide +kernel
theorem dX8_init_252 : decode cX8_init 252 = .ok (.putfield 103, 3) := by decide +kernel
theorem dX8_init_255 : decode cX8_init 255 = .ok (.aload_n 0, 1) := by decide +kernel
theorem dX8_init_256 : decode cX8_init 256 = .ok (.sipush 512, 3) := by decide +kernel
theorem dX8_init_259 : decode cX8_init 259 = .ok (.newarray .int, 2) := by decide +kernel
theorem dX8_init_261 : decode cX8_init 261 = .ok (.putfield 106, 3) := by decide +kernel
theorem dX8_init_264 : decode cX8_init 264 = .ok (.aload_n 0, 1) := by decide +kernel
theorem dX8_init_265 : decode cX8_init 265 = .ok (.sipush 512, 3) := by decide +kernel
theorem dX8_init_268 : decode cX8_init 268 = .ok (.newarray .int, 2) := by decide +kernel
theorem dX8_init_270 : decode cX8_init 270 = .ok (.putfield 109, 3) := by decide +kernel
theorem dX8_init_273 : decode cX8_init 273 = .ok (.aload_n 0, 1) := by decide +kernel
theorem dX8_init_274 : decode cX8_init 274 = .ok (.sipush 512, 3) := by decide +kernel
theorem dX8_init_277 : decode cX8_init 277 = .ok (.newarray .int, 2) := by decide +kernel
theorem dX8_init_279 : decode cX8_init 279 = .ok (.putfield 112, 3) := by decide +kernel
theorem dX8_init_282 : decode cX8_init 282 = .ok (.aload_n 0, 1) := by decide +kernel
theorem dX8_init_283 : decode cX8_init 283 = .ok (.sipush 512, 3) := by decide +kernel
theorem dX8_init_286 : decode cX8_init 286 = .ok (.newarray .int, 2) := by decide +kernel
theorem dX8_init_288 : decode cX8_init 288 = .ok (.putfield 115, 3) := by decide +kernel
theorem dX8_init_291 : decode cX8_init 291 = .ok (.aload_n 0, 1) := by decide +kernel
theorem dX8_init_292 : decode cX8_init 292 = .ok (.bipush 32, 2) := by decide +kernel
theorem dX8_init_294 : decode cX8_init 294 = .ok (.newarray .int, 2) := by decide +kernel
theorem dX8_init_296 : decode cX8_init 296 = .ok (.putfield 118, 3) := by decide +kernel
theorem dX8_init_299 : decode cX8_init 299 = .ok (.aload_n 0, 1) := by decide +kernel
theorem dX8_init_300 : decode cX8_init 300 = .ok (.bipush 32, 2) := by decide +kernel
theorem dX8_init_302 : decode cX8_init 302 = .ok (.newarray .int, 2) := by decide +kernel
theorem dX8_init_304 : decode cX8_init 304 = .ok (.putfield 121, 3) := by decide +kernel
theorem dX8_init_307 : decode cX8_init 307 = .ok (.aload_n 0, 1) := by decide +kernel
theorem dX8_init_308 : decode cX8_init 308 = .ok (.bipush 50, 2) := by decide +kernel
theorem dX8_init_310 : decode cX8_init 310 = .ok (.newarray .int, 2) := by decide +kernel
theorem dX8_init_312 : decode cX8_init 312 = .ok (.putfield 124, 3) := by decide +kernel
theorem dX8_init_315 : decode cX8_init 315 = .ok (.aload_n 0, 1) := by decide +kernel
theorem dX8_init_316 : decode cX8_init 316 = .ok (.bipush 50, 2) := by decide +kernel
theorem dX8_init_318 : decode cX8_init 318 = .ok (.newarray .int, 2) := by decide +kernel
theorem dX8_init_320 : decode cX8_init 320 = .ok (.putfield 127, 3) := by decide +kernel
theorem dX8_init_323 : decode cX8_init 323 = .ok (.aload_n 0, 1) := by decide +kernel
theorem dX8_init_324 : decode cX8_init 324 = .ok (.bipush 50, 2) := by decide +kernel
theorem dX8_init_326 : decode cX8_init 326 = .ok (.newarray .int, 2) := by decide +kernel
theorem dX8_init_328 : decode cX8_init 328 = .ok (.putfield 130, 3) := by decide +kernel
theorem dX8_init_331 : decode cX8_init 331 = .ok (.aload_n 0, 1) := by decide +kernel
theorem dX8_init_332 : decode cX8_init 332 = .ok (.bipush 50, 2) := by decide +kernel
theorem dX8_init_334 : decode cX8_init 334 = .ok (.newarray .int, 2) := by decide +kernel
theorem dX8_init_336 : decode cX8_init 336 = .ok (.putfield 133, 3) := by decide +kernel
theorem dX8_init_339 : decode cX8_init 339 = .ok (.return_, 1) := by decide +kernel
theorem dX8_isStage_0 : decode cX8_isStage 0 = .ok (.iload_n 1, 1) := by decide +kernel
theorem dX8_isStage_1 : decode cX8_isStage 1 = .ok (.ifCond .lt 15, 3) := by decide +kernel
theorem dX8_isStage_4 : decode cX8_isStage 4 = .ok (.iload_n 1, 1) := by decide +kernel
theorem dX8_isStage_5 : decode cX8_isStage 5 = .ok (.aload_n 0, 1) := by decide +kernel
theorem dX8_isStage_6 : decode cX8_isStage 6 = .ok (.getfield 136, 3) := by decide +kernel
theorem dX8_isStage_9 : decode cX8_isStage 9 = .ok (.if_icmp .ge 7, 3) := by decide +kernel
theorem dX8_isStage_12 : decode cX8_isStage 12 = .ok (.iconst 1, 1) := by decide +kernel
theorem dX8_isStage_13 : decode cX8_isStage 13 = .ok (.goto 4, 3) := by decide +kernel
theorem dX8_isStage_16 : decode cX8_isStage 16 = .ok (.iconst 0, 1) := by decide +kernel
theorem dX8_isStage_17 : decode cX8_isStage 17 = .ok (.ireturn, 1) := by decide +kernel
theorem dX8_in_0 : decode cX8_in 0 = .ok (.iload_n 0, 1) := by decide +kernel
theorem dX8_in_1 : decode cX8_in 1 = .ok (.iload_n 1, 1) := by decide +kernel
theorem dX8_in_2 : decode cX8_in 2 = .ok (.if_icmp .lt 12, 3) := by decide +kernel
theorem dX8_in_5 : decode cX8_in 5 = .ok (.iload_n 0, 1) := by decide +kernel
theorem dX8_in_6 : decode cX8_in 6 = .ok (.iload_n 2, 1) := by decide +kernel
theorem dX8_in_7 : decode cX8_in 7 = .ok (.if_icmp .gt 7, 3) := by decide +kernel
theorem dX8_in_10 : decode cX8_in 10 = .ok (.iconst 1, 1) := by decide +kernel
theorem dX8_in_11 : decode cX8_in 11 = .ok (.goto 4, 3) := by decide +kernel
theorem dX8_in_14 : decode cX8_in 14 = .ok (.iconst 0, 1) := by decide +kernel
theorem dX8_in_15 : decode cX8_in 15 = .ok (.ireturn, 1) := by decide +kernel
set_option maxRecDepth 20000 in
theorem ggX8_stage_X8_in : GoodIn wsX8_stage wsX8_in := goodIn_r _ [16] (by decide +kernel) (by decide +kernel)
set_option maxRecDepth 20000 in
theorem gX8_stage_X8_in : GoodIn wsX8_stage (va_wsS RX8 140 yX8_in wsX8_in) := goodIn_app (goodIn_of _ (by decide +kernel)) ggX8_stage_X8_in
theorem dX8_stage_0 : decode cX8_stage 0 = .ok (.iload_n 1, 1) := by decide +kernel
theorem dX8_stage_1 : decode cX8_stage 1 = .ok (.iconst 0, 1) := by decide +kernel
theorem dX8_stage_2 : decode cX8_stage 2 = .ok (.iconst 4, 1) := by decide +kernel
theorem dX8_stage_3 : decode cX8_stage 3 = .ok (.invokestatic 140, 3) := by decide +kernel
theorem dX8_stage_6 : decode cX8_stage 6 = .ok (.ifCond .eq 33, 3) := by decide +kernel
theorem dX8_stage_9 : decode cX8_stage 9 = .ok (.iload_n 2, 1) := by decide +kernel
theorem dX8_stage_10 : decode cX8_stage 10 = .ok (.iconst 1, 1) := by decide +kernel
theorem dX8_stage_11 : decode cX8_stage 11 = .ok (.bipush 32, 2) := by decide +kernel
theorem dX8_stage_13 : decode cX8_stage 13 = .ok (.invokestatic 140, 3) := by decide +kernel
theorem dX8_stage_16 : decode cX8_stage 16 = .ok (.ifCond .eq 23, 3) := by decide +kernel
theorem dX8_stage_19 : decode cX8_stage 19 = .ok (.iload_n 3, 1) := by decide +kernel
theorem dX8_stage_20 : decode cX8_stage 20 = .ok (.iconst 1, 1) := by decide +kernel
theorem dX8_stage_21 : decode cX8_stage 21 = .ok (.iconst 4, 1) := by decide +kernel
theorem dX8_stage_22 : decode cX8_stage 22 = .ok (.invokestatic 140, 3) := by decide +kernel
theorem dX8_stage_25 : decode cX8_stage 25 = .ok (.ifCond .eq 14, 3) := by decide +kernel
theorem dX8_stage_28 : decode cX8_stage 28 = .ok (.iload 4, 2) := by decide +kernel
theorem dX8_stage_30 : decode cX8_stage 30 = .ok (.iconst 0, 1) := by decide +kernel
theorem dX8_stage_31 : decode cX8_stage 31 = .ok (.bipush 9, 2) := by decide +kernel
theorem dX8_stage_33 : decode cX8_stage 33 = .ok (.invokestatic 140, 3) := by decide +kernel
theorem dX8_stage_36 : decode cX8_stage 36 = .ok (.ifCond .ne 5, 3) := by decide +kernel
theorem dX8_stage_39 : decode cX8_stage 39 = .ok (.iconst (-1), 1) := by decide +kernel
theorem dX8_stage_40 : decode cX8_stage 40 = .ok (.ireturn, 1) := by decide +kernel
theorem dX8_stage_41 : decode cX8_stage 41 = .ok (.aload_n 0, 1) := by decide +kernel
theorem dX8_stage_42 : decode cX8_stage 42 = .ok (.getfield 136, 3) := by decide +kernel
theorem dX8_stage_45 : decode cX8_stage 45 = .ok (.bipush 8, 2) := by decide +kernel
theorem dX8_stage_47 : decode cX8_stage 47 = .ok (.if_icmp .ne 6, 3) := by decide +kernel
theorem dX8_stage_50 : decode cX8_stage 50 = .ok (.bipush (-2), 2) := by decide +kernel
theorem dX8_stage_52 : decode cX8_stage 52 = .ok (.ireturn, 1) := by decide +kernel
theorem dX8_stage_53 : decode cX8_stage 53 = .ok (.aload_n 0, 1) := by decide +kernel
theorem dX8_stage_54 : decode cX8_stage 54 = .ok (.getfield 136, 3) := by decide +kernel
theorem dX8_stage_57 : decode cX8_stage 57 = .ok (.istore 5, 2) := by decide +kernel
theorem dX8_stage_59 : decode cX8_stage 59 = .ok (.aload_n 0, 1) := by decide +kernel
theorem dX8_stage_60 : decode cX8_stage 60 = .ok (.getfield 21, 3) := by decide +kernel
theorem dX8_stage_63 : decode cX8_stage 63 = .ok (.iload 5, 2) := by decide +kernel
theorem dX8_stage_65 : decode cX8_stage 65 = .ok (.iload_n 1, 1) := by decide +kernel
theorem dX8_stage_66 : decode cX8_stage 66 = .ok (.iastore, 1) := by decide +kernel
theorem dX8_stage_67 : decode cX8_stage 67 = .ok (.aload_n 0, 1) := by decide +kernel
theorem dX8_stage_68 : decode cX8_stage 68 = .ok (.getfield 24, 3) := by decide +kernel
theorem dX8_stage_71 : decode cX8_stage 71 = .ok (.iload 5, 2) := by decide +kernel
theorem dX8_stage_73 : decode cX8_stage 73 = .ok (.iconst (-1), 1) := by decide +kernel
theorem dX8_stage_74 : decode cX8_stage 74 = .ok (.iastore, 1) := by decide +kernel
theorem dX8_stage_75 : decode cX8_stage 75 = .ok (.aload_n 0, 1) := by decide +kernel
theorem dX8_stage_76 : decode cX8_stage 76 = .ok (.getfield 27, 3) := by decide +kernel
theorem dX8_stage_79 : decode cX8_stage 79 = .ok (.iload 5, 2) := by decide +kernel
theorem dX8_stage_81 : decode cX8_stage 81 = .ok (.iconst (-1), 1) := by decide +kernel
theorem dX8_stage_82 : decode cX8_stage 82 = .ok (.iastore, 1) := by decide +kernel
theorem dX8_stage_83 : decode cX8_stage 83 = .ok (.aload_n 0, 1) := by decide +kernel
theorem dX8_stage_84 : decode cX8_stage 84 = .ok (.getfield 30, 3) := by decide +kernel
theorem dX8_stage_87 : decode cX8_stage 87 = .ok (.iload 5, 2) := by decide +kernel
theorem dX8_stage_89 : decode cX8_stage 89 = .ok (.iload_n 2, 1) := by decide +kernel
theorem dX8_stage_90 : decode cX8_stage 90 = .ok (.iastore, 1) := by decide +kernel
theorem dX8_stage_91 : decode cX8_stage 91 = .ok (.aload_n 0, 1) := by decide +kernel
theorem dX8_stage_92 : decode cX8_stage 92 = .ok (.getfield 36, 3) := by decide +kernel
theorem dX8_stage_95 : decode cX8_stage 95 = .ok (.iload 5, 2) := by decide +kernel
theorem dX8_stage_97 : decode cX8_stage 97 = .ok (.bipush 100, 2) := by decide +kernel
theorem dX8_stage_99 : decode cX8_stage 99 = .ok (.iastore, 1) := by decide +kernel
theorem dX8_stage_100 : decode cX8_stage 100 = .ok (.aload_n 0, 1) := by decide +kernel
theorem dX8_stage_101 : decode cX8_stage 101 = .ok (.getfield 39, 3) := by decide +kernel
theorem dX8_stage_104 : decode cX8_stage 104 = .ok (.iload 5, 2) := by decide +kernel
theorem dX8_stage_106 : decode cX8_stage 106 = .ok (.bipush 100, 2) := by decide +kernel
theorem dX8_stage_108 : decode cX8_stage 108 = .ok (.iastore, 1) := by decide +kernel
theorem dX8_stage_109 : decode cX8_stage 109 = .ok (.aload_n 0, 1) := by decide +kernel
theorem dX8_stage_110 : decode cX8_stage 110 = .ok (.getfield 42, 3) := by decide +kernel
theorem dX8_stage_113 : decode cX8_stage 113 = .ok (.iload 5, 2) := by decide +kernel
theorem dX8_stage_115 : decode cX8_stage 115 = .ok (.bipush 100, 2) := by decide +kernel
theorem dX8_stage_117 : decode cX8_stage 117 = .ok (.iastore, 1) := by decide +kernel
theorem dX8_stage_118 : decode cX8_stage 118 = .ok (.aload_n 0, 1) := by decide +kernel
theorem dX8_stage_119 : decode cX8_stage 119 = .ok (.getfield 51, 3) := by decide +kernel
theorem dX8_stage_122 : decode cX8_stage 122 = .ok (.iload 5, 2) := by decide +kernel
theorem dX8_stage_124 : decode cX8_stage 124 = .ok (.iload_n 3, 1) := by decide +kernel
theorem dX8_stage_125 : decode cX8_stage 125 = .ok (.iastore, 1) := by decide +kernel
theorem dX8_stage_126 : decode cX8_stage 126 = .ok (.aload_n 0, 1) := by decide +kernel
theorem dX8_stage_127 : decode cX8_stage 127 = .ok (.getfield 57, 3) := by decide +kernel
theorem dX8_stage_130 : decode cX8_stage 130 = .ok (.iload 5, 2) := by decide +kernel
theorem dX8_stage_132 : decode cX8_stage 132 = .ok (.iload 4, 2) := by decide +kernel
theorem dX8_stage_134 : decode cX8_stage 134 = .ok (.iastore, 1) := by decide +kernel
theorem dX8_stage_135 : decode cX8_stage 135 = .ok (.aload_n 0, 1) := by decide +kernel
theorem dX8_stage_136 : decode cX8_stage 136 = .ok (.getfield 54, 3) := by decide +kernel
theorem dX8_stage_139 : decode cX8_stage 139 = .ok (.iload 5, 2) := by decide +kernel
theorem dX8_stage_141 : decode cX8_stage 141 = .ok (.iconst 1, 1) := by decide +kernel
theorem dX8_stage_142 : decode cX8_stage 142 = .ok (.iastore, 1) := by decide +kernel
theorem dX8_stage_143 : decode cX8_stage 143 = .ok (.aload_n 0, 1) := by decide +kernel
theorem dX8_stage_144 : decode cX8_stage 144 = .ok (.getfield 48, 3) := by decide +kernel
theorem dX8_stage_147 : decode cX8_stage 147 = .ok (.iload 5, 2) := by decide +kernel
theorem dX8_stage_149 : decode cX8_stage 149 = .ok (.iconst 1, 1) := by decide +kernel
theorem dX8_stage_150 : decode cX8_stage 150 = .ok (.iastore, 1) := by decide +kernel
theorem dX8_stage_151 : decode cX8_stage 151 = .ok (.aload_n 0, 1) := by decide +kernel
theorem dX8_stage_152 : decode cX8_stage 152 = .ok (.dup, 1) := by decide +kernel
theorem dX8_stage_153 : decode cX8_stage 153 = .ok (.getfield 136, 3) := by decide +kernel
theorem dX8_stage_156 : decode cX8_stage 156 = .ok (.iconst 1, 1) := by decide +kernel
theorem dX8_stage_157 : decode cX8_stage 157 = .ok (.iadd, 1) := by decide +kernel
theorem dX8_stage_158 : decode cX8_stage 158 = .ok (.putfield 136, 3) := by decide +kernel
theorem dX8_stage_161 : decode cX8_stage 161 = .ok (.iload 5, 2) := by decide +kernel
theorem dX8_stage_163 : decode cX8_stage 163 = .ok (.ireturn, 1) := by decide +kernel
set_option maxRecDepth 20000 in
theorem ggX8_targets_X8_isStage : GoodIn wsX8_targets wsX8_isStage := goodIn_r _ [7, 8, 9, 10, 11, 12, 13, 14, 15, 16, 17, 18, 19, 20, 21, 22, 23, 24, 25, 26, 27, 28, 29, 30, 31, 32, 33, 34, 35, 36, 37, 38, 39, 40, 41, 42, 43, 44, 45, 46, 47, 48, 49, 50, 51, 52, 53, 54, 55, 56] (by decide +kernel) (by decide +kernel)
set_option maxRecDepth 20000 in
theorem gX8_targets_X8_isStage : GoodIn wsX8_targets (wsV RX8 144 RX8 yX8_isStage wsX8_isStage) := goodIn_app (goodIn_of _ (by decide +kernel)) ggX8_targets_X8_isStage
theorem dX8_targets_0 : decode cX8_targets 0 = .ok (.aload_n 0, 1) := by decide +kernel
theorem dX8_targets_1 : decode cX8_targets 1 = .ok (.iload_n 1, 1) := by decide +kernel
theorem dX8_targets_2 : decode cX8_targets 2 = .ok (.invokevirtual 144, 3) := by decide +kernel
theorem dX8_targets_5 : decode cX8_targets 5 = .ok (.ifCond .eq 29, 3) := by decide +kernel
theorem dX8_targets_8 : decode cX8_targets 8 = .ok (.iload_n 2, 1) := by decide +kernel
theorem dX8_targets_9 : decode cX8_targets 9 = .ok (.iconst (-1), 1) := by decide +kernel
theorem dX8_targets_10 : decode cX8_targets 10 = .ok (.if_icmp .eq 11, 3) := by decide +kernel
theorem dX8_targets_13 : decode cX8_targets 13 = .ok (.aload_n 0, 1) := by decide +kernel
theorem dX8_targets_14 : decode cX8_targets 14 = .ok (.iload_n 2, 1) := by decide +kernel
theorem dX8_targets_15 : decode cX8_targets 15 = .ok (.invokevirtual 144, 3) := by decide +kernel
theorem dX8_targets_18 : decode cX8_targets 18 = .ok (.ifCond .eq 16, 3) := by decide +kernel
theorem dX8_targets_21 : decode cX8_targets 21 = .ok (.iload_n 3, 1) := by decide +kernel
theorem dX8_targets_22 : decode cX8_targets 22 = .ok (.iconst (-1), 1) := by decide +kernel
theorem dX8_targets_23 : decode cX8_targets 23 = .ok (.if_icmp .eq 13, 3) := by decide +kernel
theorem dX8_targets_26 : decode cX8_targets 26 = .ok (.aload_n 0, 1) := by decide +kernel
theorem dX8_targets_27 : decode cX8_targets 27 = .ok (.iload_n 3, 1) := by decide +kernel
theorem dX8_targets_28 : decode cX8_targets 28 = .ok (.invokevirtual 144, 3) := by decide +kernel
theorem dX8_targets_31 : decode cX8_targets 31 = .ok (.ifCond .ne 5, 3) := by decide +kernel
theorem dX8_targets_34 : decode cX8_targets 34 = .ok (.iconst (-1), 1) := by decide +kernel
theorem dX8_targets_35 : decode cX8_targets 35 = .ok (.ireturn, 1) := by decide +kernel
theorem dX8_targets_36 : decode cX8_targets 36 = .ok (.aload_n 0, 1) := by decide +kernel
theorem dX8_targets_37 : decode cX8_targets 37 = .ok (.getfield 24, 3) := by decide +kernel
theorem dX8_targets_40 : decode cX8_targets 40 = .ok (.iload_n 1, 1) := by decide +kernel
theorem dX8_targets_41 : decode cX8_targets 41 = .ok (.iload_n 2, 1) := by decide +kernel
theorem dX8_targets_42 : decode cX8_targets 42 = .ok (.iastore, 1) := by decide +kernel
theorem dX8_targets_43 : decode cX8_targets 43 = .ok (.aload_n 0, 1) := by decide +kernel
theorem dX8_targets_44 : decode cX8_targets 44 = .ok (.getfield 27, 3) := by decide +kernel
theorem dX8_targets_47 : decode cX8_targets 47 = .ok (.iload_n 1, 1) := by decide +kernel
theorem dX8_targets_48 : decode cX8_targets 48 = .ok (.iload_n 3, 1) := by decide +kernel
theorem dX8_targets_49 : decode cX8_targets 49 = .ok (.iastore, 1) := by decide +kernel
theorem dX8_targets_50 : decode cX8_targets 50 = .ok (.iconst 1, 1) := by decide +kernel
theorem dX8_targets_51 : decode cX8_targets 51 = .ok (.ireturn, 1) := by decide +kernel
set_option maxRecDepth 20000 in
theorem ggX8_admit_X8_isStage : GoodIn wsX8_admit wsX8_isStage := goodIn_r _ [9, 10, 14, 15, 16, 17, 18, 19, 20, 21, 22, 23, 24, 25, 26, 27, 28, 29, 30, 31, 32, 33, 34, 35, 36, 37, 38, 39, 40, 41, 42, 43, 44, 45, 46, 47, 48, 49, 50, 51, 52, 53, 54, 55, 56, 57, 58, 59, 60, 61] (by decide +kernel) (by decide +kernel)
set_option maxRecDepth 20000 in
theorem gX8_admit_X8_isStage : GoodIn wsX8_admit (wsV RX8 144 RX8 yX8_isStage wsX8_isStage) := goodIn_app (goodIn_of _ (by decide +kernel)) ggX8_admit_X8_isStage
set_option maxRecDepth 20000 in
theorem ggX8_admit_X8_in : GoodIn wsX8_admit wsX8_in := goodIn_r _ [13] (by decide +kernel) (by decide +kernel)
set_option maxRecDepth 20000 in
theorem gX8_admit_X8_in : GoodIn wsX8_admit (va_wsS RX8 140 yX8_in wsX8_in) := goodIn_app (goodIn_of _ (by decide +kernel)) ggX8_admit_X8_in
theorem dX8_admit_0 : decode cX8_admit 0 = .ok (.aload_n 0, 1) := by decide +kernel
theorem dX8_admit_1 : decode cX8_admit 1 = .ok (.iload_n 1, 1) := by decide +kernel
theorem dX8_admit_2 : decode cX8_admit 2 = .ok (.invokevirtual 144, 3) := by decide +kernel
theorem dX8_admit_5 : decode cX8_admit 5 = .ok (.ifCond .eq 35, 3) := by decide +kernel
theorem dX8_admit_8 : decode cX8_admit 8 = .ok (.iload_n 2, 1) := by decide +kernel
theorem dX8_admit_9 : decode cX8_admit 9 = .ok (.iconst 0, 1) := by decide +kernel
theorem dX8_admit_10 : decode cX8_admit 10 = .ok (.bipush 100, 2) := by decide +kernel
theorem dX8_admit_12 : decode cX8_admit 12 = .ok (.invokestatic 140, 3) := by decide +kernel
theorem dX8_admit_15 : decode cX8_admit 15 = .ok (.ifCond .eq 25, 3) := by decide +kernel
theorem dX8_admit_18 : decode cX8_admit 18 = .ok (.iload_n 3, 1) := by decide +kernel
theorem dX8_admit_19 : decode cX8_admit 19 = .ok (.iconst 1, 1) := by decide +kernel
theorem dX8_admit_20 : decode cX8_admit 20 = .ok (.bipush 100, 2) := by decide +kernel
theorem dX8_admit_22 : decode cX8_admit 22 = .ok (.invokestatic 140, 3) := by decide +kernel
theorem dX8_admit_25 : decode cX8_admit 25 = .ok (.ifCond .eq 15, 3) := by decide +kernel
theorem dX8_admit_28 : decode cX8_admit 28 = .ok (.iload 4, 2) := by decide +kernel
theorem dX8_admit_30 : decode cX8_admit 30 = .ok (.iconst 0, 1) := by decide +kernel
theorem dX8_admit_31 : decode cX8_admit 31 = .ok (.sipush 1000, 3) := by decide +kernel
theorem dX8_admit_34 : decode cX8_admit 34 = .ok (.invokestatic 140, 3) := by decide +kernel
theorem dX8_admit_37 : decode cX8_admit 37 = .ok (.ifCond .ne 5, 3) := by decide +kernel
theorem dX8_admit_40 : decode cX8_admit 40 = .ok (.iconst (-1), 1) := by decide +kernel
theorem dX8_admit_41 : decode cX8_admit 41 = .ok (.ireturn, 1) := by decide +kernel
theorem dX8_admit_42 : decode cX8_admit 42 = .ok (.aload_n 0, 1) := by decide +kernel
theorem dX8_admit_43 : decode cX8_admit 43 = .ok (.getfield 42, 3) := by decide +kernel
theorem dX8_admit_46 : decode cX8_admit 46 = .ok (.iload_n 1, 1) := by decide +kernel
theorem dX8_admit_47 : decode cX8_admit 47 = .ok (.iload_n 2, 1) := by decide +kernel
theorem dX8_admit_48 : decode cX8_admit 48 = .ok (.iastore, 1) := by decide +kernel
theorem dX8_admit_49 : decode cX8_admit 49 = .ok (.aload_n 0, 1) := by decide +kernel
theorem dX8_admit_50 : decode cX8_admit 50 = .ok (.getfield 39, 3) := by decide +kernel
theorem dX8_admit_53 : decode cX8_admit 53 = .ok (.iload_n 1, 1) := by decide +kernel
theorem dX8_admit_54 : decode cX8_admit 54 = .ok (.iload_n 3, 1) := by decide +kernel
theorem dX8_admit_55 : decode cX8_admit 55 = .ok (.iastore, 1) := by decide +kernel
theorem dX8_admit_56 : decode cX8_admit 56 = .ok (.aload_n 0, 1) := by decide +kernel
theorem dX8_admit_57 : decode cX8_admit 57 = .ok (.getfield 36, 3) := by decide +kernel
theorem dX8_admit_60 : decode cX8_admit 60 = .ok (.iload_n 1, 1) := by decide +kernel
theorem dX8_admit_61 : decode cX8_admit 61 = .ok (.aload_n 0, 1) := by decide +kernel
theorem dX8_admit_62 : decode cX8_admit 62 = .ok (.getfield 36, 3) := by decide +kernel
theorem dX8_admit_65 : decode cX8_admit 65 = .ok (.iload_n 1, 1) := by decide +kernel
theorem dX8_admit_66 : decode cX8_admit 66 = .ok (.iaload, 1) := by decide +kernel
theorem dX8_admit_67 : decode cX8_admit 67 = .ok (.iload_n 3, 1) := by decide +kernel
theorem dX8_admit_68 : decode cX8_admit 68 = .ok (.if_icmp .le 7, 3) := by decide +kernel
theorem dX8_admit_71 : decode cX8_admit 71 = .ok (.iload_n 3, 1) := by decide +kernel
theorem dX8_admit_72 : decode cX8_admit 72 = .ok (.goto 9, 3) := by decide +kernel
theorem dX8_admit_75 : decode cX8_admit 75 = .ok (.aload_n 0, 1) := by decide +kernel
theorem dX8_admit_76 : decode cX8_admit 76 = .ok (.getfield 36, 3) := by decide +kernel
theorem dX8_admit_79 : decode cX8_admit 79 = .ok (.iload_n 1, 1) := by decide +kernel
theorem dX8_admit_80 : decode cX8_admit 80 = .ok (.iaload, 1) := by decide +kernel
theorem dX8_admit_81 : decode cX8_admit 81 = .ok (.iastore, 1) := by decide +kernel
theorem dX8_admit_82 : decode cX8_admit 82 = .ok (.aload_n 0, 1) := by decide +kernel
theorem dX8_admit_83 : decode cX8_admit 83 = .ok (.getfield 45, 3) := by decide +kernel
theorem dX8_admit_86 : decode cX8_admit 86 = .ok (.iload_n 1, 1) := by decide +kernel
theorem dX8_admit_87 : decode cX8_admit 87 = .ok (.iload 4, 2) := by decide +kernel
theorem dX8_admit_89 : decode cX8_admit 89 = .ok (.iastore, 1) := by decide +kernel
theorem dX8_admit_90 : decode cX8_admit 90 = .ok (.iconst 1, 1) := by decide +kernel
theorem dX8_admit_91 : decode cX8_admit 91 = .ok (.ireturn, 1) := by decide +kernel
theorem dX8_make_0 : decode cX8_make 0 = .ok (.aload_n 0, 1) := by decide +kernel
theorem dX8_make_1 : decode cX8_make 1 = .ok (.getfield 8, 3) := by decide +kernel
theorem dX8_make_4 : decode cX8_make 4 = .ok (.aload_n 0, 1) := by decide +kernel
theorem dX8_make_5 : decode cX8_make 5 = .ok (.getfield 148, 3) := by decide +kernel
theorem dX8_make_8 : decode cX8_make 8 = .ok (.iload_n 1, 1) := by decide +kernel
theorem dX8_make_9 : decode cX8_make 9 = .ok (.iastore, 1) := by decide +kernel
theorem dX8_make_10 : decode cX8_make 10 = .ok (.aload_n 0, 1) := by decide +kernel
theorem dX8_make_11 : decode cX8_make 11 = .ok (.getfield 14, 3) := by decide +kernel
theorem dX8_make_14 : decode cX8_make 14 = .ok (.aload_n 0, 1) := by decide +kernel
theorem dX8_make_15 : decode cX8_make 15 = .ok (.getfield 148, 3) := by decide +kernel
theorem dX8_make_18 : decode cX8_make 18 = .ok (.iload_n 2, 1) := by decide +kernel
theorem dX8_make_19 : decode cX8_make 19 = .ok (.iastore, 1) := by decide +kernel
theorem dX8_make_20 : decode cX8_make 20 = .ok (.aload_n 0, 1) := by decide +kernel
theorem dX8_make_21 : decode cX8_make 21 = .ok (.dup, 1) := by decide +kernel
theorem dX8_make_22 : decode cX8_make 22 = .ok (.getfield 148, 3) := by decide +kernel
theorem dX8_make_25 : decode cX8_make 25 = .ok (.iconst 1, 1) := by decide +kernel
theorem dX8_make_26 : decode cX8_make 26 = .ok (.iadd, 1) := by decide +kernel
theorem dX8_make_27 : decode cX8_make 27 = .ok (.putfield 148, 3) := by decide +kernel
theorem dX8_make_30 : decode cX8_make 30 = .ok (.aload_n 0, 1) := by decide +kernel
theorem dX8_make_31 : decode cX8_make 31 = .ok (.getfield 148, 3) := by decide +kernel
theorem dX8_make_34 : decode cX8_make 34 = .ok (.iconst 1, 1) := by decide +kernel
theorem dX8_make_35 : decode cX8_make 35 = .ok (.isub, 1) := by decide +kernel
theorem dX8_make_36 : decode cX8_make 36 = .ok (.ireturn, 1) := by decide +kernel
theorem dX8_refusal_0 : decode cX8_refusal 0 = .ok (.aload_n 0, 1) := by decide +kernel
theorem dX8_refusal_1 : decode cX8_refusal 1 = .ok (.getfield 60, 3) := by decide +kernel
theorem dX8_refusal_4 : decode cX8_refusal 4 = .ok (.iload_n 1, 1) := by decide +kernel
theorem dX8_refusal_5 : decode cX8_refusal 5 = .ok (.baload, 1) := by decide +kernel
theorem dX8_refusal_6 : decode cX8_refusal 6 = .ok (.ifCond .eq 8, 3) := by decide +kernel
theorem dX8_refusal_9 : decode cX8_refusal 9 = .ok (.bipush (-3), 2) := by decide +kernel
theorem dX8_refusal_11 : decode cX8_refusal 11 = .ok (.goto 45, 3) := by decide +kernel
theorem dX8_refusal_14 : decode cX8_refusal 14 = .ok (.aload_n 0, 1) := by decide +kernel
theorem dX8_refusal_15 : decode cX8_refusal 15 = .ok (.getfield 73, 3) := by decide +kernel
theorem dX8_refusal_18 : decode cX8_refusal 18 = .ok (.iload_n 1, 1) := by decide +kernel
theorem dX8_refusal_19 : decode cX8_refusal 19 = .ok (.iaload, 1) := by decide +kernel
theorem dX8_refusal_20 : decode cX8_refusal 20 = .ok (.aload_n 0, 1) := by decide +kernel
theorem dX8_refusal_21 : decode cX8_refusal 21 = .ok (.getfield 33, 3) := by decide +kernel
theorem dX8_refusal_24 : decode cX8_refusal 24 = .ok (.iload_n 1, 1) := by decide +kernel
theorem dX8_refusal_25 : decode cX8_refusal 25 = .ok (.iaload, 1) := by decide +kernel
theorem dX8_refusal_26 : decode cX8_refusal 26 = .ok (.iadd, 1) := by decide +kernel
theorem dX8_refusal_27 : decode cX8_refusal 27 = .ok (.aload_n 0, 1) := by decide +kernel
theorem dX8_refusal_28 : decode cX8_refusal 28 = .ok (.getfield 30, 3) := by decide +kernel
theorem dX8_refusal_31 : decode cX8_refusal 31 = .ok (.iload_n 1, 1) := by decide +kernel
theorem dX8_refusal_32 : decode cX8_refusal 32 = .ok (.iaload, 1) := by decide +kernel
theorem dX8_refusal_33 : decode cX8_refusal 33 = .ok (.if_icmp .lt 8, 3) := by decide +kernel
theorem dX8_refusal_36 : decode cX8_refusal 36 = .ok (.bipush (-2), 2) := by decide +kernel
theorem dX8_refusal_38 : decode cX8_refusal 38 = .ok (.goto 18, 3) := by decide +kernel
theorem dX8_refusal_41 : decode cX8_refusal 41 = .ok (.aload_n 0, 1) := by decide +kernel
theorem dX8_refusal_42 : decode cX8_refusal 42 = .ok (.getfield 36, 3) := by decide +kernel
theorem dX8_refusal_45 : decode cX8_refusal 45 = .ok (.iload_n 1, 1) := by decide +kernel
theorem dX8_refusal_46 : decode cX8_refusal 46 = .ok (.iaload, 1) := by decide +kernel
theorem dX8_refusal_47 : decode cX8_refusal 47 = .ok (.ifCond .ne 8, 3) := by decide +kernel
theorem dX8_refusal_50 : decode cX8_refusal 50 = .ok (.bipush (-4), 2) := by decide +kernel
theorem dX8_refusal_52 : decode cX8_refusal 52 = .ok (.goto 4, 3) := by decide +kernel
theorem dX8_refusal_55 : decode cX8_refusal 55 = .ok (.iconst 0, 1) := by decide +kernel
theorem dX8_refusal_56 : decode cX8_refusal 56 = .ok (.ireturn, 1) := by decide +kernel
theorem dX8_stand_0 : decode cX8_stand 0 = .ok (.aload_n 0, 1) := by decide +kernel
theorem dX8_stand_1 : decode cX8_stand 1 = .ok (.getfield 76, 3) := by decide +kernel
theorem dX8_stand_4 : decode cX8_stand 4 = .ok (.bipush 32, 2) := by decide +kernel
theorem dX8_stand_6 : decode cX8_stand 6 = .ok (.iload_n 1, 1) := by decide +kernel
theorem dX8_stand_7 : decode cX8_stand 7 = .ok (.imul, 1) := by decide +kernel
theorem dX8_stand_8 : decode cX8_stand 8 = .ok (.aload_n 0, 1) := by decide +kernel
theorem dX8_stand_9 : decode cX8_stand 9 = .ok (.getfield 73, 3) := by decide +kernel
theorem dX8_stand_12 : decode cX8_stand 12 = .ok (.iload_n 1, 1) := by decide +kernel
theorem dX8_stand_13 : decode cX8_stand 13 = .ok (.iaload, 1) := by decide +kernel
theorem dX8_stand_14 : decode cX8_stand 14 = .ok (.iadd, 1) := by decide +kernel
theorem dX8_stand_15 : decode cX8_stand 15 = .ok (.iload_n 2, 1) := by decide +kernel
theorem dX8_stand_16 : decode cX8_stand 16 = .ok (.iastore, 1) := by decide +kernel
theorem dX8_stand_17 : decode cX8_stand 17 = .ok (.aload_n 0, 1) := by decide +kernel
theorem dX8_stand_18 : decode cX8_stand 18 = .ok (.getfield 73, 3) := by decide +kernel
theorem dX8_stand_21 : decode cX8_stand 21 = .ok (.iload_n 1, 1) := by decide +kernel
theorem dX8_stand_22 : decode cX8_stand 22 = .ok (.dup2, 1) := by decide +kernel
theorem dX8_stand_23 : decode cX8_stand 23 = .ok (.iaload, 1) := by decide +kernel
theorem dX8_stand_24 : decode cX8_stand 24 = .ok (.iconst 1, 1) := by decide +kernel
theorem dX8_stand_25 : decode cX8_stand 25 = .ok (.iadd, 1) := by decide +kernel
theorem dX8_stand_26 : decode cX8_stand 26 = .ok (.iastore, 1) := by decide +kernel
theorem dX8_stand_27 : decode cX8_stand 27 = .ok (.return_, 1) := by decide +kernel
set_option maxRecDepth 20000 in
theorem ggX8_offer_X8_refusal : GoodIn wsX8_offer wsX8_refusal := goodIn_r _ [7, 8, 9, 10, 11, 2, 17, 18, 19, 20, 21, 22, 23, 24, 25, 26, 27, 28, 29, 30, 31, 32, 33, 34, 35, 36, 37, 38, 39, 40, 41, 42, 43, 44, 45, 46, 47, 48, 49, 50, 51, 52, 53, 54, 55, 56, 57, 58, 59, 60, 61, 62, 63, 64] (by decide +kernel) (by decide +kernel)
set_option maxRecDepth 20000 in
theorem gX8_offer_X8_refusal : GoodIn wsX8_offer (wsV RX8 151 RX8 yX8_refusal wsX8_refusal) := goodIn_app (goodIn_of _ (by decide +kernel)) ggX8_offer_X8_refusal
set_option maxRecDepth 20000 in
theorem ggX8_offer_X8_stand : GoodIn wsX8_offer wsX8_stand := goodIn_r _ [15, 16, 9, 17, 18, 19, 20, 21, 22, 23, 24, 25, 26, 27, 28, 29, 30, 31, 32, 33, 34, 35, 36, 37, 38, 39, 40, 41, 42, 43, 44, 45, 46, 47, 48, 49, 50, 51, 52, 53, 54, 55, 56, 57, 58, 59, 60, 61, 62, 63, 64] (by decide +kernel) (by decide +kernel)
set_option maxRecDepth 20000 in
theorem gX8_offer_X8_stand : GoodIn wsX8_offer (wsV RX8 155 RX8 yX8_stand wsX8_stand) := goodIn_app (goodIn_of _ (by decide +kernel)) ggX8_offer_X8_stand
theorem dX8_offer_0 : decode cX8_offer 0 = .ok (.aload_n 0, 1) := by decide +kernel
theorem dX8_offer_1 : decode cX8_offer 1 = .ok (.iload_n 1, 1) := by decide +kernel
theorem dX8_offer_2 : decode cX8_offer 2 = .ok (.invokevirtual 151, 3) := by decide +kernel
theorem dX8_offer_5 : decode cX8_offer 5 = .ok (.ifCond .ge 15, 3) := by decide +kernel
theorem dX8_offer_8 : decode cX8_offer 8 = .ok (.aload_n 0, 1) := by decide +kernel
theorem dX8_offer_9 : decode cX8_offer 9 = .ok (.getfield 64, 3) := by decide +kernel
theorem dX8_offer_12 : decode cX8_offer 12 = .ok (.iload_n 1, 1) := by decide +kernel
theorem dX8_offer_13 : decode cX8_offer 13 = .ok (.dup2, 1) := by decide +kernel
theorem dX8_offer_14 : decode cX8_offer 14 = .ok (.iaload, 1) := by decide +kernel
theorem dX8_offer_15 : decode cX8_offer 15 = .ok (.iconst 1, 1) := by decide +kernel
theorem dX8_offer_16 : decode cX8_offer 16 = .ok (.iadd, 1) := by decide +kernel
theorem dX8_offer_17 : decode cX8_offer 17 = .ok (.iastore, 1) := by decide +kernel
theorem dX8_offer_18 : decode cX8_offer 18 = .ok (.iconst 0, 1) := by decide +kernel
theorem dX8_offer_19 : decode cX8_offer 19 = .ok (.ireturn, 1) := by decide +kernel
theorem dX8_offer_20 : decode cX8_offer 20 = .ok (.aload_n 0, 1) := by decide +kernel
theorem dX8_offer_21 : decode cX8_offer 21 = .ok (.iload_n 1, 1) := by decide +kernel
theorem dX8_offer_22 : decode cX8_offer 22 = .ok (.iload_n 2, 1) := by decide +kernel
theorem dX8_offer_23 : decode cX8_offer 23 = .ok (.invokevirtual 155, 3) := by decide +kernel
theorem dX8_offer_26 : decode cX8_offer 26 = .ok (.aload_n 0, 1) := by decide +kernel
theorem dX8_offer_27 : decode cX8_offer 27 = .ok (.getfield 36, 3) := by decide +kernel
theorem dX8_offer_30 : decode cX8_offer 30 = .ok (.iload_n 1, 1) := by decide +kernel
theorem dX8_offer_31 : decode cX8_offer 31 = .ok (.dup2, 1) := by decide +kernel
theorem dX8_offer_32 : decode cX8_offer 32 = .ok (.iaload, 1) := by decide +kernel
theorem dX8_offer_33 : decode cX8_offer 33 = .ok (.iconst 1, 1) := by decide +kernel
theorem dX8_offer_34 : decode cX8_offer 34 = .ok (.isub, 1) := by decide +kernel
theorem dX8_offer_35 : decode cX8_offer 35 = .ok (.iastore, 1) := by decide +kernel
theorem dX8_offer_36 : decode cX8_offer 36 = .ok (.iconst 1, 1) := by decide +kernel
theorem dX8_offer_37 : decode cX8_offer 37 = .ok (.ireturn, 1) := by decide +kernel
set_option maxRecDepth 20000 in
theorem ggX8_put_X8_isStage : GoodIn wsX8_put wsX8_isStage := goodIn_r _ [8, 9, 34, 35, 36, 37, 38, 39, 40, 41, 42, 43, 44, 45, 46, 47, 48, 49, 50, 51, 52, 53, 54, 55, 56, 57, 58, 59, 60, 61, 62, 63, 64, 65, 66, 67, 68, 69, 70, 71, 72, 73, 74, 75, 76, 77, 78, 79, 80, 81] (by decide +kernel) (by decide +kernel)
set_option maxRecDepth 20000 in
theorem gX8_put_X8_isStage : GoodIn wsX8_put (wsV RX8 144 RX8 yX8_isStage wsX8_isStage) := goodIn_app (goodIn_of _ (by decide +kernel)) ggX8_put_X8_isStage
set_option maxRecDepth 20000 in
theorem ggX8_put_X8_refusal : GoodIn wsX8_put wsX8_refusal := goodIn_r _ [13, 14, 15, 16, 17, 18, 34, 35, 36, 37, 38, 39, 40, 41, 42, 43, 44, 45, 46, 47, 48, 49, 50, 51, 52, 53, 54, 55, 56, 57, 58, 59, 60, 61, 62, 63, 64, 65, 66, 67, 68, 69, 70, 71, 72, 73, 74, 75, 76, 77, 78, 79, 80, 81] (by decide +kernel) (by decide +kernel)
set_option maxRecDepth 20000 in
theorem gX8_put_X8_refusal : GoodIn wsX8_put (wsV RX8 151 RX8 yX8_refusal wsX8_refusal) := goodIn_app (goodIn_of _ (by decide +kernel)) ggX8_put_X8_refusal
set_option maxRecDepth 20000 in
theorem ggX8_put_X8_offer : GoodIn wsX8_put wsX8_offer := goodIn_r _ [22, 1, 18, 10, 11, 12, 7, 13, 14, 15, 16, 17, 23, 24, 25, 26, 27, 34, 35, 36, 37, 38, 39, 40, 41, 42, 43, 44, 45, 46, 47, 48, 49, 50, 51, 52, 53, 54, 55, 56, 57, 58, 59, 60, 61, 62, 63, 64, 65, 66, 67, 68, 69, 70, 71, 72, 73, 74, 75, 76, 77, 78, 79, 80, 81] (by decide +kernel) (by decide +kernel)
set_option maxRecDepth 20000 in
theorem gX8_put_X8_offer : GoodIn wsX8_put (wsV RX8 159 RX8 yX8_offer wsX8_offer) := goodIn_app (goodIn_of _ (by decide +kernel)) ggX8_put_X8_offer
set_option maxRecDepth 20000 in
theorem ggX8_put_X8_make : GoodIn wsX8_put wsX8_make := goodIn_r _ [31, 32, 2, 33, 34, 35, 36, 37, 38, 39, 40, 41, 42, 43, 44, 45, 46, 47, 48, 49, 50, 51, 52, 53, 54, 55, 56, 57, 58, 59, 60, 61, 62, 63, 64, 65, 66, 67, 68, 69, 70, 71, 72, 73, 74, 75, 76, 77, 78, 79, 80, 81] (by decide +kernel) (by decide +kernel)
set_option maxRecDepth 20000 in
theorem gX8_put_X8_make : GoodIn wsX8_put (wsV RX8 166 RX8 yX8_make wsX8_make) := goodIn_app (goodIn_of _ (by decide +kernel)) ggX8_put_X8_make
theorem dX8_put_0 : decode cX8_put 0 = .ok (.aload_n 0, 1) := by decide +kernel
theorem dX8_put_1 : decode cX8_put 1 = .ok (.iload_n 1, 1) := by decide +kernel
theorem dX8_put_2 : decode cX8_put 2 = .ok (.invokevirtual 144, 3) := by decide +kernel
theorem dX8_put_5 : decode cX8_put 5 = .ok (.ifCond .ne 5, 3) := by decide +kernel
theorem dX8_put_8 : decode cX8_put 8 = .ok (.iconst (-1), 1) := by decide +kernel
theorem dX8_put_9 : decode cX8_put 9 = .ok (.ireturn, 1) := by decide +kernel
theorem dX8_put_10 : decode cX8_put 10 = .ok (.aload_n 0, 1) := by decide +kernel
theorem dX8_put_11 : decode cX8_put 11 = .ok (.iload_n 1, 1) := by decide +kernel
theorem dX8_put_12 : decode cX8_put 12 = .ok (.invokevirtual 151, 3) := by decide +kernel
theorem dX8_put_15 : decode cX8_put 15 = .ok (.istore_n 3, 1) := by decide +kernel
theorem dX8_put_16 : decode cX8_put 16 = .ok (.iload_n 3, 1) := by decide +kernel
theorem dX8_put_17 : decode cX8_put 17 = .ok (.ifCond .ge 15, 3) := by decide +kernel
theorem dX8_put_20 : decode cX8_put 20 = .ok (.aload_n 0, 1) := by decide +kernel
theorem dX8_put_21 : decode cX8_put 21 = .ok (.getfield 64, 3) := by decide +kernel
theorem dX8_put_24 : decode cX8_put 24 = .ok (.iload_n 1, 1) := by decide +kernel
theorem dX8_put_25 : decode cX8_put 25 = .ok (.dup2, 1) := by decide +kernel
theorem dX8_put_26 : decode cX8_put 26 = .ok (.iaload, 1) := by decide +kernel
theorem dX8_put_27 : decode cX8_put 27 = .ok (.iconst 1, 1) := by decide +kernel
theorem dX8_put_28 : decode cX8_put 28 = .ok (.iadd, 1) := by decide +kernel
theorem dX8_put_29 : decode cX8_put 29 = .ok (.iastore, 1) := by decide +kernel
theorem dX8_put_30 : decode cX8_put 30 = .ok (.iload_n 3, 1) := by decide +kernel
theorem dX8_put_31 : decode cX8_put 31 = .ok (.ireturn, 1) := by decide +kernel
theorem dX8_put_32 : decode cX8_put 32 = .ok (.aload_n 0, 1) := by decide +kernel
theorem dX8_put_33 : decode cX8_put 33 = .ok (.iload_n 1, 1) := by decide +kernel
theorem dX8_put_34 : decode cX8_put 34 = .ok (.aload_n 0, 1) := by decide +kernel
theorem dX8_put_35 : decode cX8_put 35 = .ok (.getfield 148, 3) := by decide +kernel
theorem dX8_put_38 : decode cX8_put 38 = .ok (.invokevirtual 159, 3) := by decide +kernel
theorem dX8_put_41 : decode cX8_put 41 = .ok (.istore 4, 2) := by decide +kernel
theorem dX8_put_43 : decode cX8_put 43 = .ok (.aload_n 0, 1) := by decide +kernel
theorem dX8_put_44 : decode cX8_put 44 = .ok (.iload_n 2, 1) := by decide +kernel
theorem dX8_put_45 : decode cX8_put 45 = .ok (.aload_n 0, 1) := by decide +kernel
theorem dX8_put_46 : decode cX8_put 46 = .ok (.getfield 163, 3) := by decide +kernel
theorem dX8_put_49 : decode cX8_put 49 = .ok (.invokevirtual 166, 3) := by decide +kernel
theorem dX8_put_52 : decode cX8_put 52 = .ok (.ireturn, 1) := by decide +kernel
set_option maxRecDepth 20000 in
theorem ggX8_prepare_X8_isStage : GoodIn wsX8_prepare wsX8_isStage := goodIn_r _ [9, 10, 14, 15, 16, 17, 18, 19, 20, 21, 22, 23, 24, 25, 26, 27, 28, 29, 30, 31, 32, 33, 34, 35, 36, 37, 38, 39, 40, 41, 42, 43, 44, 45, 46, 47, 48, 49, 50, 51, 52, 53, 54, 55, 56, 57, 58, 59, 60, 61] (by decide +kernel) (by decide +kernel)
set_option maxRecDepth 20000 in
theorem gX8_prepare_X8_isStage : GoodIn wsX8_prepare (wsV RX8 144 RX8 yX8_isStage wsX8_isStage) := goodIn_app (goodIn_of _ (by decide +kernel)) ggX8_prepare_X8_isStage
set_option maxRecDepth 20000 in
theorem ggX8_prepare_X8_in : GoodIn wsX8_prepare wsX8_in := goodIn_r _ [13] (by decide +kernel) (by decide +kernel)
set_option maxRecDepth 20000 in
theorem gX8_prepare_X8_in : GoodIn wsX8_prepare (va_wsS RX8 140 yX8_in wsX8_in) := goodIn_app (goodIn_of _ (by decide +kernel)) ggX8_prepare_X8_in
theorem dX8_prepare_0 : decode cX8_prepare 0 = .ok (.aload_n 0, 1) := by decide +kernel
theorem dX8_prepare_1 : decode cX8_prepare 1 = .ok (.iload_n 1, 1) := by decide +kernel
theorem dX8_prepare_2 : decode cX8_prepare 2 = .ok (.invokevirtual 144, 3) := by decide +kernel
theorem dX8_prepare_5 : decode cX8_prepare 5 = .ok (.ifCond .eq 13, 3) := by decide +kernel
theorem dX8_prepare_8 : decode cX8_prepare 8 = .ok (.iload_n 2, 1) := by decide +kernel
theorem dX8_prepare_9 : decode cX8_prepare 9 = .ok (.iconst 1, 1) := by decide +kernel
theorem dX8_prepare_10 : decode cX8_prepare 10 = .ok (.bipush 8, 2) := by decide +kernel
theorem dX8_prepare_12 : decode cX8_prepare 12 = .ok (.invokestatic 140, 3) := by decide +kernel
theorem dX8_prepare_15 : decode cX8_prepare 15 = .ok (.ifCond .ne 5, 3) := by decide +kernel
theorem dX8_prepare_18 : decode cX8_prepare 18 = .ok (.iconst (-1), 1) := by decide +kernel
theorem dX8_prepare_19 : decode cX8_prepare 19 = .ok (.ireturn, 1) := by decide +kernel
theorem dX8_prepare_20 : decode cX8_prepare 20 = .ok (.aload_n 0, 1) := by decide +kernel
theorem dX8_prepare_21 : decode cX8_prepare 21 = .ok (.getfield 60, 3) := by decide +kernel
theorem dX8_prepare_24 : decode cX8_prepare 24 = .ok (.iload_n 1, 1) := by decide +kernel
theorem dX8_prepare_25 : decode cX8_prepare 25 = .ok (.baload, 1) := by decide +kernel
theorem dX8_prepare_26 : decode cX8_prepare 26 = .ok (.ifCond .eq 6, 3) := by decide +kernel
theorem dX8_prepare_29 : decode cX8_prepare 29 = .ok (.bipush (-3), 2) := by decide +kernel
theorem dX8_prepare_31 : decode cX8_prepare 31 = .ok (.ireturn, 1) := by decide +kernel
theorem dX8_prepare_32 : decode cX8_prepare 32 = .ok (.aload_n 0, 1) := by decide +kernel
theorem dX8_prepare_33 : decode cX8_prepare 33 = .ok (.getfield 73, 3) := by decide +kernel
theorem dX8_prepare_36 : decode cX8_prepare 36 = .ok (.iload_n 1, 1) := by decide +kernel
theorem dX8_prepare_37 : decode cX8_prepare 37 = .ok (.iaload, 1) := by decide +kernel
theorem dX8_prepare_38 : decode cX8_prepare 38 = .ok (.aload_n 0, 1) := by decide +kernel
theorem dX8_prepare_39 : decode cX8_prepare 39 = .ok (.getfield 33, 3) := by decide +kernel
theorem dX8_prepare_42 : decode cX8_prepare 42 = .ok (.iload_n 1, 1) := by decide +kernel
theorem dX8_prepare_43 : decode cX8_prepare 43 = .ok (.iaload, 1) := by decide +kernel
theorem dX8_prepare_44 : decode cX8_prepare 44 = .ok (.iadd, 1) := by decide +kernel
theorem dX8_prepare_45 : decode cX8_prepare 45 = .ok (.iload_n 2, 1) := by decide +kernel
theorem dX8_prepare_46 : decode cX8_prepare 46 = .ok (.iadd, 1) := by decide +kernel
theorem dX8_prepare_47 : decode cX8_prepare 47 = .ok (.aload_n 0, 1) := by decide +kernel
theorem dX8_prepare_48 : decode cX8_prepare 48 = .ok (.getfield 30, 3) := by decide +kernel
theorem dX8_prepare_51 : decode cX8_prepare 51 = .ok (.iload_n 1, 1) := by decide +kernel
theorem dX8_prepare_52 : decode cX8_prepare 52 = .ok (.iaload, 1) := by decide +kernel
theorem dX8_prepare_53 : decode cX8_prepare 53 = .ok (.if_icmp .le 6, 3) := by decide +kernel
theorem dX8_prepare_56 : decode cX8_prepare 56 = .ok (.bipush (-2), 2) := by decide +kernel
theorem dX8_prepare_58 : decode cX8_prepare 58 = .ok (.ireturn, 1) := by decide +kernel
theorem dX8_prepare_59 : decode cX8_prepare 59 = .ok (.aload_n 0, 1) := by decide +kernel
theorem dX8_prepare_60 : decode cX8_prepare 60 = .ok (.getfield 33, 3) := by decide +kernel
theorem dX8_prepare_63 : decode cX8_prepare 63 = .ok (.iload_n 1, 1) := by decide +kernel
theorem dX8_prepare_64 : decode cX8_prepare 64 = .ok (.dup2, 1) := by decide +kernel
theorem dX8_prepare_65 : decode cX8_prepare 65 = .ok (.iaload, 1) := by decide +kernel
theorem dX8_prepare_66 : decode cX8_prepare 66 = .ok (.iload_n 2, 1) := by decide +kernel
theorem dX8_prepare_67 : decode cX8_prepare 67 = .ok (.iadd, 1) := by decide +kernel
theorem dX8_prepare_68 : decode cX8_prepare 68 = .ok (.iastore, 1) := by decide +kernel
theorem dX8_prepare_69 : decode cX8_prepare 69 = .ok (.iconst 1, 1) := by decide +kernel
theorem dX8_prepare_70 : decode cX8_prepare 70 = .ok (.ireturn, 1) := by decide +kernel
set_option maxRecDepth 20000 in
theorem ggX8_commit_X8_isStage : GoodIn wsX8_commit wsX8_isStage := goodIn_r _ [9, 10, 23, 24, 25, 26, 27, 28, 29, 30, 31, 32, 33, 34, 35, 36, 37, 38, 39, 40, 41, 42, 43, 44, 45, 46, 47, 48, 49, 50, 51, 52, 53, 54, 55, 56, 57, 58, 59, 60, 61, 62, 63, 64, 65, 66, 67, 68, 69, 70] (by decide +kernel) (by decide +kernel)
set_option maxRecDepth 20000 in
theorem gX8_commit_X8_isStage : GoodIn wsX8_commit (wsV RX8 144 RX8 yX8_isStage wsX8_isStage) := goodIn_app (goodIn_of _ (by decide +kernel)) ggX8_commit_X8_isStage
set_option maxRecDepth 20000 in
theorem ggX8_commit_X8_make : GoodIn wsX8_commit wsX8_make := goodIn_r _ [14, 15, 3, 16, 23, 24, 25, 26, 27, 28, 29, 30, 31, 32, 33, 34, 35, 36, 37, 38, 39, 40, 41, 42, 43, 44, 45, 46, 47, 48, 49, 50, 51, 52, 53, 54, 55, 56, 57, 58, 59, 60, 61, 62, 63, 64, 65, 66, 67, 68, 69, 70] (by decide +kernel) (by decide +kernel)
set_option maxRecDepth 20000 in
theorem gX8_commit_X8_make : GoodIn wsX8_commit (wsV RX8 166 RX8 yX8_make wsX8_make) := goodIn_app (goodIn_of _ (by decide +kernel)) ggX8_commit_X8_make
set_option maxRecDepth 20000 in
theorem ggX8_commit_X8_stand : GoodIn wsX8_commit wsX8_stand := goodIn_r _ [20, 21, 22, 23, 24, 25, 26, 27, 28, 29, 30, 31, 32, 33, 34, 35, 36, 37, 38, 39, 40, 41, 42, 43, 44, 45, 46, 47, 48, 49, 50, 51, 52, 53, 54, 55, 56, 57, 58, 59, 60, 61, 62, 63, 64, 65, 66, 67, 68, 69, 70] (by decide +kernel) (by decide +kernel)
set_option maxRecDepth 20000 in
theorem gX8_commit_X8_stand : GoodIn wsX8_commit (wsV RX8 155 RX8 yX8_stand wsX8_stand) := goodIn_app (goodIn_of _ (by decide +kernel)) ggX8_commit_X8_stand
theorem dX8_commit_0 : decode cX8_commit 0 = .ok (.aload_n 0, 1) := by decide +kernel
theorem dX8_commit_1 : decode cX8_commit 1 = .ok (.iload_n 1, 1) := by decide +kernel
theorem dX8_commit_2 : decode cX8_commit 2 = .ok (.invokevirtual 144, 3) := by decide +kernel
theorem dX8_commit_5 : decode cX8_commit 5 = .ok (.ifCond .eq 12, 3) := by decide +kernel
theorem dX8_commit_8 : decode cX8_commit 8 = .ok (.aload_n 0, 1) := by decide +kernel
theorem dX8_commit_9 : decode cX8_commit 9 = .ok (.getfield 33, 3) := by decide +kernel
theorem dX8_commit_12 : decode cX8_commit 12 = .ok (.iload_n 1, 1) := by decide +kernel
theorem dX8_commit_13 : decode cX8_commit 13 = .ok (.iaload, 1) := by decide +kernel
theorem dX8_commit_14 : decode cX8_commit 14 = .ok (.ifCond .ne 5, 3) := by decide +kernel
theorem dX8_commit_17 : decode cX8_commit 17 = .ok (.iconst (-1), 1) := by decide +kernel
theorem dX8_commit_18 : decode cX8_commit 18 = .ok (.ireturn, 1) := by decide +kernel
theorem dX8_commit_19 : decode cX8_commit 19 = .ok (.aload_n 0, 1) := by decide +kernel
theorem dX8_commit_20 : decode cX8_commit 20 = .ok (.getfield 60, 3) := by decide +kernel
theorem dX8_commit_23 : decode cX8_commit 23 = .ok (.iload_n 1, 1) := by decide +kernel
theorem dX8_commit_24 : decode cX8_commit 24 = .ok (.baload, 1) := by decide +kernel
theorem dX8_commit_25 : decode cX8_commit 25 = .ok (.ifCond .eq 6, 3) := by decide +kernel
theorem dX8_commit_28 : decode cX8_commit 28 = .ok (.bipush (-3), 2) := by decide +kernel
theorem dX8_commit_30 : decode cX8_commit 30 = .ok (.ireturn, 1) := by decide +kernel
theorem dX8_commit_31 : decode cX8_commit 31 = .ok (.aload_n 0, 1) := by decide +kernel
theorem dX8_commit_32 : decode cX8_commit 32 = .ok (.getfield 148, 3) := by decide +kernel
theorem dX8_commit_35 : decode cX8_commit 35 = .ok (.istore_n 3, 1) := by decide +kernel
theorem dX8_commit_36 : decode cX8_commit 36 = .ok (.aload_n 0, 1) := by decide +kernel
theorem dX8_commit_37 : decode cX8_commit 37 = .ok (.getfield 33, 3) := by decide +kernel
theorem dX8_commit_40 : decode cX8_commit 40 = .ok (.iload_n 1, 1) := by decide +kernel
theorem dX8_commit_41 : decode cX8_commit 41 = .ok (.iaload, 1) := by decide +kernel
theorem dX8_commit_42 : decode cX8_commit 42 = .ok (.ifCond .le 30, 3) := by decide +kernel
theorem dX8_commit_45 : decode cX8_commit 45 = .ok (.aload_n 0, 1) := by decide +kernel
theorem dX8_commit_46 : decode cX8_commit 46 = .ok (.iload_n 1, 1) := by decide +kernel
theorem dX8_commit_47 : decode cX8_commit 47 = .ok (.aload_n 0, 1) := by decide +kernel
theorem dX8_commit_48 : decode cX8_commit 48 = .ok (.iload_n 2, 1) := by decide +kernel
theorem dX8_commit_49 : decode cX8_commit 49 = .ok (.aload_n 0, 1) := by decide +kernel
theorem dX8_commit_50 : decode cX8_commit 50 = .ok (.getfield 163, 3) := by decide +kernel
theorem dX8_commit_53 : decode cX8_commit 53 = .ok (.invokevirtual 166, 3) := by decide +kernel
theorem dX8_commit_56 : decode cX8_commit 56 = .ok (.invokevirtual 155, 3) := by decide +kernel
theorem dX8_commit_59 : decode cX8_commit 59 = .ok (.aload_n 0, 1) := by decide +kernel
theorem dX8_commit_60 : decode cX8_commit 60 = .ok (.getfield 33, 3) := by decide +kernel
theorem dX8_commit_63 : decode cX8_commit 63 = .ok (.iload_n 1, 1) := by decide +kernel
theorem dX8_commit_64 : decode cX8_commit 64 = .ok (.dup2, 1) := by decide +kernel
theorem dX8_commit_65 : decode cX8_commit 65 = .ok (.iaload, 1) := by decide +kernel
theorem dX8_commit_66 : decode cX8_commit 66 = .ok (.iconst 1, 1) := by decide +kernel
theorem dX8_commit_67 : decode cX8_commit 67 = .ok (.isub, 1) := by decide +kernel
theorem dX8_commit_68 : decode cX8_commit 68 = .ok (.iastore, 1) := by decide +kernel
theorem dX8_commit_69 : decode cX8_commit 69 = .ok (.goto (-33), 3) := by decide +kernel
theorem dX8_commit_72 : decode cX8_commit 72 = .ok (.iload_n 3, 1) := by decide +kernel
theorem dX8_commit_73 : decode cX8_commit 73 = .ok (.ireturn, 1) := by decide +kernel
set_option maxRecDepth 20000 in
theorem ggX8_abort_X8_isStage : GoodIn wsX8_abort wsX8_isStage := goodIn_r _ [6, 7, 8, 9, 10, 11, 12, 13, 14, 15, 16, 17, 18, 19, 20, 21, 22, 23, 24, 25, 26, 27, 28, 29, 30, 31, 32, 33, 34, 35, 36, 37, 38, 39, 40, 41, 42, 43, 44, 45, 46, 47, 48, 49, 50, 51, 52, 53, 54, 55] (by decide +kernel) (by decide +kernel)
set_option maxRecDepth 20000 in
theorem gX8_abort_X8_isStage : GoodIn wsX8_abort (wsV RX8 144 RX8 yX8_isStage wsX8_isStage) := goodIn_app (goodIn_of _ (by decide +kernel)) ggX8_abort_X8_isStage
theorem dX8_abort_0 : decode cX8_abort 0 = .ok (.aload_n 0, 1) := by decide +kernel
theorem dX8_abort_1 : decode cX8_abort 1 = .ok (.iload_n 1, 1) := by decide +kernel
theorem dX8_abort_2 : decode cX8_abort 2 = .ok (.invokevirtual 144, 3) := by decide +kernel
theorem dX8_abort_5 : decode cX8_abort 5 = .ok (.ifCond .ne 5, 3) := by decide +kernel
theorem dX8_abort_8 : decode cX8_abort 8 = .ok (.iconst (-1), 1) := by decide +kernel
theorem dX8_abort_9 : decode cX8_abort 9 = .ok (.ireturn, 1) := by decide +kernel
theorem dX8_abort_10 : decode cX8_abort 10 = .ok (.aload_n 0, 1) := by decide +kernel
theorem dX8_abort_11 : decode cX8_abort 11 = .ok (.getfield 33, 3) := by decide +kernel
theorem dX8_abort_14 : decode cX8_abort 14 = .ok (.iload_n 1, 1) := by decide +kernel
theorem dX8_abort_15 : decode cX8_abort 15 = .ok (.iaload, 1) := by decide +kernel
theorem dX8_abort_16 : decode cX8_abort 16 = .ok (.istore_n 2, 1) := by decide +kernel
theorem dX8_abort_17 : decode cX8_abort 17 = .ok (.aload_n 0, 1) := by decide +kernel
theorem dX8_abort_18 : decode cX8_abort 18 = .ok (.getfield 33, 3) := by decide +kernel
theorem dX8_abort_21 : decode cX8_abort 21 = .ok (.iload_n 1, 1) := by decide +kernel
theorem dX8_abort_22 : decode cX8_abort 22 = .ok (.iconst 0, 1) := by decide +kernel
theorem dX8_abort_23 : decode cX8_abort 23 = .ok (.iastore, 1) := by decide +kernel
theorem dX8_abort_24 : decode cX8_abort 24 = .ok (.iload_n 2, 1) := by decide +kernel
theorem dX8_abort_25 : decode cX8_abort 25 = .ok (.ireturn, 1) := by decide +kernel
set_option maxRecDepth 20000 in
theorem ggX8_timer_X8_isStage : GoodIn wsX8_timer wsX8_isStage := goodIn_r _ [12, 13, 17, 18, 19, 20, 21, 22, 23, 24, 25, 26, 27, 28, 29, 30, 31, 32, 33, 34, 35, 36, 37, 38, 39, 40, 41, 42, 43, 44, 45, 46, 47, 48, 49, 50, 51, 52, 53, 54, 55, 56, 57, 58, 59, 60, 61, 62, 63, 64] (by decide +kernel) (by decide +kernel)
set_option maxRecDepth 20000 in
theorem gX8_timer_X8_isStage : GoodIn wsX8_timer (wsV RX8 144 RX8 yX8_isStage wsX8_isStage) := goodIn_app (goodIn_of _ (by decide +kernel)) ggX8_timer_X8_isStage
set_option maxRecDepth 20000 in
theorem ggX8_timer_X8_in : GoodIn wsX8_timer wsX8_in := goodIn_r _ [16] (by decide +kernel) (by decide +kernel)
set_option maxRecDepth 20000 in
theorem gX8_timer_X8_in : GoodIn wsX8_timer (va_wsS RX8 140 yX8_in wsX8_in) := goodIn_app (goodIn_of _ (by decide +kernel)) ggX8_timer_X8_in
theorem dX8_timer_0 : decode cX8_timer 0 = .ok (.aload_n 0, 1) := by decide +kernel
theorem dX8_timer_1 : decode cX8_timer 1 = .ok (.iload_n 1, 1) := by decide +kernel
theorem dX8_timer_2 : decode cX8_timer 2 = .ok (.invokevirtual 144, 3) := by decide +kernel
theorem dX8_timer_5 : decode cX8_timer 5 = .ok (.ifCond .eq 14, 3) := by decide +kernel
theorem dX8_timer_8 : decode cX8_timer 8 = .ok (.iload_n 3, 1) := by decide +kernel
theorem dX8_timer_9 : decode cX8_timer 9 = .ok (.iconst 1, 1) := by decide +kernel
theorem dX8_timer_10 : decode cX8_timer 10 = .ok (.sipush 1000, 3) := by decide +kernel
theorem dX8_timer_13 : decode cX8_timer 13 = .ok (.invokestatic 140, 3) := by decide +kernel
theorem dX8_timer_16 : decode cX8_timer 16 = .ok (.ifCond .ne 5, 3) := by decide +kernel
theorem dX8_timer_19 : decode cX8_timer 19 = .ok (.iconst (-1), 1) := by decide +kernel
theorem dX8_timer_20 : decode cX8_timer 20 = .ok (.ireturn, 1) := by decide +kernel
theorem dX8_timer_21 : decode cX8_timer 21 = .ok (.aload_n 0, 1) := by decide +kernel
theorem dX8_timer_22 : decode cX8_timer 22 = .ok (.getfield 170, 3) := by decide +kernel
theorem dX8_timer_25 : decode cX8_timer 25 = .ok (.bipush 50, 2) := by decide +kernel
theorem dX8_timer_27 : decode cX8_timer 27 = .ok (.if_icmp .ne 6, 3) := by decide +kernel
theorem dX8_timer_30 : decode cX8_timer 30 = .ok (.bipush (-2), 2) := by decide +kernel
theorem dX8_timer_32 : decode cX8_timer 32 = .ok (.ireturn, 1) := by decide +kernel
theorem dX8_timer_33 : decode cX8_timer 33 = .ok (.aload_n 0, 1) := by decide +kernel
theorem dX8_timer_34 : decode cX8_timer 34 = .ok (.getfield 124, 3) := by decide +kernel
theorem dX8_timer_37 : decode cX8_timer 37 = .ok (.aload_n 0, 1) := by decide +kernel
theorem dX8_timer_38 : decode cX8_timer 38 = .ok (.getfield 170, 3) := by decide +kernel
theorem dX8_timer_41 : decode cX8_timer 41 = .ok (.aload_n 0, 1) := by decide +kernel
theorem dX8_timer_42 : decode cX8_timer 42 = .ok (.getfield 173, 3) := by decide +kernel
theorem dX8_timer_45 : decode cX8_timer 45 = .ok (.iastore, 1) := by decide +kernel
theorem dX8_timer_46 : decode cX8_timer 46 = .ok (.aload_n 0, 1) := by decide +kernel
theorem dX8_timer_47 : decode cX8_timer 47 = .ok (.getfield 127, 3) := by decide +kernel
theorem dX8_timer_50 : decode cX8_timer 50 = .ok (.aload_n 0, 1) := by decide +kernel
theorem dX8_timer_51 : decode cX8_timer 51 = .ok (.getfield 170, 3) := by decide +kernel
theorem dX8_timer_54 : decode cX8_timer 54 = .ok (.iload_n 1, 1) := by decide +kernel
theorem dX8_timer_55 : decode cX8_timer 55 = .ok (.iastore, 1) := by decide +kernel
theorem dX8_timer_56 : decode cX8_timer 56 = .ok (.aload_n 0, 1) := by decide +kernel
theorem dX8_timer_57 : decode cX8_timer 57 = .ok (.getfield 130, 3) := by decide +kernel
theorem dX8_timer_60 : decode cX8_timer 60 = .ok (.aload_n 0, 1) := by decide +kernel
theorem dX8_timer_61 : decode cX8_timer 61 = .ok (.getfield 170, 3) := by decide +kernel
theorem dX8_timer_64 : decode cX8_timer 64 = .ok (.iload_n 2, 1) := by decide +kernel
theorem dX8_timer_65 : decode cX8_timer 65 = .ok (.iastore, 1) := by decide +kernel
theorem dX8_timer_66 : decode cX8_timer 66 = .ok (.aload_n 0, 1) := by decide +kernel
theorem dX8_timer_67 : decode cX8_timer 67 = .ok (.getfield 133, 3) := by decide +kernel
theorem dX8_timer_70 : decode cX8_timer 70 = .ok (.aload_n 0, 1) := by decide +kernel
theorem dX8_timer_71 : decode cX8_timer 71 = .ok (.getfield 170, 3) := by decide +kernel
theorem dX8_timer_74 : decode cX8_timer 74 = .ok (.aload_n 0, 1) := by decide +kernel
theorem dX8_timer_75 : decode cX8_timer 75 = .ok (.getfield 163, 3) := by decide +kernel
theorem dX8_timer_78 : decode cX8_timer 78 = .ok (.iload_n 3, 1) := by decide +kernel
theorem dX8_timer_79 : decode cX8_timer 79 = .ok (.iadd, 1) := by decide +kernel
theorem dX8_timer_80 : decode cX8_timer 80 = .ok (.iastore, 1) := by decide +kernel
theorem dX8_timer_81 : decode cX8_timer 81 = .ok (.aload_n 0, 1) := by decide +kernel
theorem dX8_timer_82 : decode cX8_timer 82 = .ok (.dup, 1) := by decide +kernel
theorem dX8_timer_83 : decode cX8_timer 83 = .ok (.getfield 170, 3) := by decide +kernel
theorem dX8_timer_86 : decode cX8_timer 86 = .ok (.iconst 1, 1) := by decide +kernel
theorem dX8_timer_87 : decode cX8_timer 87 = .ok (.iadd, 1) := by decide +kernel
theorem dX8_timer_88 : decode cX8_timer 88 = .ok (.putfield 170, 3) := by decide +kernel
theorem dX8_timer_91 : decode cX8_timer 91 = .ok (.aload_n 0, 1) := by decide +kernel
theorem dX8_timer_92 : decode cX8_timer 92 = .ok (.dup, 1) := by decide +kernel
theorem dX8_timer_93 : decode cX8_timer 93 = .ok (.getfield 173, 3) := by decide +kernel
theorem dX8_timer_96 : decode cX8_timer 96 = .ok (.iconst 1, 1) := by decide +kernel
theorem dX8_timer_97 : decode cX8_timer 97 = .ok (.iadd, 1) := by decide +kernel
theorem dX8_timer_98 : decode cX8_timer 98 = .ok (.putfield 173, 3) := by decide +kernel
theorem dX8_timer_101 : decode cX8_timer 101 = .ok (.aload_n 0, 1) := by decide +kernel
theorem dX8_timer_102 : decode cX8_timer 102 = .ok (.getfield 173, 3) := by decide +kernel
theorem dX8_timer_105 : decode cX8_timer 105 = .ok (.iconst 1, 1) := by decide +kernel
theorem dX8_timer_106 : decode cX8_timer 106 = .ok (.isub, 1) := by decide +kernel
theorem dX8_timer_107 : decode cX8_timer 107 = .ok (.ireturn, 1) := by decide +kernel
theorem dX8_forgetTimer_0 : decode cX8_forgetTimer 0 = .ok (.aload_n 0, 1) := by decide +kernel
theorem dX8_forgetTimer_1 : decode cX8_forgetTimer 1 = .ok (.dup, 1) := by decide +kernel
theorem dX8_forgetTimer_2 : decode cX8_forgetTimer 2 = .ok (.getfield 170, 3) := by decide +kernel
theorem dX8_forgetTimer_5 : decode cX8_forgetTimer 5 = .ok (.iconst 1, 1) := by decide +kernel
theorem dX8_forgetTimer_6 : decode cX8_forgetTimer 6 = .ok (.isub, 1) := by decide +kernel
theorem dX8_forgetTimer_7 : decode cX8_forgetTimer 7 = .ok (.putfield 170, 3) := by decide +kernel
theorem dX8_forgetTimer_10 : decode cX8_forgetTimer 10 = .ok (.iload_n 1, 1) := by decide +kernel
theorem dX8_forgetTimer_11 : decode cX8_forgetTimer 11 = .ok (.istore_n 2, 1) := by decide +kernel
theorem dX8_forgetTimer_12 : decode cX8_forgetTimer 12 = .ok (.iload_n 2, 1) := by decide +kernel
theorem dX8_forgetTimer_13 : decode cX8_forgetTimer 13 = .ok (.aload_n 0, 1) := by decide +kernel
theorem dX8_forgetTimer_14 : decode cX8_forgetTimer 14 = .ok (.getfield 170, 3) := by decide +kernel
theorem dX8_forgetTimer_17 : decode cX8_forgetTimer 17 = .ok (.if_icmp .ge 65, 3) := by decide +kernel
theorem dX8_forgetTimer_20 : decode cX8_forgetTimer 20 = .ok (.aload_n 0, 1) := by decide +kernel
theorem dX8_forgetTimer_21 : decode cX8_forgetTimer 21 = .ok (.getfield 124, 3) := by decide +kernel
theorem dX8_forgetTimer_24 : decode cX8_forgetTimer 24 = .ok (.iload_n 2, 1) := by decide +kernel
theorem dX8_forgetTimer_25 : decode cX8_forgetTimer 25 = .ok (.aload_n 0, 1) := by decide +kernel
theorem dX8_forgetTimer_26 : decode cX8_forgetTimer 26 = .ok (.getfield 124, 3) := by decide +kernel
theorem dX8_forgetTimer_29 : decode cX8_forgetTimer 29 = .ok (.iload_n 2, 1) := by decide +kernel
theorem dX8_forgetTimer_30 : decode cX8_forgetTimer 30 = .ok (.iconst 1, 1) := by decide +kernel
theorem dX8_forgetTimer_31 : decode cX8_forgetTimer 31 = .ok (.iadd, 1) := by decide +kernel
theorem dX8_forgetTimer_32 : decode cX8_forgetTimer 32 = .ok (.iaload, 1) := by decide +kernel
theorem dX8_forgetTimer_33 : decode cX8_forgetTimer 33 = .ok (.iastore, 1) := by decide +kernel
theorem dX8_forgetTimer_34 : decode cX8_forgetTimer 34 = .ok (.aload_n 0, 1) := by decide +kernel
theorem dX8_forgetTimer_35 : decode cX8_forgetTimer 35 = .ok (.getfield 127, 3) := by decide +kernel
theorem dX8_forgetTimer_38 : decode cX8_forgetTimer 38 = .ok (.iload_n 2, 1) := by decide +kernel
theorem dX8_forgetTimer_39 : decode cX8_forgetTimer 39 = .ok (.aload_n 0, 1) := by decide +kernel
theorem dX8_forgetTimer_40 : decode cX8_forgetTimer 40 = .ok (.getfield 127, 3) := by decide +kernel
theorem dX8_forgetTimer_43 : decode cX8_forgetTimer 43 = .ok (.iload_n 2, 1) := by decide +kernel
theorem dX8_forgetTimer_44 : decode cX8_forgetTimer 44 = .ok (.iconst 1, 1) := by decide +kernel
theorem dX8_forgetTimer_45 : decode cX8_forgetTimer 45 = .ok (.iadd, 1) := by decide +kernel
theorem dX8_forgetTimer_46 : decode cX8_forgetTimer 46 = .ok (.iaload, 1) := by decide +kernel
theorem dX8_forgetTimer_47 : decode cX8_forgetTimer 47 = .ok (.iastore, 1) := by decide +kernel
theorem dX8_forgetTimer_48 : decode cX8_forgetTimer 48 = .ok (.aload_n 0, 1) := by decide +kernel
theorem dX8_forgetTimer_49 : decode cX8_forgetTimer 49 = .ok (.getfield 130, 3) := by decide +kernel
theorem dX8_forgetTimer_52 : decode cX8_forgetTimer 52 = .ok (.iload_n 2, 1) := by decide +kernel
theorem dX8_forgetTimer_53 : decode cX8_forgetTimer 53 = .ok (.aload_n 0, 1) := by decide +kernel
theorem dX8_forgetTimer_54 : decode cX8_forgetTimer 54 = .ok (.getfield 130, 3) := by decide +kernel
theorem dX8_forgetTimer_57 : decode cX8_forgetTimer 57 = .ok (.iload_n 2, 1) := by decide +kernel
theorem dX8_forgetTimer_58 : decode cX8_forgetTimer 58 = .ok (.iconst 1, 1) := by decide +kernel
theorem dX8_forgetTimer_59 : decode cX8_forgetTimer 59 = .ok (.iadd, 1) := by decide +kernel
theorem dX8_forgetTimer_60 : decode cX8_forgetTimer 60 = .ok (.iaload, 1) := by decide +kernel
theorem dX8_forgetTimer_61 : decode cX8_forgetTimer 61 = .ok (.iastore, 1) := by decide +kernel
theorem dX8_forgetTimer_62 : decode cX8_forgetTimer 62 = .ok (.aload_n 0, 1) := by decide +kernel
theorem dX8_forgetTimer_63 : decode cX8_forgetTimer 63 = .ok (.getfield 133, 3) := by decide +kernel
theorem dX8_forgetTimer_66 : decode cX8_forgetTimer 66 = .ok (.iload_n 2, 1) := by decide +kernel
theorem dX8_forgetTimer_67 : decode cX8_forgetTimer 67 = .ok (.aload_n 0, 1) := by decide +kernel
theorem dX8_forgetTimer_68 : decode cX8_forgetTimer 68 = .ok (.getfield 133, 3) := by decide +kernel
theorem dX8_forgetTimer_71 : decode cX8_forgetTimer 71 = .ok (.iload_n 2, 1) := by decide +kernel
theorem dX8_forgetTimer_72 : decode cX8_forgetTimer 72 = .ok (.iconst 1, 1) := by decide +kernel
theorem dX8_forgetTimer_73 : decode cX8_forgetTimer 73 = .ok (.iadd, 1) := by decide +kernel
theorem dX8_forgetTimer_74 : decode cX8_forgetTimer 74 = .ok (.iaload, 1) := by decide +kernel
theorem dX8_forgetTimer_75 : decode cX8_forgetTimer 75 = .ok (.iastore, 1) := by decide +kernel
theorem dX8_forgetTimer_76 : decode cX8_forgetTimer 76 = .ok (.iinc 2 1, 3) := by decide +kernel
theorem dX8_forgetTimer_79 : decode cX8_forgetTimer 79 = .ok (.goto (-67), 3) := by decide +kernel
theorem dX8_forgetTimer_82 : decode cX8_forgetTimer 82 = .ok (.return_, 1) := by decide +kernel
set_option maxRecDepth 20000 in
theorem ggX8_cancel_X8_forgetTimer : GoodIn wsX8_cancel wsX8_forgetTimer := goodIn_r _ [7, 1, 2, 8, 9, 10, 11, 12, 13, 14, 15, 16, 17, 18, 19, 20, 21, 22, 23, 24, 25, 26, 27, 28, 29, 30, 31, 32, 33, 34, 35, 36, 37, 38, 39, 40, 41, 42, 43, 44, 45, 46, 47, 48, 49, 50, 51, 52, 53, 54, 55, 56, 57, 58] (by decide +kernel) (by decide +kernel)
set_option maxRecDepth 20000 in
theorem gX8_cancel_X8_forgetTimer : GoodIn wsX8_cancel (wsV RX8 176 RX8 yX8_forgetTimer wsX8_forgetTimer) := goodIn_app (goodIn_of _ (by decide +kernel)) ggX8_cancel_X8_forgetTimer
theorem dX8_cancel_0 : decode cX8_cancel 0 = .ok (.iconst 0, 1) := by decide +kernel
theorem dX8_cancel_1 : decode cX8_cancel 1 = .ok (.istore_n 2, 1) := by decide +kernel
theorem dX8_cancel_2 : decode cX8_cancel 2 = .ok (.iload_n 2, 1) := by decide +kernel
theorem dX8_cancel_3 : decode cX8_cancel 3 = .ok (.aload_n 0, 1) := by decide +kernel
theorem dX8_cancel_4 : decode cX8_cancel 4 = .ok (.getfield 170, 3) := by decide +kernel
theorem dX8_cancel_7 : decode cX8_cancel 7 = .ok (.if_icmp .ge 26, 3) := by decide +kernel
theorem dX8_cancel_10 : decode cX8_cancel 10 = .ok (.aload_n 0, 1) := by decide +kernel
theorem dX8_cancel_11 : decode cX8_cancel 11 = .ok (.getfield 124, 3) := by decide +kernel
theorem dX8_cancel_14 : decode cX8_cancel 14 = .ok (.iload_n 2, 1) := by decide +kernel
theorem dX8_cancel_15 : decode cX8_cancel 15 = .ok (.iaload, 1) := by decide +kernel
theorem dX8_cancel_16 : decode cX8_cancel 16 = .ok (.iload_n 1, 1) := by decide +kernel
theorem dX8_cancel_17 : decode cX8_cancel 17 = .ok (.if_icmp .ne 10, 3) := by decide +kernel
theorem dX8_cancel_20 : decode cX8_cancel 20 = .ok (.aload_n 0, 1) := by decide +kernel
theorem dX8_cancel_21 : decode cX8_cancel 21 = .ok (.iload_n 2, 1) := by decide +kernel
theorem dX8_cancel_22 : decode cX8_cancel 22 = .ok (.invokevirtual 176, 3) := by decide +kernel
theorem dX8_cancel_25 : decode cX8_cancel 25 = .ok (.iconst 1, 1) := by decide +kernel
theorem dX8_cancel_26 : decode cX8_cancel 26 = .ok (.ireturn, 1) := by decide +kernel
theorem dX8_cancel_27 : decode cX8_cancel 27 = .ok (.iinc 2 1, 3) := by decide +kernel
theorem dX8_cancel_30 : decode cX8_cancel 30 = .ok (.goto (-28), 3) := by decide +kernel
theorem dX8_cancel_33 : decode cX8_cancel 33 = .ok (.iconst (-1), 1) := by decide +kernel
theorem dX8_cancel_34 : decode cX8_cancel 34 = .ok (.ireturn, 1) := by decide +kernel
set_option maxRecDepth 20000 in
theorem ggX8_close_X8_isStage : GoodIn wsX8_close wsX8_isStage := goodIn_r _ [6, 7, 8, 9, 10, 11, 12, 13, 14, 15, 16, 17, 18, 19, 20, 21, 22, 23, 24, 25, 26, 27, 28, 29, 30, 31, 32, 33, 34, 35, 36, 37, 38, 39, 40, 41, 42, 43, 44, 45, 46, 47, 48, 49, 50, 51, 52, 53, 54, 55] (by decide +kernel) (by decide +kernel)
set_option maxRecDepth 20000 in
theorem gX8_close_X8_isStage : GoodIn wsX8_close (wsV RX8 144 RX8 yX8_isStage wsX8_isStage) := goodIn_app (goodIn_of _ (by decide +kernel)) ggX8_close_X8_isStage
theorem dX8_close_0 : decode cX8_close 0 = .ok (.aload_n 0, 1) := by decide +kernel
theorem dX8_close_1 : decode cX8_close 1 = .ok (.iload_n 1, 1) := by decide +kernel
theorem dX8_close_2 : decode cX8_close 2 = .ok (.invokevirtual 144, 3) := by decide +kernel
theorem dX8_close_5 : decode cX8_close 5 = .ok (.ifCond .ne 5, 3) := by decide +kernel
theorem dX8_close_8 : decode cX8_close 8 = .ok (.iconst (-1), 1) := by decide +kernel
theorem dX8_close_9 : decode cX8_close 9 = .ok (.ireturn, 1) := by decide +kernel
theorem dX8_close_10 : decode cX8_close 10 = .ok (.aload_n 0, 1) := by decide +kernel
theorem dX8_close_11 : decode cX8_close 11 = .ok (.getfield 60, 3) := by decide +kernel
theorem dX8_close_14 : decode cX8_close 14 = .ok (.iload_n 1, 1) := by decide +kernel
theorem dX8_close_15 : decode cX8_close 15 = .ok (.baload, 1) := by decide +kernel
theorem dX8_close_16 : decode cX8_close 16 = .ok (.ifCond .eq 6, 3) := by decide +kernel
theorem dX8_close_19 : decode cX8_close 19 = .ok (.bipush (-3), 2) := by decide +kernel
theorem dX8_close_21 : decode cX8_close 21 = .ok (.ireturn, 1) := by decide +kernel
theorem dX8_close_22 : decode cX8_close 22 = .ok (.aload_n 0, 1) := by decide +kernel
theorem dX8_close_23 : decode cX8_close 23 = .ok (.getfield 60, 3) := by decide +kernel
theorem dX8_close_26 : decode cX8_close 26 = .ok (.iload_n 1, 1) := by decide +kernel
theorem dX8_close_27 : decode cX8_close 27 = .ok (.iconst 1, 1) := by decide +kernel
theorem dX8_close_28 : decode cX8_close 28 = .ok (.bastore, 1) := by decide +kernel
theorem dX8_close_29 : decode cX8_close 29 = .ok (.iconst 1, 1) := by decide +kernel
theorem dX8_close_30 : decode cX8_close 30 = .ok (.ireturn, 1) := by decide +kernel
set_option maxRecDepth 20000 in
theorem ggX8_ring_X8_make : GoodIn wsX8_ring wsX8_make := goodIn_r _ [11, 12, 13, 14, 39, 40, 41, 42, 43, 44, 45, 46, 47, 48, 49, 50, 51, 52, 53, 54, 55, 56, 57, 58, 59, 60, 61, 62, 63, 64, 65, 66, 67, 68, 69, 70, 71, 72, 73, 74, 75, 76, 77, 78, 79, 80, 81, 82, 83, 84, 85, 86] (by decide +kernel) (by decide +kernel)
set_option maxRecDepth 20000 in
theorem gX8_ring_X8_make : GoodIn wsX8_ring (wsV RX8 166 RX8 yX8_make wsX8_make) := goodIn_app (goodIn_of _ (by decide +kernel)) ggX8_ring_X8_make
set_option maxRecDepth 20000 in
theorem ggX8_ring_X8_forgetTimer : GoodIn wsX8_ring wsX8_forgetTimer := goodIn_r _ [18, 1, 19, 4, 5, 2, 39, 40, 41, 42, 43, 44, 45, 46, 47, 48, 49, 50, 51, 52, 53, 54, 55, 56, 57, 58, 59, 60, 61, 62, 63, 64, 65, 66, 67, 68, 69, 70, 71, 72, 73, 74, 75, 76, 77, 78, 79, 80, 81, 82, 83, 84, 85, 86] (by decide +kernel) (by decide +kernel)
set_option maxRecDepth 20000 in
theorem gX8_ring_X8_forgetTimer : GoodIn wsX8_ring (wsV RX8 176 RX8 yX8_forgetTimer wsX8_forgetTimer) := goodIn_app (goodIn_of _ (by decide +kernel)) ggX8_ring_X8_forgetTimer
set_option maxRecDepth 20000 in
theorem ggX8_ring_X8_offer : GoodIn wsX8_ring wsX8_offer := goodIn_r _ [23, 24, 25, 26, 27, 28, 10, 29, 30, 31, 32, 33, 34, 35, 36, 37, 38, 39, 40, 41, 42, 43, 44, 45, 46, 47, 48, 49, 50, 51, 52, 53, 54, 55, 56, 57, 58, 59, 60, 61, 62, 63, 64, 65, 66, 67, 68, 69, 70, 71, 72, 73, 74, 75, 76, 77, 78, 79, 80, 81, 82, 83, 84, 85, 86] (by decide +kernel) (by decide +kernel)
set_option maxRecDepth 20000 in
theorem gX8_ring_X8_offer : GoodIn wsX8_ring (wsV RX8 159 RX8 yX8_offer wsX8_offer) := goodIn_app (goodIn_of _ (by decide +kernel)) ggX8_ring_X8_offer
theorem dX8_ring_0 : decode cX8_ring 0 = .ok (.iconst 0, 1) := by decide +kernel
theorem dX8_ring_1 : decode cX8_ring 1 = .ok (.istore_n 1, 1) := by decide +kernel
theorem dX8_ring_2 : decode cX8_ring 2 = .ok (.iload_n 1, 1) := by decide +kernel
theorem dX8_ring_3 : decode cX8_ring 3 = .ok (.aload_n 0, 1) := by decide +kernel
theorem dX8_ring_4 : decode cX8_ring 4 = .ok (.getfield 170, 3) := by decide +kernel
theorem dX8_ring_7 : decode cX8_ring 7 = .ok (.if_icmp .ge 75, 3) := by decide +kernel
theorem dX8_ring_10 : decode cX8_ring 10 = .ok (.aload_n 0, 1) := by decide +kernel
theorem dX8_ring_11 : decode cX8_ring 11 = .ok (.getfield 133, 3) := by decide +kernel
theorem dX8_ring_14 : decode cX8_ring 14 = .ok (.iload_n 1, 1) := by decide +kernel
theorem dX8_ring_15 : decode cX8_ring 15 = .ok (.iaload, 1) := by decide +kernel
theorem dX8_ring_16 : decode cX8_ring 16 = .ok (.aload_n 0, 1) := by decide +kernel
theorem dX8_ring_17 : decode cX8_ring 17 = .ok (.getfield 163, 3) := by decide +kernel
theorem dX8_ring_20 : decode cX8_ring 20 = .ok (.if_icmp .ne 56, 3) := by decide +kernel
theorem dX8_ring_23 : decode cX8_ring 23 = .ok (.aload_n 0, 1) := by decide +kernel
theorem dX8_ring_24 : decode cX8_ring 24 = .ok (.getfield 127, 3) := by decide +kernel
theorem dX8_ring_27 : decode cX8_ring 27 = .ok (.iload_n 1, 1) := by decide +kernel
theorem dX8_ring_28 : decode cX8_ring 28 = .ok (.iaload, 1) := by decide +kernel
theorem dX8_ring_29 : decode cX8_ring 29 = .ok (.istore_n 2, 1) := by decide +kernel
theorem dX8_ring_30 : decode cX8_ring 30 = .ok (.aload_n 0, 1) := by decide +kernel
theorem dX8_ring_31 : decode cX8_ring 31 = .ok (.aload_n 0, 1) := by decide +kernel
theorem dX8_ring_32 : decode cX8_ring 32 = .ok (.getfield 130, 3) := by decide +kernel
theorem dX8_ring_35 : decode cX8_ring 35 = .ok (.iload_n 1, 1) := by decide +kernel
theorem dX8_ring_36 : decode cX8_ring 36 = .ok (.iaload, 1) := by decide +kernel
theorem dX8_ring_37 : decode cX8_ring 37 = .ok (.aload_n 0, 1) := by decide +kernel
theorem dX8_ring_38 : decode cX8_ring 38 = .ok (.getfield 163, 3) := by decide +kernel
theorem dX8_ring_41 : decode cX8_ring 41 = .ok (.invokevirtual 166, 3) := by decide +kernel
theorem dX8_ring_44 : decode cX8_ring 44 = .ok (.istore_n 3, 1) := by decide +kernel
theorem dX8_ring_45 : decode cX8_ring 45 = .ok (.aload_n 0, 1) := by decide +kernel
theorem dX8_ring_46 : decode cX8_ring 46 = .ok (.iload_n 1, 1) := by decide +kernel
theorem dX8_ring_47 : decode cX8_ring 47 = .ok (.invokevirtual 176, 3) := by decide +kernel
theorem dX8_ring_50 : decode cX8_ring 50 = .ok (.aload_n 0, 1) := by decide +kernel
theorem dX8_ring_51 : decode cX8_ring 51 = .ok (.dup, 1) := by decide +kernel
theorem dX8_ring_52 : decode cX8_ring 52 = .ok (.getfield 180, 3) := by decide +kernel
theorem dX8_ring_55 : decode cX8_ring 55 = .ok (.aload_n 0, 1) := by decide +kernel
theorem dX8_ring_56 : decode cX8_ring 56 = .ok (.iload_n 2, 1) := by decide +kernel
theorem dX8_ring_57 : decode cX8_ring 57 = .ok (.iload_n 3, 1) := by decide +kernel
theorem dX8_ring_58 : decode cX8_ring 58 = .ok (.invokevirtual 159, 3) := by decide +kernel
theorem dX8_ring_61 : decode cX8_ring 61 = .ok (.ifCond .eq 7, 3) := by decide +kernel
theorem dX8_ring_64 : decode cX8_ring 64 = .ok (.iconst 0, 1) := by decide +kernel
theorem dX8_ring_65 : decode cX8_ring 65 = .ok (.goto 4, 3) := by decide +kernel
theorem dX8_ring_68 : decode cX8_ring 68 = .ok (.iconst 1, 1) := by decide +kernel
theorem dX8_ring_69 : decode cX8_ring 69 = .ok (.iadd, 1) := by decide +kernel
theorem dX8_ring_70 : decode cX8_ring 70 = .ok (.putfield 180, 3) := by decide +kernel
theorem dX8_ring_73 : decode cX8_ring 73 = .ok (.goto (-71), 3) := by decide +kernel
theorem dX8_ring_76 : decode cX8_ring 76 = .ok (.iinc 1 1, 3) := by decide +kernel
theorem dX8_ring_79 : decode cX8_ring 79 = .ok (.goto (-77), 3) := by decide +kernel
theorem dX8_ring_82 : decode cX8_ring 82 = .ok (.return_, 1) := by decide +kernel
theorem dX8_gift_0 : decode cX8_gift 0 = .ok (.iload 4, 2) := by decide +kernel
theorem dX8_gift_2 : decode cX8_gift 2 = .ok (.iconst (-1), 1) := by decide +kernel
theorem dX8_gift_3 : decode cX8_gift 3 = .ok (.if_icmp .ne 4, 3) := by decide +kernel
theorem dX8_gift_6 : decode cX8_gift 6 = .ok (.return_, 1) := by decide +kernel
theorem dX8_gift_7 : decode cX8_gift 7 = .ok (.bipush 16, 2) := by decide +kernel
theorem dX8_gift_9 : decode cX8_gift 9 = .ok (.iload_n 1, 1) := by decide +kernel
theorem dX8_gift_10 : decode cX8_gift 10 = .ok (.imul, 1) := by decide +kernel
theorem dX8_gift_11 : decode cX8_gift 11 = .ok (.aload_n 0, 1) := by decide +kernel
theorem dX8_gift_12 : decode cX8_gift 12 = .ok (.getfield 100, 3) := by decide +kernel
theorem dX8_gift_15 : decode cX8_gift 15 = .ok (.iload_n 1, 1) := by decide +kernel
theorem dX8_gift_16 : decode cX8_gift 16 = .ok (.iaload, 1) := by decide +kernel
theorem dX8_gift_17 : decode cX8_gift 17 = .ok (.iadd, 1) := by decide +kernel
theorem dX8_gift_18 : decode cX8_gift 18 = .ok (.istore 5, 2) := by decide +kernel
theorem dX8_gift_20 : decode cX8_gift 20 = .ok (.aload_n 0, 1) := by decide +kernel
theorem dX8_gift_21 : decode cX8_gift 21 = .ok (.getfield 106, 3) := by decide +kernel
theorem dX8_gift_24 : decode cX8_gift 24 = .ok (.iload 5, 2) := by decide +kernel
theorem dX8_gift_26 : decode cX8_gift 26 = .ok (.iload_n 2, 1) := by decide +kernel
theorem dX8_gift_27 : decode cX8_gift 27 = .ok (.iastore, 1) := by decide +kernel
theorem dX8_gift_28 : decode cX8_gift 28 = .ok (.aload_n 0, 1) := by decide +kernel
theorem dX8_gift_29 : decode cX8_gift 29 = .ok (.getfield 109, 3) := by decide +kernel
theorem dX8_gift_32 : decode cX8_gift 32 = .ok (.iload 5, 2) := by decide +kernel
theorem dX8_gift_34 : decode cX8_gift 34 = .ok (.iload_n 3, 1) := by decide +kernel
theorem dX8_gift_35 : decode cX8_gift 35 = .ok (.iastore, 1) := by decide +kernel
theorem dX8_gift_36 : decode cX8_gift 36 = .ok (.aload_n 0, 1) := by decide +kernel
theorem dX8_gift_37 : decode cX8_gift 37 = .ok (.getfield 112, 3) := by decide +kernel
theorem dX8_gift_40 : decode cX8_gift 40 = .ok (.iload 5, 2) := by decide +kernel
theorem dX8_gift_42 : decode cX8_gift 42 = .ok (.iload 4, 2) := by decide +kernel
theorem dX8_gift_44 : decode cX8_gift 44 = .ok (.iastore, 1) := by decide +kernel
theorem dX8_gift_45 : decode cX8_gift 45 = .ok (.aload_n 0, 1) := by decide +kernel
theorem dX8_gift_46 : decode cX8_gift 46 = .ok (.getfield 115, 3) := by decide +kernel
theorem dX8_gift_49 : decode cX8_gift 49 = .ok (.iload 5, 2) := by decide +kernel
theorem dX8_gift_51 : decode cX8_gift 51 = .ok (.iconst (-1), 1) := by decide +kernel
theorem dX8_gift_52 : decode cX8_gift 52 = .ok (.iastore, 1) := by decide +kernel
theorem dX8_gift_53 : decode cX8_gift 53 = .ok (.aload_n 0, 1) := by decide +kernel
theorem dX8_gift_54 : decode cX8_gift 54 = .ok (.getfield 100, 3) := by decide +kernel
theorem dX8_gift_57 : decode cX8_gift 57 = .ok (.iload_n 1, 1) := by decide +kernel
theorem dX8_gift_58 : decode cX8_gift 58 = .ok (.dup2, 1) := by decide +kernel
theorem dX8_gift_59 : decode cX8_gift 59 = .ok (.iaload, 1) := by decide +kernel
theorem dX8_gift_60 : decode cX8_gift 60 = .ok (.iconst 1, 1) := by decide +kernel
theorem dX8_gift_61 : decode cX8_gift 61 = .ok (.iadd, 1) := by decide +kernel
theorem dX8_gift_62 : decode cX8_gift 62 = .ok (.iastore, 1) := by decide +kernel
theorem dX8_gift_63 : decode cX8_gift 63 = .ok (.return_, 1) := by decide +kernel
set_option maxRecDepth 20000 in
theorem ggX8_listGifts_X8_gift : GoodIn wsX8_listGifts wsX8_gift := goodIn_r _ [15, 2, 16, 17, 18, 19, 20, 21, 22, 23, 24, 25, 26, 27, 28, 29, 30, 31, 32, 33, 34, 35, 36, 37, 38, 39, 40, 41, 42, 43, 44, 45, 46, 47, 48, 49, 50, 51, 52, 53, 54, 55, 56, 57, 58, 59, 60, 61, 62, 63, 64, 65, 66, 67] (by decide +kernel) (by decide +kernel)
set_option maxRecDepth 20000 in
theorem gX8_listGifts_X8_gift : GoodIn wsX8_listGifts (wsV RX8 183 RX8 yX8_gift wsX8_gift) := goodIn_app (goodIn_of _ (by decide +kernel)) ggX8_listGifts_X8_gift
theorem dX8_listGifts_0 : decode cX8_listGifts 0 = .ok (.aload_n 0, 1) := by decide +kernel
theorem dX8_listGifts_1 : decode cX8_listGifts 1 = .ok (.getfield 97, 3) := by decide +kernel
theorem dX8_listGifts_4 : decode cX8_listGifts 4 = .ok (.iload_n 2, 1) := by decide +kernel
theorem dX8_listGifts_5 : decode cX8_listGifts 5 = .ok (.iconst 1, 1) := by decide +kernel
theorem dX8_listGifts_6 : decode cX8_listGifts 6 = .ok (.bastore, 1) := by decide +kernel
theorem dX8_listGifts_7 : decode cX8_listGifts 7 = .ok (.aload_n 0, 1) := by decide +kernel
theorem dX8_listGifts_8 : decode cX8_listGifts 8 = .ok (.getfield 100, 3) := by decide +kernel
theorem dX8_listGifts_11 : decode cX8_listGifts 11 = .ok (.iload_n 2, 1) := by decide +kernel
theorem dX8_listGifts_12 : decode cX8_listGifts 12 = .ok (.iconst 0, 1) := by decide +kernel
theorem dX8_listGifts_13 : decode cX8_listGifts 13 = .ok (.iastore, 1) := by decide +kernel
theorem dX8_listGifts_14 : decode cX8_listGifts 14 = .ok (.aload_n 0, 1) := by decide +kernel
theorem dX8_listGifts_15 : decode cX8_listGifts 15 = .ok (.getfield 103, 3) := by decide +kernel
theorem dX8_listGifts_18 : decode cX8_listGifts 18 = .ok (.iload_n 2, 1) := by decide +kernel
theorem dX8_listGifts_19 : decode cX8_listGifts 19 = .ok (.iconst 0, 1) := by decide +kernel
theorem dX8_listGifts_20 : decode cX8_listGifts 20 = .ok (.iastore, 1) := by decide +kernel
theorem dX8_listGifts_21 : decode cX8_listGifts 21 = .ok (.iconst 0, 1) := by decide +kernel
theorem dX8_listGifts_22 : decode cX8_listGifts 22 = .ok (.istore_n 3, 1) := by decide +kernel
theorem dX8_listGifts_23 : decode cX8_listGifts 23 = .ok (.iconst 0, 1) := by decide +kernel
theorem dX8_listGifts_24 : decode cX8_listGifts 24 = .ok (.istore 4, 2) := by decide +kernel
theorem dX8_listGifts_26 : decode cX8_listGifts 26 = .ok (.iload 4, 2) := by decide +kernel
theorem dX8_listGifts_28 : decode cX8_listGifts 28 = .ok (.aload_n 0, 1) := by decide +kernel
theorem dX8_listGifts_29 : decode cX8_listGifts 29 = .ok (.getfield 88, 3) := by decide +kernel
theorem dX8_listGifts_32 : decode cX8_listGifts 32 = .ok (.iload_n 2, 1) := by decide +kernel
theorem dX8_listGifts_33 : decode cX8_listGifts 33 = .ok (.iaload, 1) := by decide +kernel
theorem dX8_listGifts_34 : decode cX8_listGifts 34 = .ok (.if_icmp .ge 152, 3) := by decide +kernel
theorem dX8_listGifts_37 : decode cX8_listGifts 37 = .ok (.aload_n 0, 1) := by decide +kernel
theorem dX8_listGifts_38 : decode cX8_listGifts 38 = .ok (.getfield 91, 3) := by decide +kernel
theorem dX8_listGifts_41 : decode cX8_listGifts 41 = .ok (.bipush 8, 2) := by decide +kernel
theorem dX8_listGifts_43 : decode cX8_listGifts 43 = .ok (.iload_n 2, 1) := by decide +kernel
theorem dX8_listGifts_44 : decode cX8_listGifts 44 = .ok (.imul, 1) := by decide +kernel
theorem dX8_listGifts_45 : decode cX8_listGifts 45 = .ok (.iload 4, 2) := by decide +kernel
theorem dX8_listGifts_47 : decode cX8_listGifts 47 = .ok (.iadd, 1) := by decide +kernel
theorem dX8_listGifts_48 : decode cX8_listGifts 48 = .ok (.iaload, 1) := by decide +kernel
theorem dX8_listGifts_49 : decode cX8_listGifts 49 = .ok (.istore 5, 2) := by decide +kernel
theorem dX8_listGifts_51 : decode cX8_listGifts 51 = .ok (.aload_n 0, 1) := by decide +kernel
theorem dX8_listGifts_52 : decode cX8_listGifts 52 = .ok (.getfield 8, 3) := by decide +kernel
theorem dX8_listGifts_55 : decode cX8_listGifts 55 = .ok (.iload 5, 2) := by decide +kernel
theorem dX8_listGifts_57 : decode cX8_listGifts 57 = .ok (.iaload, 1) := by decide +kernel
theorem dX8_listGifts_58 : decode cX8_listGifts 58 = .ok (.istore 6, 2) := by decide +kernel
theorem dX8_listGifts_60 : decode cX8_listGifts 60 = .ok (.iload_n 3, 1) := by decide +kernel
theorem dX8_listGifts_61 : decode cX8_listGifts 61 = .ok (.iload 6, 2) := by decide +kernel
theorem dX8_listGifts_63 : decode cX8_listGifts 63 = .ok (.iadd, 1) := by decide +kernel
theorem dX8_listGifts_64 : decode cX8_listGifts 64 = .ok (.istore_n 3, 1) := by decide +kernel
theorem dX8_listGifts_65 : decode cX8_listGifts 65 = .ok (.aload_n 0, 1) := by decide +kernel
theorem dX8_listGifts_66 : decode cX8_listGifts 66 = .ok (.getfield 21, 3) := by decide +kernel
theorem dX8_listGifts_69 : decode cX8_listGifts 69 = .ok (.iload_n 1, 1) := by decide +kernel
theorem dX8_listGifts_70 : decode cX8_listGifts 70 = .ok (.iaload, 1) := by decide +kernel
theorem dX8_listGifts_71 : decode cX8_listGifts 71 = .ok (.ifCond .eq 13, 3) := by decide +kernel
theorem dX8_listGifts_74 : decode cX8_listGifts 74 = .ok (.aload_n 0, 1) := by decide +kernel
theorem dX8_listGifts_75 : decode cX8_listGifts 75 = .ok (.getfield 21, 3) := by decide +kernel
theorem dX8_listGifts_78 : decode cX8_listGifts 78 = .ok (.iload_n 1, 1) := by decide +kernel
theorem dX8_listGifts_79 : decode cX8_listGifts 79 = .ok (.iaload, 1) := by decide +kernel
theorem dX8_listGifts_80 : decode cX8_listGifts 80 = .ok (.iconst 1, 1) := by decide +kernel
theorem dX8_listGifts_81 : decode cX8_listGifts 81 = .ok (.if_icmp .ne 23, 3) := by decide +kernel
theorem dX8_listGifts_84 : decode cX8_listGifts 84 = .ok (.aload_n 0, 1) := by decide +kernel
theorem dX8_listGifts_85 : decode cX8_listGifts 85 = .ok (.iload_n 2, 1) := by decide +kernel
theorem dX8_listGifts_86 : decode cX8_listGifts 86 = .ok (.iload 6, 2) := by decide +kernel
theorem dX8_listGifts_88 : decode cX8_listGifts 88 = .ok (.aload_n 0, 1) := by decide +kernel
theorem dX8_listGifts_89 : decode cX8_listGifts 89 = .ok (.getfield 14, 3) := by decide +kernel
theorem dX8_listGifts_92 : decode cX8_listGifts 92 = .ok (.iload 5, 2) := by decide +kernel
theorem dX8_listGifts_94 : decode cX8_listGifts 94 = .ok (.iaload, 1) := by decide +kernel
theorem dX8_listGifts_95 : decode cX8_listGifts 95 = .ok (.aload_n 0, 1) := by decide +kernel
theorem dX8_listGifts_96 : decode cX8_listGifts 96 = .ok (.getfield 24, 3) := by decide +kernel
theorem dX8_listGifts_99 : decode cX8_listGifts 99 = .ok (.iload_n 1, 1) := by decide +kernel
theorem dX8_listGifts_100 : decode cX8_listGifts 100 = .ok (.iaload, 1) := by decide +kernel
theorem dX8_listGifts_101 : decode cX8_listGifts 101 = .ok (.invokevirtual 183, 3) := by decide +kernel
theorem dX8_listGifts_104 : decode cX8_listGifts 104 = .ok (.aload_n 0, 1) := by decide +kernel
theorem dX8_listGifts_105 : decode cX8_listGifts 105 = .ok (.getfield 21, 3) := by decide +kernel
theorem dX8_listGifts_108 : decode cX8_listGifts 108 = .ok (.iload_n 1, 1) := by decide +kernel
theorem dX8_listGifts_109 : decode cX8_listGifts 109 = .ok (.iaload, 1) := by decide +kernel
theorem dX8_listGifts_110 : decode cX8_listGifts 110 = .ok (.iconst 1, 1) := by decide +kernel
theorem dX8_listGifts_111 : decode cX8_listGifts 111 = .ok (.if_icmp .ne 23, 3) := by decide +kernel
theorem dX8_listGifts_114 : decode cX8_listGifts 114 = .ok (.aload_n 0, 1) := by decide +kernel
theorem dX8_listGifts_115 : decode cX8_listGifts 115 = .ok (.iload_n 2, 1) := by decide +kernel
theorem dX8_listGifts_116 : decode cX8_listGifts 116 = .ok (.iload 6, 2) := by decide +kernel
theorem dX8_listGifts_118 : decode cX8_listGifts 118 = .ok (.aload_n 0, 1) := by decide +kernel
theorem dX8_listGifts_119 : decode cX8_listGifts 119 = .ok (.getfield 14, 3) := by decide +kernel
theorem dX8_listGifts_122 : decode cX8_listGifts 122 = .ok (.iload 5, 2) := by decide +kernel
theorem dX8_listGifts_124 : decode cX8_listGifts 124 = .ok (.iaload, 1) := by decide +kernel
theorem dX8_listGifts_125 : decode cX8_listGifts 125 = .ok (.aload_n 0, 1) := by decide +kernel
theorem dX8_listGifts_126 : decode cX8_listGifts 126 = .ok (.getfield 27, 3) := by decide +kernel
theorem dX8_listGifts_129 : decode cX8_listGifts 129 = .ok (.iload_n 1, 1) := by decide +kernel
theorem dX8_listGifts_130 : decode cX8_listGifts 130 = .ok (.iaload, 1) := by decide +kernel
theorem dX8_listGifts_131 : decode cX8_listGifts 131 = .ok (.invokevirtual 183, 3) := by decide +kernel
theorem dX8_listGifts_134 : decode cX8_listGifts 134 = .ok (.aload_n 0, 1) := by decide +kernel
theorem dX8_listGifts_135 : decode cX8_listGifts 135 = .ok (.getfield 21, 3) := by decide +kernel
theorem dX8_listGifts_138 : decode cX8_listGifts 138 = .ok (.iload_n 1, 1) := by decide +kernel
theorem dX8_listGifts_139 : decode cX8_listGifts 139 = .ok (.iaload, 1) := by decide +kernel
theorem dX8_listGifts_140 : decode cX8_listGifts 140 = .ok (.iconst 2, 1) := by decide +kernel
theorem dX8_listGifts_141 : decode cX8_listGifts 141 = .ok (.if_icmp .ne 39, 3) := by decide +kernel
theorem dX8_listGifts_144 : decode cX8_listGifts 144 = .ok (.aload_n 0, 1) := by decide +kernel
theorem dX8_listGifts_145 : decode cX8_listGifts 145 = .ok (.iload_n 2, 1) := by decide +kernel
theorem dX8_listGifts_146 : decode cX8_listGifts 146 = .ok (.iload 6, 2) := by decide +kernel
theorem dX8_listGifts_148 : decode cX8_listGifts 148 = .ok (.aload_n 0, 1) := by decide +kernel
theorem dX8_listGifts_149 : decode cX8_listGifts 149 = .ok (.getfield 14, 3) := by decide +kernel
theorem dX8_listGifts_152 : decode cX8_listGifts 152 = .ok (.iload 5, 2) := by decide +kernel
theorem dX8_listGifts_154 : decode cX8_listGifts 154 = .ok (.iaload, 1) := by decide +kernel
theorem dX8_listGifts_155 : decode cX8_listGifts 155 = .ok (.iload 6, 2) := by decide +kernel
theorem dX8_listGifts_157 : decode cX8_listGifts 157 = .ok (.iconst 2, 1) := by decide +kernel
theorem dX8_listGifts_158 : decode cX8_listGifts 158 = .ok (.irem, 1) := by decide +kernel
theorem dX8_listGifts_159 : decode cX8_listGifts 159 = .ok (.ifCond .ne 12, 3) := by decide +kernel
theorem dX8_listGifts_162 : decode cX8_listGifts 162 = .ok (.aload_n 0, 1) := by decide +kernel
theorem dX8_listGifts_163 : decode cX8_listGifts 163 = .ok (.getfield 24, 3) := by decide +kernel
theorem dX8_listGifts_166 : decode cX8_listGifts 166 = .ok (.iload_n 1, 1) := by decide +kernel
theorem dX8_listGifts_167 : decode cX8_listGifts 167 = .ok (.iaload, 1) := by decide +kernel
theorem dX8_listGifts_168 : decode cX8_listGifts 168 = .ok (.goto 9, 3) := by decide +kernel
theorem dX8_listGifts_171 : decode cX8_listGifts 171 = .ok (.aload_n 0, 1) := by decide +kernel
theorem dX8_listGifts_172 : decode cX8_listGifts 172 = .ok (.getfield 27, 3) := by decide +kernel
theorem dX8_listGifts_175 : decode cX8_listGifts 175 = .ok (.iload_n 1, 1) := by decide +kernel
theorem dX8_listGifts_176 : decode cX8_listGifts 176 = .ok (.iaload, 1) := by decide +kernel
theorem dX8_listGifts_177 : decode cX8_listGifts 177 = .ok (.invokevirtual 183, 3) := by decide +kernel
theorem dX8_listGifts_180 : decode cX8_listGifts 180 = .ok (.iinc 4 1, 3) := by decide +kernel
theorem dX8_listGifts_183 : decode cX8_listGifts 183 = .ok (.goto (-157), 3) := by decide +kernel
theorem dX8_listGifts_186 : decode cX8_listGifts 186 = .ok (.aload_n 0, 1) := by decide +kernel
theorem dX8_listGifts_187 : decode cX8_listGifts 187 = .ok (.getfield 21, 3) := by decide +kernel
theorem dX8_listGifts_190 : decode cX8_listGifts 190 = .ok (.iload_n 1, 1) := by decide +kernel
theorem dX8_listGifts_191 : decode cX8_listGifts 191 = .ok (.iaload, 1) := by decide +kernel
theorem dX8_listGifts_192 : decode cX8_listGifts 192 = .ok (.iconst 3, 1) := by decide +kernel
theorem dX8_listGifts_193 : decode cX8_listGifts 193 = .ok (.if_icmp .ne 29, 3) := by decide +kernel
theorem dX8_listGifts_196 : decode cX8_listGifts 196 = .ok (.aload_n 0, 1) := by decide +kernel
theorem dX8_listGifts_197 : decode cX8_listGifts 197 = .ok (.iload_n 2, 1) := by decide +kernel
theorem dX8_listGifts_198 : decode cX8_listGifts 198 = .ok (.iload_n 3, 1) := by decide +kernel
theorem dX8_listGifts_199 : decode cX8_listGifts 199 = .ok (.aload_n 0, 1) := by decide +kernel
theorem dX8_listGifts_200 : decode cX8_listGifts 200 = .ok (.getfield 14, 3) := by decide +kernel
theorem dX8_listGifts_203 : decode cX8_listGifts 203 = .ok (.aload_n 0, 1) := by decide +kernel
theorem dX8_listGifts_204 : decode cX8_listGifts 204 = .ok (.getfield 91, 3) := by decide +kernel
theorem dX8_listGifts_207 : decode cX8_listGifts 207 = .ok (.bipush 8, 2) := by decide +kernel
theorem dX8_listGifts_209 : decode cX8_listGifts 209 = .ok (.iload_n 2, 1) := by decide +kernel
theorem dX8_listGifts_210 : decode cX8_listGifts 210 = .ok (.imul, 1) := by decide +kernel
theorem dX8_listGifts_211 : decode cX8_listGifts 211 = .ok (.iaload, 1) := by decide +kernel
theorem dX8_listGifts_212 : decode cX8_listGifts 212 = .ok (.iaload, 1) := by decide +kernel
theorem dX8_listGifts_213 : decode cX8_listGifts 213 = .ok (.aload_n 0, 1) := by decide +kernel
theorem dX8_listGifts_214 : decode cX8_listGifts 214 = .ok (.getfield 24, 3) := by decide +kernel
theorem dX8_listGifts_217 : decode cX8_listGifts 217 = .ok (.iload_n 1, 1) := by decide +kernel
theorem dX8_listGifts_218 : decode cX8_listGifts 218 = .ok (.iaload, 1) := by decide +kernel
theorem dX8_listGifts_219 : decode cX8_listGifts 219 = .ok (.invokevirtual 183, 3) := by decide +kernel
theorem dX8_listGifts_222 : decode cX8_listGifts 222 = .ok (.return_, 1) := by decide +kernel
theorem dX8_finish_0 : decode cX8_finish 0 = .ok (.aload_n 0, 1) := by decide +kernel
theorem dX8_finish_1 : decode cX8_finish 1 = .ok (.getfield 67, 3) := by decide +kernel
theorem dX8_finish_4 : decode cX8_finish 4 = .ok (.iload_n 1, 1) := by decide +kernel
theorem dX8_finish_5 : decode cX8_finish 5 = .ok (.dup2, 1) := by decide +kernel
theorem dX8_finish_6 : decode cX8_finish 6 = .ok (.iaload, 1) := by decide +kernel
theorem dX8_finish_7 : decode cX8_finish 7 = .ok (.iconst 1, 1) := by decide +kernel
theorem dX8_finish_8 : decode cX8_finish 8 = .ok (.iadd, 1) := by decide +kernel
theorem dX8_finish_9 : decode cX8_finish 9 = .ok (.iastore, 1) := by decide +kernel
theorem dX8_finish_10 : decode cX8_finish 10 = .ok (.aload_n 0, 1) := by decide +kernel
theorem dX8_finish_11 : decode cX8_finish 11 = .ok (.getfield 70, 3) := by decide +kernel
theorem dX8_finish_14 : decode cX8_finish 14 = .ok (.iload_n 1, 1) := by decide +kernel
theorem dX8_finish_15 : decode cX8_finish 15 = .ok (.dup2, 1) := by decide +kernel
theorem dX8_finish_16 : decode cX8_finish 16 = .ok (.iaload, 1) := by decide +kernel
theorem dX8_finish_17 : decode cX8_finish 17 = .ok (.aload_n 0, 1) := by decide +kernel
theorem dX8_finish_18 : decode cX8_finish 18 = .ok (.getfield 88, 3) := by decide +kernel
theorem dX8_finish_21 : decode cX8_finish 21 = .ok (.iload_n 2, 1) := by decide +kernel
theorem dX8_finish_22 : decode cX8_finish 22 = .ok (.iaload, 1) := by decide +kernel
theorem dX8_finish_23 : decode cX8_finish 23 = .ok (.iadd, 1) := by decide +kernel
theorem dX8_finish_24 : decode cX8_finish 24 = .ok (.iastore, 1) := by decide +kernel
theorem dX8_finish_25 : decode cX8_finish 25 = .ok (.iconst 0, 1) := by decide +kernel
theorem dX8_finish_26 : decode cX8_finish 26 = .ok (.istore_n 3, 1) := by decide +kernel
theorem dX8_finish_27 : decode cX8_finish 27 = .ok (.iload_n 3, 1) := by decide +kernel
theorem dX8_finish_28 : decode cX8_finish 28 = .ok (.aload_n 0, 1) := by decide +kernel
theorem dX8_finish_29 : decode cX8_finish 29 = .ok (.getfield 88, 3) := by decide +kernel
theorem dX8_finish_32 : decode cX8_finish 32 = .ok (.iload_n 2, 1) := by decide +kernel
theorem dX8_finish_33 : decode cX8_finish 33 = .ok (.iaload, 1) := by decide +kernel
theorem dX8_finish_34 : decode cX8_finish 34 = .ok (.if_icmp .ge 154, 3) := by decide +kernel
theorem dX8_finish_37 : decode cX8_finish 37 = .ok (.aload_n 0, 1) := by decide +kernel
theorem dX8_finish_38 : decode cX8_finish 38 = .ok (.getfield 21, 3) := by decide +kernel
theorem dX8_finish_41 : decode cX8_finish 41 = .ok (.iload_n 1, 1) := by decide +kernel
theorem dX8_finish_42 : decode cX8_finish 42 = .ok (.iaload, 1) := by decide +kernel
theorem dX8_finish_43 : decode cX8_finish 43 = .ok (.iconst 4, 1) := by decide +kernel
theorem dX8_finish_44 : decode cX8_finish 44 = .ok (.if_icmp .ne 144, 3) := by decide +kernel
theorem dX8_finish_47 : decode cX8_finish 47 = .ok (.aload_n 0, 1) := by decide +kernel
theorem dX8_finish_48 : decode cX8_finish 48 = .ok (.getfield 91, 3) := by decide +kernel
theorem dX8_finish_51 : decode cX8_finish 51 = .ok (.bipush 8, 2) := by decide +kernel
theorem dX8_finish_53 : decode cX8_finish 53 = .ok (.iload_n 2, 1) := by decide +kernel
theorem dX8_finish_54 : decode cX8_finish 54 = .ok (.imul, 1) := by decide +kernel
theorem dX8_finish_55 : decode cX8_finish 55 = .ok (.iload_n 3, 1) := by decide +kernel
theorem dX8_finish_56 : decode cX8_finish 56 = .ok (.iadd, 1) := by decide +kernel
theorem dX8_finish_57 : decode cX8_finish 57 = .ok (.iaload, 1) := by decide +kernel
theorem dX8_finish_58 : decode cX8_finish 58 = .ok (.istore 4, 2) := by decide +kernel
theorem dX8_finish_60 : decode cX8_finish 60 = .ok (.aload_n 0, 1) := by decide +kernel
theorem dX8_finish_61 : decode cX8_finish 61 = .ok (.getfield 18, 3) := by decide +kernel
theorem dX8_finish_64 : decode cX8_finish 64 = .ok (.aload_n 0, 1) := by decide +kernel
theorem dX8_finish_65 : decode cX8_finish 65 = .ok (.getfield 187, 3) := by decide +kernel
theorem dX8_finish_68 : decode cX8_finish 68 = .ok (.iload 4, 2) := by decide +kernel
theorem dX8_finish_70 : decode cX8_finish 70 = .ok (.iastore, 1) := by decide +kernel
theorem dX8_finish_71 : decode cX8_finish 71 = .ok (.aload_n 0, 1) := by decide +kernel
theorem dX8_finish_72 : decode cX8_finish 72 = .ok (.dup, 1) := by decide +kernel
theorem dX8_finish_73 : decode cX8_finish 73 = .ok (.getfield 187, 3) := by decide +kernel
theorem dX8_finish_76 : decode cX8_finish 76 = .ok (.iconst 1, 1) := by decide +kernel
theorem dX8_finish_77 : decode cX8_finish 77 = .ok (.iadd, 1) := by decide +kernel
theorem dX8_finish_78 : decode cX8_finish 78 = .ok (.putfield 187, 3) := by decide +kernel
theorem dX8_finish_81 : decode cX8_finish 81 = .ok (.aload_n 0, 1) := by decide +kernel
theorem dX8_finish_82 : decode cX8_finish 82 = .ok (.getfield 79, 3) := by decide +kernel
theorem dX8_finish_85 : decode cX8_finish 85 = .ok (.iload_n 1, 1) := by decide +kernel
theorem dX8_finish_86 : decode cX8_finish 86 = .ok (.iaload, 1) := by decide +kernel
theorem dX8_finish_87 : decode cX8_finish 87 = .ok (.bipush 20, 2) := by decide +kernel
theorem dX8_finish_89 : decode cX8_finish 89 = .ok (.if_icmp .ne 55, 3) := by decide +kernel
theorem dX8_finish_92 : decode cX8_finish 92 = .ok (.iconst 1, 1) := by decide +kernel
theorem dX8_finish_93 : decode cX8_finish 93 = .ok (.istore 5, 2) := by decide +kernel
theorem dX8_finish_95 : decode cX8_finish 95 = .ok (.iload 5, 2) := by decide +kernel
theorem dX8_finish_97 : decode cX8_finish 97 = .ok (.bipush 20, 2) := by decide +kernel
theorem dX8_finish_99 : decode cX8_finish 99 = .ok (.if_icmp .ge 35, 3) := by decide +kernel
theorem dX8_finish_102 : decode cX8_finish 102 = .ok (.aload_n 0, 1) := by decide +kernel
theorem dX8_finish_103 : decode cX8_finish 103 = .ok (.getfield 82, 3) := by decide +kernel
theorem dX8_finish_106 : decode cX8_finish 106 = .ok (.bipush 20, 2) := by decide +kernel
theorem dX8_finish_108 : decode cX8_finish 108 = .ok (.iload_n 1, 1) := by decide +kernel
theorem dX8_finish_109 : decode cX8_finish 109 = .ok (.imul, 1) := by decide +kernel
theorem dX8_finish_110 : decode cX8_finish 110 = .ok (.iload 5, 2) := by decide +kernel
theorem dX8_finish_112 : decode cX8_finish 112 = .ok (.iadd, 1) := by decide +kernel
theorem dX8_finish_113 : decode cX8_finish 113 = .ok (.iconst 1, 1) := by decide +kernel
theorem dX8_finish_114 : decode cX8_finish 114 = .ok (.isub, 1) := by decide +kernel
theorem dX8_finish_115 : decode cX8_finish 115 = .ok (.aload_n 0, 1) := by decide +kernel
theorem dX8_finish_116 : decode cX8_finish 116 = .ok (.getfield 82, 3) := by decide +kernel
theorem dX8_finish_119 : decode cX8_finish 119 = .ok (.bipush 20, 2) := by decide +kernel
theorem dX8_finish_121 : decode cX8_finish 121 = .ok (.iload_n 1, 1) := by decide +kernel
theorem dX8_finish_122 : decode cX8_finish 122 = .ok (.imul, 1) := by decide +kernel
theorem dX8_finish_123 : decode cX8_finish 123 = .ok (.iload 5, 2) := by decide +kernel
theorem dX8_finish_125 : decode cX8_finish 125 = .ok (.iadd, 1) := by decide +kernel
theorem dX8_finish_126 : decode cX8_finish 126 = .ok (.iaload, 1) := by decide +kernel
theorem dX8_finish_127 : decode cX8_finish 127 = .ok (.iastore, 1) := by decide +kernel
theorem dX8_finish_128 : decode cX8_finish 128 = .ok (.iinc 5 1, 3) := by decide +kernel
theorem dX8_finish_131 : decode cX8_finish 131 = .ok (.goto (-36), 3) := by decide +kernel
theorem dX8_finish_134 : decode cX8_finish 134 = .ok (.aload_n 0, 1) := by decide +kernel
theorem dX8_finish_135 : decode cX8_finish 135 = .ok (.getfield 79, 3) := by decide +kernel
theorem dX8_finish_138 : decode cX8_finish 138 = .ok (.iload_n 1, 1) := by decide +kernel
theorem dX8_finish_139 : decode cX8_finish 139 = .ok (.dup2, 1) := by decide +kernel
theorem dX8_finish_140 : decode cX8_finish 140 = .ok (.iaload, 1) := by decide +kernel
theorem dX8_finish_141 : decode cX8_finish 141 = .ok (.iconst 1, 1) := by decide +kernel
theorem dX8_finish_142 : decode cX8_finish 142 = .ok (.isub, 1) := by decide +kernel
theorem dX8_finish_143 : decode cX8_finish 143 = .ok (.iastore, 1) := by decide +kernel
theorem dX8_finish_144 : decode cX8_finish 144 = .ok (.aload_n 0, 1) := by decide +kernel
theorem dX8_finish_145 : decode cX8_finish 145 = .ok (.getfield 82, 3) := by decide +kernel
theorem dX8_finish_148 : decode cX8_finish 148 = .ok (.bipush 20, 2) := by decide +kernel
theorem dX8_finish_150 : decode cX8_finish 150 = .ok (.iload_n 1, 1) := by decide +kernel
theorem dX8_finish_151 : decode cX8_finish 151 = .ok (.imul, 1) := by decide +kernel
theorem dX8_finish_152 : decode cX8_finish 152 = .ok (.aload_n 0, 1) := by decide +kernel
theorem dX8_finish_153 : decode cX8_finish 153 = .ok (.getfield 79, 3) := by decide +kernel
theorem dX8_finish_156 : decode cX8_finish 156 = .ok (.iload_n 1, 1) := by decide +kernel
theorem dX8_finish_157 : decode cX8_finish 157 = .ok (.iaload, 1) := by decide +kernel
theorem dX8_finish_158 : decode cX8_finish 158 = .ok (.iadd, 1) := by decide +kernel
theorem dX8_finish_159 : decode cX8_finish 159 = .ok (.aload_n 0, 1) := by decide +kernel
theorem dX8_finish_160 : decode cX8_finish 160 = .ok (.getfield 163, 3) := by decide +kernel
theorem dX8_finish_163 : decode cX8_finish 163 = .ok (.aload_n 0, 1) := by decide +kernel
theorem dX8_finish_164 : decode cX8_finish 164 = .ok (.getfield 14, 3) := by decide +kernel
theorem dX8_finish_167 : decode cX8_finish 167 = .ok (.iload 4, 2) := by decide +kernel
theorem dX8_finish_169 : decode cX8_finish 169 = .ok (.iaload, 1) := by decide +kernel
theorem dX8_finish_170 : decode cX8_finish 170 = .ok (.isub, 1) := by decide +kernel
theorem dX8_finish_171 : decode cX8_finish 171 = .ok (.iastore, 1) := by decide +kernel
theorem dX8_finish_172 : decode cX8_finish 172 = .ok (.aload_n 0, 1) := by decide +kernel
theorem dX8_finish_173 : decode cX8_finish 173 = .ok (.getfield 79, 3) := by decide +kernel
theorem dX8_finish_176 : decode cX8_finish 176 = .ok (.iload_n 1, 1) := by decide +kernel
theorem dX8_finish_177 : decode cX8_finish 177 = .ok (.dup2, 1) := by decide +kernel
theorem dX8_finish_178 : decode cX8_finish 178 = .ok (.iaload, 1) := by decide +kernel
theorem dX8_finish_179 : decode cX8_finish 179 = .ok (.iconst 1, 1) := by decide +kernel
theorem dX8_finish_180 : decode cX8_finish 180 = .ok (.iadd, 1) := by decide +kernel
theorem dX8_finish_181 : decode cX8_finish 181 = .ok (.iastore, 1) := by decide +kernel
theorem dX8_finish_182 : decode cX8_finish 182 = .ok (.iinc 3 1, 3) := by decide +kernel
theorem dX8_finish_185 : decode cX8_finish 185 = .ok (.goto (-158), 3) := by decide +kernel
theorem dX8_finish_188 : decode cX8_finish 188 = .ok (.aload_n 0, 1) := by decide +kernel
theorem dX8_finish_189 : decode cX8_finish 189 = .ok (.getfield 88, 3) := by decide +kernel
theorem dX8_finish_192 : decode cX8_finish 192 = .ok (.iload_n 2, 1) := by decide +kernel
theorem dX8_finish_193 : decode cX8_finish 193 = .ok (.iconst 0, 1) := by decide +kernel
theorem dX8_finish_194 : decode cX8_finish 194 = .ok (.iastore, 1) := by decide +kernel
theorem dX8_finish_195 : decode cX8_finish 195 = .ok (.aload_n 0, 1) := by decide +kernel
theorem dX8_finish_196 : decode cX8_finish 196 = .ok (.getfield 97, 3) := by decide +kernel
theorem dX8_finish_199 : decode cX8_finish 199 = .ok (.iload_n 2, 1) := by decide +kernel
theorem dX8_finish_200 : decode cX8_finish 200 = .ok (.iconst 0, 1) := by decide +kernel
theorem dX8_finish_201 : decode cX8_finish 201 = .ok (.bastore, 1) := by decide +kernel
theorem dX8_finish_202 : decode cX8_finish 202 = .ok (.return_, 1) := by decide +kernel
set_option maxRecDepth 20000 in
theorem ggX8_work_X8_give : GoodIn wsX8_work wsX8_give := goodIn_r _ [14, 15, 16, 17, 18, 19, 20, 21, 22, 23, 24, 13, 25, 1, 5, 26, 27, 28, 29, 30, 31, 32, 33, 34, 35, 36, 37, 38, 39, 40, 41, 42, 43, 44, 45, 46, 47, 48, 49, 50, 3, 51, 52, 53, 54, 55, 56, 6, 57, 58, 59, 60, 61, 62, 63, 64, 65, 66, 67, 68, 69, 70, 71, 72, 73, 74, 75, 76, 77, 78, 79, 80, 81, 82, 83, 84, 85, 86, 87, 88, 89, 90, 91, 92, 93, 94, 95, 96, 97, 98, 99, 100, 101, 102, 103, 104, 105, 106, 107, 108, 109, 110, 111, 112, 113, 114, 115] (by decide +kernel) (by decide +kernel)
set_option maxRecDepth 20000 in
theorem gX8_work_X8_give : GoodIn wsX8_work (wsV RX8 190 RX8 yX8_give wsX8_give) := goodIn_app (goodIn_of _ (by decide +kernel)) ggX8_work_X8_give
theorem dX8_work_0 : decode cX8_work 0 = .ok (.aload_n 0, 1) := by decide +kernel
theorem dX8_work_1 : decode cX8_work 1 = .ok (.getfield 88, 3) := by decide +kernel
theorem dX8_work_4 : decode cX8_work 4 = .ok (.iload_n 2, 1) := by decide +kernel
theorem dX8_work_5 : decode cX8_work 5 = .ok (.iaload, 1) := by decide +kernel
theorem dX8_work_6 : decode cX8_work 6 = .ok (.ifCond .le 41, 3) := by decide +kernel
theorem dX8_work_9 : decode cX8_work 9 = .ok (.aload_n 0, 1) := by decide +kernel
theorem dX8_work_10 : decode cX8_work 10 = .ok (.getfield 94, 3) := by decide +kernel
theorem dX8_work_13 : decode cX8_work 13 = .ok (.iload_n 2, 1) := by decide +kernel
theorem dX8_work_14 : decode cX8_work 14 = .ok (.dup2, 1) := by decide +kernel
theorem dX8_work_15 : decode cX8_work 15 = .ok (.iaload, 1) := by decide +kernel
theorem dX8_work_16 : decode cX8_work 16 = .ok (.aload_n 0, 1) := by decide +kernel
theorem dX8_work_17 : decode cX8_work 17 = .ok (.getfield 94, 3) := by decide +kernel
theorem dX8_work_20 : decode cX8_work 20 = .ok (.iload_n 2, 1) := by decide +kernel
theorem dX8_work_21 : decode cX8_work 21 = .ok (.iaload, 1) := by decide +kernel
theorem dX8_work_22 : decode cX8_work 22 = .ok (.ifCond .le 7, 3) := by decide +kernel
theorem dX8_work_25 : decode cX8_work 25 = .ok (.iconst 1, 1) := by decide +kernel
theorem dX8_work_26 : decode cX8_work 26 = .ok (.goto 4, 3) := by decide +kernel
theorem dX8_work_29 : decode cX8_work 29 = .ok (.iconst 0, 1) := by decide +kernel
theorem dX8_work_30 : decode cX8_work 30 = .ok (.isub, 1) := by decide +kernel
theorem dX8_work_31 : decode cX8_work 31 = .ok (.iastore, 1) := by decide +kernel
theorem dX8_work_32 : decode cX8_work 32 = .ok (.aload_n 0, 1) := by decide +kernel
theorem dX8_work_33 : decode cX8_work 33 = .ok (.getfield 94, 3) := by decide +kernel
theorem dX8_work_36 : decode cX8_work 36 = .ok (.iload_n 2, 1) := by decide +kernel
theorem dX8_work_37 : decode cX8_work 37 = .ok (.iaload, 1) := by decide +kernel
theorem dX8_work_38 : decode cX8_work 38 = .ok (.ifCond .ne 9, 3) := by decide +kernel
theorem dX8_work_41 : decode cX8_work 41 = .ok (.aload_n 0, 1) := by decide +kernel
theorem dX8_work_42 : decode cX8_work 42 = .ok (.iload_n 1, 1) := by decide +kernel
theorem dX8_work_43 : decode cX8_work 43 = .ok (.iload_n 2, 1) := by decide +kernel
theorem dX8_work_44 : decode cX8_work 44 = .ok (.invokevirtual 190, 3) := by decide +kernel
theorem dX8_work_47 : decode cX8_work 47 = .ok (.aload_n 0, 1) := by decide +kernel
theorem dX8_work_48 : decode cX8_work 48 = .ok (.getfield 88, 3) := by decide +kernel
theorem dX8_work_51 : decode cX8_work 51 = .ok (.iload_n 2, 1) := by decide +kernel
theorem dX8_work_52 : decode cX8_work 52 = .ok (.iaload, 1) := by decide +kernel
theorem dX8_work_53 : decode cX8_work 53 = .ok (.ifCond .ne 150, 3) := by decide +kernel
theorem dX8_work_56 : decode cX8_work 56 = .ok (.aload_n 0, 1) := by decide +kernel
theorem dX8_work_57 : decode cX8_work 57 = .ok (.getfield 73, 3) := by decide +kernel
theorem dX8_work_60 : decode cX8_work 60 = .ok (.iload_n 1, 1) := by decide +kernel
theorem dX8_work_61 : decode cX8_work 61 = .ok (.iaload, 1) := by decide +kernel
theorem dX8_work_62 : decode cX8_work 62 = .ok (.aload_n 0, 1) := by decide +kernel
theorem dX8_work_63 : decode cX8_work 63 = .ok (.getfield 54, 3) := by decide +kernel
theorem dX8_work_66 : decode cX8_work 66 = .ok (.iload_n 1, 1) := by decide +kernel
theorem dX8_work_67 : decode cX8_work 67 = .ok (.iaload, 1) := by decide +kernel
theorem dX8_work_68 : decode cX8_work 68 = .ok (.if_icmp .ge 12, 3) := by decide +kernel
theorem dX8_work_71 : decode cX8_work 71 = .ok (.aload_n 0, 1) := by decide +kernel
theorem dX8_work_72 : decode cX8_work 72 = .ok (.getfield 73, 3) := by decide +kernel
theorem dX8_work_75 : decode cX8_work 75 = .ok (.iload_n 1, 1) := by decide +kernel
theorem dX8_work_76 : decode cX8_work 76 = .ok (.iaload, 1) := by decide +kernel
theorem dX8_work_77 : decode cX8_work 77 = .ok (.goto 9, 3) := by decide +kernel
theorem dX8_work_80 : decode cX8_work 80 = .ok (.aload_n 0, 1) := by decide +kernel
theorem dX8_work_81 : decode cX8_work 81 = .ok (.getfield 54, 3) := by decide +kernel
theorem dX8_work_84 : decode cX8_work 84 = .ok (.iload_n 1, 1) := by decide +kernel
theorem dX8_work_85 : decode cX8_work 85 = .ok (.iaload, 1) := by decide +kernel
theorem dX8_work_86 : decode cX8_work 86 = .ok (.istore_n 3, 1) := by decide +kernel
theorem dX8_work_87 : decode cX8_work 87 = .ok (.iconst 0, 1) := by decide +kernel
theorem dX8_work_88 : decode cX8_work 88 = .ok (.istore 4, 2) := by decide +kernel
theorem dX8_work_90 : decode cX8_work 90 = .ok (.iload 4, 2) := by decide +kernel
theorem dX8_work_92 : decode cX8_work 92 = .ok (.iload_n 3, 1) := by decide +kernel
theorem dX8_work_93 : decode cX8_work 93 = .ok (.if_icmp .ge 33, 3) := by decide +kernel
theorem dX8_work_96 : decode cX8_work 96 = .ok (.aload_n 0, 1) := by decide +kernel
theorem dX8_work_97 : decode cX8_work 97 = .ok (.getfield 91, 3) := by decide +kernel
theorem dX8_work_100 : decode cX8_work 100 = .ok (.bipush 8, 2) := by decide +kernel
theorem dX8_work_102 : decode cX8_work 102 = .ok (.iload_n 2, 1) := by decide +kernel
theorem dX8_work_103 : decode cX8_work 103 = .ok (.imul, 1) := by decide +kernel
theorem dX8_work_104 : decode cX8_work 104 = .ok (.iload 4, 2) := by decide +kernel
theorem dX8_work_106 : decode cX8_work 106 = .ok (.iadd, 1) := by decide +kernel
theorem dX8_work_107 : decode cX8_work 107 = .ok (.aload_n 0, 1) := by decide +kernel
theorem dX8_work_108 : decode cX8_work 108 = .ok (.getfield 76, 3) := by decide +kernel
theorem dX8_work_111 : decode cX8_work 111 = .ok (.bipush 32, 2) := by decide +kernel
theorem dX8_work_113 : decode cX8_work 113 = .ok (.iload_n 1, 1) := by decide +kernel
theorem dX8_work_114 : decode cX8_work 114 = .ok (.imul, 1) := by decide +kernel
theorem dX8_work_115 : decode cX8_work 115 = .ok (.iload 4, 2) := by decide +kernel
theorem dX8_work_117 : decode cX8_work 117 = .ok (.iadd, 1) := by decide +kernel
theorem dX8_work_118 : decode cX8_work 118 = .ok (.iaload, 1) := by decide +kernel
theorem dX8_work_119 : decode cX8_work 119 = .ok (.iastore, 1) := by decide +kernel
theorem dX8_work_120 : decode cX8_work 120 = .ok (.iinc 4 1, 3) := by decide +kernel
theorem dX8_work_123 : decode cX8_work 123 = .ok (.goto (-33), 3) := by decide +kernel
theorem dX8_work_126 : decode cX8_work 126 = .ok (.aload_n 0, 1) := by decide +kernel
theorem dX8_work_127 : decode cX8_work 127 = .ok (.getfield 73, 3) := by decide +kernel
theorem dX8_work_130 : decode cX8_work 130 = .ok (.iload_n 1, 1) := by decide +kernel
theorem dX8_work_131 : decode cX8_work 131 = .ok (.dup2, 1) := by decide +kernel
theorem dX8_work_132 : decode cX8_work 132 = .ok (.iaload, 1) := by decide +kernel
theorem dX8_work_133 : decode cX8_work 133 = .ok (.iload_n 3, 1) := by decide +kernel
theorem dX8_work_134 : decode cX8_work 134 = .ok (.isub, 1) := by decide +kernel
theorem dX8_work_135 : decode cX8_work 135 = .ok (.iastore, 1) := by decide +kernel
theorem dX8_work_136 : decode cX8_work 136 = .ok (.iconst 0, 1) := by decide +kernel
theorem dX8_work_137 : decode cX8_work 137 = .ok (.istore 4, 2) := by decide +kernel
theorem dX8_work_139 : decode cX8_work 139 = .ok (.iload 4, 2) := by decide +kernel
theorem dX8_work_141 : decode cX8_work 141 = .ok (.aload_n 0, 1) := by decide +kernel
theorem dX8_work_142 : decode cX8_work 142 = .ok (.getfield 73, 3) := by decide +kernel
theorem dX8_work_145 : decode cX8_work 145 = .ok (.iload_n 1, 1) := by decide +kernel
theorem dX8_work_146 : decode cX8_work 146 = .ok (.iaload, 1) := by decide +kernel
theorem dX8_work_147 : decode cX8_work 147 = .ok (.if_icmp .ge 35, 3) := by decide +kernel
theorem dX8_work_150 : decode cX8_work 150 = .ok (.aload_n 0, 1) := by decide +kernel
theorem dX8_work_151 : decode cX8_work 151 = .ok (.getfield 76, 3) := by decide +kernel
theorem dX8_work_154 : decode cX8_work 154 = .ok (.bipush 32, 2) := by decide +kernel
theorem dX8_work_156 : decode cX8_work 156 = .ok (.iload_n 1, 1) := by decide +kernel
theorem dX8_work_157 : decode cX8_work 157 = .ok (.imul, 1) := by decide +kernel
theorem dX8_work_158 : decode cX8_work 158 = .ok (.iload 4, 2) := by decide +kernel
theorem dX8_work_160 : decode cX8_work 160 = .ok (.iadd, 1) := by decide +kernel
theorem dX8_work_161 : decode cX8_work 161 = .ok (.aload_n 0, 1) := by decide +kernel
theorem dX8_work_162 : decode cX8_work 162 = .ok (.getfield 76, 3) := by decide +kernel
theorem dX8_work_165 : decode cX8_work 165 = .ok (.bipush 32, 2) := by decide +kernel
theorem dX8_work_167 : decode cX8_work 167 = .ok (.iload_n 1, 1) := by decide +kernel
theorem dX8_work_168 : decode cX8_work 168 = .ok (.imul, 1) := by decide +kernel
theorem dX8_work_169 : decode cX8_work 169 = .ok (.iload 4, 2) := by decide +kernel
theorem dX8_work_171 : decode cX8_work 171 = .ok (.iadd, 1) := by decide +kernel
theorem dX8_work_172 : decode cX8_work 172 = .ok (.iload_n 3, 1) := by decide +kernel
theorem dX8_work_173 : decode cX8_work 173 = .ok (.iadd, 1) := by decide +kernel
theorem dX8_work_174 : decode cX8_work 174 = .ok (.iaload, 1) := by decide +kernel
theorem dX8_work_175 : decode cX8_work 175 = .ok (.iastore, 1) := by decide +kernel
theorem dX8_work_176 : decode cX8_work 176 = .ok (.iinc 4 1, 3) := by decide +kernel
theorem dX8_work_179 : decode cX8_work 179 = .ok (.goto (-40), 3) := by decide +kernel
theorem dX8_work_182 : decode cX8_work 182 = .ok (.aload_n 0, 1) := by decide +kernel
theorem dX8_work_183 : decode cX8_work 183 = .ok (.getfield 88, 3) := by decide +kernel
theorem dX8_work_186 : decode cX8_work 186 = .ok (.iload_n 2, 1) := by decide +kernel
theorem dX8_work_187 : decode cX8_work 187 = .ok (.iload_n 3, 1) := by decide +kernel
theorem dX8_work_188 : decode cX8_work 188 = .ok (.iastore, 1) := by decide +kernel
theorem dX8_work_189 : decode cX8_work 189 = .ok (.aload_n 0, 1) := by decide +kernel
theorem dX8_work_190 : decode cX8_work 190 = .ok (.getfield 94, 3) := by decide +kernel
theorem dX8_work_193 : decode cX8_work 193 = .ok (.iload_n 2, 1) := by decide +kernel
theorem dX8_work_194 : decode cX8_work 194 = .ok (.aload_n 0, 1) := by decide +kernel
theorem dX8_work_195 : decode cX8_work 195 = .ok (.getfield 57, 3) := by decide +kernel
theorem dX8_work_198 : decode cX8_work 198 = .ok (.iload_n 1, 1) := by decide +kernel
theorem dX8_work_199 : decode cX8_work 199 = .ok (.iaload, 1) := by decide +kernel
theorem dX8_work_200 : decode cX8_work 200 = .ok (.iload_n 3, 1) := by decide +kernel
theorem dX8_work_201 : decode cX8_work 201 = .ok (.imul, 1) := by decide +kernel
theorem dX8_work_202 : decode cX8_work 202 = .ok (.iastore, 1) := by decide +kernel
theorem dX8_work_203 : decode cX8_work 203 = .ok (.aload_n 0, 1) := by decide +kernel
theorem dX8_work_204 : decode cX8_work 204 = .ok (.getfield 118, 3) := by decide +kernel
theorem dX8_work_207 : decode cX8_work 207 = .ok (.iload_n 2, 1) := by decide +kernel
theorem dX8_work_208 : decode cX8_work 208 = .ok (.aload_n 0, 1) := by decide +kernel
theorem dX8_work_209 : decode cX8_work 209 = .ok (.getfield 88, 3) := by decide +kernel
theorem dX8_work_212 : decode cX8_work 212 = .ok (.iload_n 2, 1) := by decide +kernel
theorem dX8_work_213 : decode cX8_work 213 = .ok (.iaload, 1) := by decide +kernel
theorem dX8_work_214 : decode cX8_work 214 = .ok (.ifCond .ne 14, 3) := by decide +kernel
theorem dX8_work_217 : decode cX8_work 217 = .ok (.aload_n 0, 1) := by decide +kernel
theorem dX8_work_218 : decode cX8_work 218 = .ok (.getfield 118, 3) := by decide +kernel
theorem dX8_work_221 : decode cX8_work 221 = .ok (.iload_n 2, 1) := by decide +kernel
theorem dX8_work_222 : decode cX8_work 222 = .ok (.iaload, 1) := by decide +kernel
theorem dX8_work_223 : decode cX8_work 223 = .ok (.iconst 1, 1) := by decide +kernel
theorem dX8_work_224 : decode cX8_work 224 = .ok (.iadd, 1) := by decide +kernel
theorem dX8_work_225 : decode cX8_work 225 = .ok (.goto 4, 3) := by decide +kernel
theorem dX8_work_228 : decode cX8_work 228 = .ok (.iconst 0, 1) := by decide +kernel
theorem dX8_work_229 : decode cX8_work 229 = .ok (.iastore, 1) := by decide +kernel
theorem dX8_work_230 : decode cX8_work 230 = .ok (.aload_n 0, 1) := by decide +kernel
theorem dX8_work_231 : decode cX8_work 231 = .ok (.getfield 121, 3) := by decide +kernel
theorem dX8_work_234 : decode cX8_work 234 = .ok (.iload_n 2, 1) := by decide +kernel
theorem dX8_work_235 : decode cX8_work 235 = .ok (.dup2, 1) := by decide +kernel
theorem dX8_work_236 : decode cX8_work 236 = .ok (.iaload, 1) := by decide +kernel
theorem dX8_work_237 : decode cX8_work 237 = .ok (.iconst 1, 1) := by decide +kernel
theorem dX8_work_238 : decode cX8_work 238 = .ok (.iadd, 1) := by decide +kernel
theorem dX8_work_239 : decode cX8_work 239 = .ok (.iastore, 1) := by decide +kernel
theorem dX8_work_240 : decode cX8_work 240 = .ok (.return_, 1) := by decide +kernel
set_option maxRecDepth 20000 in
theorem ggX8_give_X8_listGifts : GoodIn wsX8_give wsX8_listGifts := goodIn_r _ [12, 1, 3, 2, 13, 14, 15, 16, 17, 18, 19, 20, 21, 22, 11, 23, 5, 6, 7, 4, 59, 60, 61, 62, 63, 64, 65, 66, 67, 68, 69, 70, 71, 72, 73, 74, 75, 76, 77, 78, 79, 80, 81, 82, 83, 84, 85, 86, 87, 88, 89, 90, 91, 92, 93, 94, 95, 96, 97, 98, 99, 100, 101, 102, 103, 104, 105, 106] (by decide +kernel) (by decide +kernel)
set_option maxRecDepth 20000 in
theorem gX8_give_X8_listGifts : GoodIn wsX8_give (wsV RX8 193 RX8 yX8_listGifts wsX8_listGifts) := goodIn_app (goodIn_of _ (by decide +kernel)) ggX8_give_X8_listGifts
set_option maxRecDepth 20000 in
theorem ggX8_give_X8_make : GoodIn wsX8_give wsX8_make := goodIn_r _ [27, 15, 28, 17, 59, 60, 61, 62, 63, 64, 65, 66, 67, 68, 69, 70, 71, 72, 73, 74, 75, 76, 77, 78, 79, 80, 81, 82, 83, 84, 85, 86, 87, 88, 89, 90, 91, 92, 93, 94, 95, 96, 97, 98, 99, 100, 101, 102, 103, 104, 105, 106] (by decide +kernel) (by decide +kernel)
set_option maxRecDepth 20000 in
theorem gX8_give_X8_make : GoodIn wsX8_give (wsV RX8 166 RX8 yX8_make wsX8_make) := goodIn_app (goodIn_of _ (by decide +kernel)) ggX8_give_X8_make
set_option maxRecDepth 20000 in
theorem ggX8_give_X8_offer : GoodIn wsX8_give wsX8_offer := goodIn_r _ [32, 33, 34, 35, 36, 37, 11, 38, 39, 40, 41, 42, 43, 44, 45, 46, 47, 59, 60, 61, 62, 63, 64, 65, 66, 67, 68, 69, 70, 71, 72, 73, 74, 75, 76, 77, 78, 79, 80, 81, 82, 83, 84, 85, 86, 87, 88, 89, 90, 91, 92, 93, 94, 95, 96, 97, 98, 99, 100, 101, 102, 103, 104, 105, 106] (by decide +kernel) (by decide +kernel)
set_option maxRecDepth 20000 in
theorem gX8_give_X8_offer : GoodIn wsX8_give (wsV RX8 159 RX8 yX8_offer wsX8_offer) := goodIn_app (goodIn_of _ (by decide +kernel)) ggX8_give_X8_offer
set_option maxRecDepth 20000 in
theorem ggX8_give_X8_finish : GoodIn wsX8_give wsX8_finish := goodIn_r _ [51, 52, 53, 13, 16, 14, 54, 55, 56, 57, 58, 17, 1, 59, 60, 61, 62, 63, 64, 65, 66, 67, 68, 69, 70, 71, 72, 73, 74, 75, 76, 77, 78, 79, 80, 81, 82, 83, 84, 85, 86, 87, 88, 89, 90, 91, 92, 93, 94, 95, 96, 97, 98, 99, 100, 101, 102, 103, 104, 105, 106] (by decide +kernel) (by decide +kernel)
set_option maxRecDepth 20000 in
theorem gX8_give_X8_finish : GoodIn wsX8_give (wsV RX8 196 RX8 yX8_finish wsX8_finish) := goodIn_app (goodIn_of _ (by decide +kernel)) ggX8_give_X8_finish
theorem dX8_give_0 : decode cX8_give 0 = .ok (.aload_n 0, 1) := by decide +kernel
theorem dX8_give_1 : decode cX8_give 1 = .ok (.getfield 97, 3) := by decide +kernel
theorem dX8_give_4 : decode cX8_give 4 = .ok (.iload_n 2, 1) := by decide +kernel
theorem dX8_give_5 : decode cX8_give 5 = .ok (.baload, 1) := by decide +kernel
theorem dX8_give_6 : decode cX8_give 6 = .ok (.ifCond .ne 9, 3) := by decide +kernel
theorem dX8_give_9 : decode cX8_give 9 = .ok (.aload_n 0, 1) := by decide +kernel
theorem dX8_give_10 : decode cX8_give 10 = .ok (.iload_n 1, 1) := by decide +kernel
theorem dX8_give_11 : decode cX8_give 11 = .ok (.iload_n 2, 1) := by decide +kernel
theorem dX8_give_12 : decode cX8_give 12 = .ok (.invokevirtual 193, 3) := by decide +kernel
theorem dX8_give_15 : decode cX8_give 15 = .ok (.iconst 1, 1) := by decide +kernel
theorem dX8_give_16 : decode cX8_give 16 = .ok (.istore_n 3, 1) := by decide +kernel
theorem dX8_give_17 : decode cX8_give 17 = .ok (.iload_n 3, 1) := by decide +kernel
theorem dX8_give_18 : decode cX8_give 18 = .ok (.ifCond .eq 106, 3) := by decide +kernel
theorem dX8_give_21 : decode cX8_give 21 = .ok (.aload_n 0, 1) := by decide +kernel
theorem dX8_give_22 : decode cX8_give 22 = .ok (.getfield 103, 3) := by decide +kernel
theorem dX8_give_25 : decode cX8_give 25 = .ok (.iload_n 2, 1) := by decide +kernel
theorem dX8_give_26 : decode cX8_give 26 = .ok (.iaload, 1) := by decide +kernel
theorem dX8_give_27 : decode cX8_give 27 = .ok (.aload_n 0, 1) := by decide +kernel
theorem dX8_give_28 : decode cX8_give 28 = .ok (.getfield 100, 3) := by decide +kernel
theorem dX8_give_31 : decode cX8_give 31 = .ok (.iload_n 2, 1) := by decide +kernel
theorem dX8_give_32 : decode cX8_give 32 = .ok (.iaload, 1) := by decide +kernel
theorem dX8_give_33 : decode cX8_give 33 = .ok (.if_icmp .ge 91, 3) := by decide +kernel
theorem dX8_give_36 : decode cX8_give 36 = .ok (.bipush 16, 2) := by decide +kernel
theorem dX8_give_38 : decode cX8_give 38 = .ok (.iload_n 2, 1) := by decide +kernel
theorem dX8_give_39 : decode cX8_give 39 = .ok (.imul, 1) := by decide +kernel
theorem dX8_give_40 : decode cX8_give 40 = .ok (.aload_n 0, 1) := by decide +kernel
theorem dX8_give_41 : decode cX8_give 41 = .ok (.getfield 103, 3) := by decide +kernel
theorem dX8_give_44 : decode cX8_give 44 = .ok (.iload_n 2, 1) := by decide +kernel
theorem dX8_give_45 : decode cX8_give 45 = .ok (.iaload, 1) := by decide +kernel
theorem dX8_give_46 : decode cX8_give 46 = .ok (.iadd, 1) := by decide +kernel
theorem dX8_give_47 : decode cX8_give 47 = .ok (.istore 4, 2) := by decide +kernel
theorem dX8_give_49 : decode cX8_give 49 = .ok (.aload_n 0, 1) := by decide +kernel
theorem dX8_give_50 : decode cX8_give 50 = .ok (.getfield 115, 3) := by decide +kernel
theorem dX8_give_53 : decode cX8_give 53 = .ok (.iload 4, 2) := by decide +kernel
theorem dX8_give_55 : decode cX8_give 55 = .ok (.iaload, 1) := by decide +kernel
theorem dX8_give_56 : decode cX8_give 56 = .ok (.ifCond .ge 28, 3) := by decide +kernel
theorem dX8_give_59 : decode cX8_give 59 = .ok (.aload_n 0, 1) := by decide +kernel
theorem dX8_give_60 : decode cX8_give 60 = .ok (.getfield 115, 3) := by decide +kernel
theorem dX8_give_63 : decode cX8_give 63 = .ok (.iload 4, 2) := by decide +kernel
theorem dX8_give_65 : decode cX8_give 65 = .ok (.aload_n 0, 1) := by decide +kernel
theorem dX8_give_66 : decode cX8_give 66 = .ok (.aload_n 0, 1) := by decide +kernel
theorem dX8_give_67 : decode cX8_give 67 = .ok (.getfield 106, 3) := by decide +kernel
theorem dX8_give_70 : decode cX8_give 70 = .ok (.iload 4, 2) := by decide +kernel
theorem dX8_give_72 : decode cX8_give 72 = .ok (.iaload, 1) := by decide +kernel
theorem dX8_give_73 : decode cX8_give 73 = .ok (.aload_n 0, 1) := by decide +kernel
theorem dX8_give_74 : decode cX8_give 74 = .ok (.getfield 109, 3) := by decide +kernel
theorem dX8_give_77 : decode cX8_give 77 = .ok (.iload 4, 2) := by decide +kernel
theorem dX8_give_79 : decode cX8_give 79 = .ok (.iaload, 1) := by decide +kernel
theorem dX8_give_80 : decode cX8_give 80 = .ok (.invokevirtual 166, 3) := by decide +kernel
theorem dX8_give_83 : decode cX8_give 83 = .ok (.iastore, 1) := by decide +kernel
theorem dX8_give_84 : decode cX8_give 84 = .ok (.aload_n 0, 1) := by decide +kernel
theorem dX8_give_85 : decode cX8_give 85 = .ok (.aload_n 0, 1) := by decide +kernel
theorem dX8_give_86 : decode cX8_give 86 = .ok (.getfield 112, 3) := by decide +kernel
theorem dX8_give_89 : decode cX8_give 89 = .ok (.iload 4, 2) := by decide +kernel
theorem dX8_give_91 : decode cX8_give 91 = .ok (.iaload, 1) := by decide +kernel
theorem dX8_give_92 : decode cX8_give 92 = .ok (.aload_n 0, 1) := by decide +kernel
theorem dX8_give_93 : decode cX8_give 93 = .ok (.getfield 115, 3) := by decide +kernel
theorem dX8_give_96 : decode cX8_give 96 = .ok (.iload 4, 2) := by decide +kernel
theorem dX8_give_98 : decode cX8_give 98 = .ok (.iaload, 1) := by decide +kernel
theorem dX8_give_99 : decode cX8_give 99 = .ok (.invokevirtual 159, 3) := by decide +kernel
theorem dX8_give_102 : decode cX8_give 102 = .ok (.istore_n 3, 1) := by decide +kernel
theorem dX8_give_103 : decode cX8_give 103 = .ok (.aload_n 0, 1) := by decide +kernel
theorem dX8_give_104 : decode cX8_give 104 = .ok (.getfield 103, 3) := by decide +kernel
theorem dX8_give_107 : decode cX8_give 107 = .ok (.iload_n 2, 1) := by decide +kernel
theorem dX8_give_108 : decode cX8_give 108 = .ok (.dup2, 1) := by decide +kernel
theorem dX8_give_109 : decode cX8_give 109 = .ok (.iaload, 1) := by decide +kernel
theorem dX8_give_110 : decode cX8_give 110 = .ok (.iload_n 3, 1) := by decide +kernel
theorem dX8_give_111 : decode cX8_give 111 = .ok (.ifCond .eq 7, 3) := by decide +kernel
theorem dX8_give_114 : decode cX8_give 114 = .ok (.iconst 1, 1) := by decide +kernel
theorem dX8_give_115 : decode cX8_give 115 = .ok (.goto 4, 3) := by decide +kernel
theorem dX8_give_118 : decode cX8_give 118 = .ok (.iconst 0, 1) := by decide +kernel
theorem dX8_give_119 : decode cX8_give 119 = .ok (.iadd, 1) := by decide +kernel
theorem dX8_give_120 : decode cX8_give 120 = .ok (.iastore, 1) := by decide +kernel
theorem dX8_give_121 : decode cX8_give 121 = .ok (.goto (-104), 3) := by decide +kernel
theorem dX8_give_124 : decode cX8_give 124 = .ok (.aload_n 0, 1) := by decide +kernel
theorem dX8_give_125 : decode cX8_give 125 = .ok (.getfield 103, 3) := by decide +kernel
theorem dX8_give_128 : decode cX8_give 128 = .ok (.iload_n 2, 1) := by decide +kernel
theorem dX8_give_129 : decode cX8_give 129 = .ok (.iaload, 1) := by decide +kernel
theorem dX8_give_130 : decode cX8_give 130 = .ok (.aload_n 0, 1) := by decide +kernel
theorem dX8_give_131 : decode cX8_give 131 = .ok (.getfield 100, 3) := by decide +kernel
theorem dX8_give_134 : decode cX8_give 134 = .ok (.iload_n 2, 1) := by decide +kernel
theorem dX8_give_135 : decode cX8_give 135 = .ok (.iaload, 1) := by decide +kernel
theorem dX8_give_136 : decode cX8_give 136 = .ok (.if_icmp .ne 9, 3) := by decide +kernel
theorem dX8_give_139 : decode cX8_give 139 = .ok (.aload_n 0, 1) := by decide +kernel
theorem dX8_give_140 : decode cX8_give 140 = .ok (.iload_n 1, 1) := by decide +kernel
theorem dX8_give_141 : decode cX8_give 141 = .ok (.iload_n 2, 1) := by decide +kernel
theorem dX8_give_142 : decode cX8_give 142 = .ok (.invokevirtual 196, 3) := by decide +kernel
theorem dX8_give_145 : decode cX8_give 145 = .ok (.return_, 1) := by decide +kernel
theorem dX8_response_0 : decode cX8_response 0 = .ok (.aload_n 0, 1) := by decide +kernel
theorem dX8_response_1 : decode cX8_response 1 = .ok (.getfield 79, 3) := by decide +kernel
theorem dX8_response_4 : decode cX8_response 4 = .ok (.iload_n 1, 1) := by decide +kernel
theorem dX8_response_5 : decode cX8_response 5 = .ok (.iaload, 1) := by decide +kernel
theorem dX8_response_6 : decode cX8_response 6 = .ok (.istore_n 2, 1) := by decide +kernel
theorem dX8_response_7 : decode cX8_response 7 = .ok (.iload_n 2, 1) := by decide +kernel
theorem dX8_response_8 : decode cX8_response 8 = .ok (.ifCond .ne 5, 3) := by decide +kernel
theorem dX8_response_11 : decode cX8_response 11 = .ok (.iconst 0, 1) := by decide +kernel
theorem dX8_response_12 : decode cX8_response 12 = .ok (.ireturn, 1) := by decide +kernel
theorem dX8_response_13 : decode cX8_response 13 = .ok (.iconst 0, 1) := by decide +kernel
theorem dX8_response_14 : decode cX8_response 14 = .ok (.istore_n 3, 1) := by decide +kernel
theorem dX8_response_15 : decode cX8_response 15 = .ok (.iload_n 3, 1) := by decide +kernel
theorem dX8_response_16 : decode cX8_response 16 = .ok (.iload_n 2, 1) := by decide +kernel
theorem dX8_response_17 : decode cX8_response 17 = .ok (.if_icmp .ge 75, 3) := by decide +kernel
theorem dX8_response_20 : decode cX8_response 20 = .ok (.aload_n 0, 1) := by decide +kernel
theorem dX8_response_21 : decode cX8_response 21 = .ok (.getfield 82, 3) := by decide +kernel
theorem dX8_response_24 : decode cX8_response 24 = .ok (.bipush 20, 2) := by decide +kernel
theorem dX8_response_26 : decode cX8_response 26 = .ok (.iload_n 1, 1) := by decide +kernel
theorem dX8_response_27 : decode cX8_response 27 = .ok (.imul, 1) := by decide +kernel
theorem dX8_response_28 : decode cX8_response 28 = .ok (.iload_n 3, 1) := by decide +kernel
theorem dX8_response_29 : decode cX8_response 29 = .ok (.iadd, 1) := by decide +kernel
theorem dX8_response_30 : decode cX8_response 30 = .ok (.iaload, 1) := by decide +kernel
theorem dX8_response_31 : decode cX8_response 31 = .ok (.istore 4, 2) := by decide +kernel
theorem dX8_response_33 : decode cX8_response 33 = .ok (.iload_n 3, 1) := by decide +kernel
theorem dX8_response_34 : decode cX8_response 34 = .ok (.istore 5, 2) := by decide +kernel
theorem dX8_response_36 : decode cX8_response 36 = .ok (.iload 5, 2) := by decide +kernel
theorem dX8_response_38 : decode cX8_response 38 = .ok (.ifCond .le 39, 3) := by decide +kernel
theorem dX8_response_41 : decode cX8_response 41 = .ok (.aload_n 0, 1) := by decide +kernel
theorem dX8_response_42 : decode cX8_response 42 = .ok (.getfield 85, 3) := by decide +kernel
theorem dX8_response_45 : decode cX8_response 45 = .ok (.iload 5, 2) := by decide +kernel
theorem dX8_response_47 : decode cX8_response 47 = .ok (.iconst 1, 1) := by decide +kernel
theorem dX8_response_48 : decode cX8_response 48 = .ok (.isub, 1) := by decide +kernel
theorem dX8_response_49 : decode cX8_response 49 = .ok (.iaload, 1) := by decide +kernel
theorem dX8_response_50 : decode cX8_response 50 = .ok (.iload 4, 2) := by decide +kernel
theorem dX8_response_52 : decode cX8_response 52 = .ok (.if_icmp .le 25, 3) := by decide +kernel
theorem dX8_response_55 : decode cX8_response 55 = .ok (.aload_n 0, 1) := by decide +kernel
theorem dX8_response_56 : decode cX8_response 56 = .ok (.getfield 85, 3) := by decide +kernel
theorem dX8_response_59 : decode cX8_response 59 = .ok (.iload 5, 2) := by decide +kernel
theorem dX8_response_61 : decode cX8_response 61 = .ok (.aload_n 0, 1) := by decide +kernel
theorem dX8_response_62 : decode cX8_response 62 = .ok (.getfield 85, 3) := by decide +kernel
theorem dX8_response_65 : decode cX8_response 65 = .ok (.iload 5, 2) := by decide +kernel
theorem dX8_response_67 : decode cX8_response 67 = .ok (.iconst 1, 1) := by decide +kernel
theorem dX8_response_68 : decode cX8_response 68 = .ok (.isub, 1) := by decide +kernel
theorem dX8_response_69 : decode cX8_response 69 = .ok (.iaload, 1) := by decide +kernel
theorem dX8_response_70 : decode cX8_response 70 = .ok (.iastore, 1) := by decide +kernel
theorem dX8_response_71 : decode cX8_response 71 = .ok (.iinc 5 (-1), 3) := by decide +kernel
theorem dX8_response_74 : decode cX8_response 74 = .ok (.goto (-38), 3) := by decide +kernel
theorem dX8_response_77 : decode cX8_response 77 = .ok (.aload_n 0, 1) := by decide +kernel
theorem dX8_response_78 : decode cX8_response 78 = .ok (.getfield 85, 3) := by decide +kernel
theorem dX8_response_81 : decode cX8_response 81 = .ok (.iload 5, 2) := by decide +kernel
theorem dX8_response_83 : decode cX8_response 83 = .ok (.iload 4, 2) := by decide +kernel
theorem dX8_response_85 : decode cX8_response 85 = .ok (.iastore, 1) := by decide +kernel
theorem dX8_response_86 : decode cX8_response 86 = .ok (.iinc 3 1, 3) := by decide +kernel
theorem dX8_response_89 : decode cX8_response 89 = .ok (.goto (-74), 3) := by decide +kernel
theorem dX8_response_92 : decode cX8_response 92 = .ok (.aload_n 0, 1) := by decide +kernel
theorem dX8_response_93 : decode cX8_response 93 = .ok (.getfield 85, 3) := by decide +kernel
theorem dX8_response_96 : decode cX8_response 96 = .ok (.bipush 9, 2) := by decide +kernel
theorem dX8_response_98 : decode cX8_response 98 = .ok (.iload_n 2, 1) := by decide +kernel
theorem dX8_response_99 : decode cX8_response 99 = .ok (.imul, 1) := by decide +kernel
theorem dX8_response_100 : decode cX8_response 100 = .ok (.bipush 10, 2) := by decide +kernel
theorem dX8_response_102 : decode cX8_response 102 = .ok (.idiv, 1) := by decide +kernel
theorem dX8_response_103 : decode cX8_response 103 = .ok (.iaload, 1) := by decide +kernel
theorem dX8_response_104 : decode cX8_response 104 = .ok (.ireturn, 1) := by decide +kernel
set_option maxRecDepth 20000 in
theorem ggX8_control_X8_response : GoodIn wsX8_control wsX8_response := goodIn_r _ [19, 13, 20, 21, 22, 23, 24, 25, 26, 27, 28, 29, 30, 31, 32, 33, 34, 35, 36, 37, 38, 39, 40, 41, 42, 43, 44, 45, 46, 47, 48, 49, 50, 51, 52, 53, 54, 55, 56, 57, 58, 59, 60, 61, 62, 63, 64, 65, 66, 67, 68, 69] (by decide +kernel) (by decide +kernel)
set_option maxRecDepth 20000 in
theorem gX8_control_X8_response : GoodIn wsX8_control (wsV RX8 199 RX8 yX8_response wsX8_response) := goodIn_app (goodIn_of _ (by decide +kernel)) ggX8_control_X8_response
theorem dX8_control_0 : decode cX8_control 0 = .ok (.iconst 4, 1) := by decide +kernel
theorem dX8_control_1 : decode cX8_control 1 = .ok (.iload_n 1, 1) := by decide +kernel
theorem dX8_control_2 : decode cX8_control 2 = .ok (.imul, 1) := by decide +kernel
theorem dX8_control_3 : decode cX8_control 3 = .ok (.aload_n 0, 1) := by decide +kernel
theorem dX8_control_4 : decode cX8_control 4 = .ok (.getfield 48, 3) := by decide +kernel
theorem dX8_control_7 : decode cX8_control 7 = .ok (.iload_n 1, 1) := by decide +kernel
theorem dX8_control_8 : decode cX8_control 8 = .ok (.iaload, 1) := by decide +kernel
theorem dX8_control_9 : decode cX8_control 9 = .ok (.iadd, 1) := by decide +kernel
theorem dX8_control_10 : decode cX8_control 10 = .ok (.iconst 1, 1) := by decide +kernel
theorem dX8_control_11 : decode cX8_control 11 = .ok (.isub, 1) := by decide +kernel
theorem dX8_control_12 : decode cX8_control 12 = .ok (.istore_n 2, 1) := by decide +kernel
theorem dX8_control_13 : decode cX8_control 13 = .ok (.aload_n 0, 1) := by decide +kernel
theorem dX8_control_14 : decode cX8_control 14 = .ok (.getfield 73, 3) := by decide +kernel
theorem dX8_control_17 : decode cX8_control 17 = .ok (.iload_n 1, 1) := by decide +kernel
theorem dX8_control_18 : decode cX8_control 18 = .ok (.iaload, 1) := by decide +kernel
theorem dX8_control_19 : decode cX8_control 19 = .ok (.aload_n 0, 1) := by decide +kernel
theorem dX8_control_20 : decode cX8_control 20 = .ok (.getfield 30, 3) := by decide +kernel
theorem dX8_control_23 : decode cX8_control 23 = .ok (.iload_n 1, 1) := by decide +kernel
theorem dX8_control_24 : decode cX8_control 24 = .ok (.iaload, 1) := by decide +kernel
theorem dX8_control_25 : decode cX8_control 25 = .ok (.iconst 2, 1) := by decide +kernel
theorem dX8_control_26 : decode cX8_control 26 = .ok (.idiv, 1) := by decide +kernel
theorem dX8_control_27 : decode cX8_control 27 = .ok (.if_icmp .le 76, 3) := by decide +kernel
theorem dX8_control_30 : decode cX8_control 30 = .ok (.aload_n 0, 1) := by decide +kernel
theorem dX8_control_31 : decode cX8_control 31 = .ok (.getfield 48, 3) := by decide +kernel
theorem dX8_control_34 : decode cX8_control 34 = .ok (.iload_n 1, 1) := by decide +kernel
theorem dX8_control_35 : decode cX8_control 35 = .ok (.iaload, 1) := by decide +kernel
theorem dX8_control_36 : decode cX8_control 36 = .ok (.aload_n 0, 1) := by decide +kernel
theorem dX8_control_37 : decode cX8_control 37 = .ok (.getfield 51, 3) := by decide +kernel
theorem dX8_control_40 : decode cX8_control 40 = .ok (.iload_n 1, 1) := by decide +kernel
theorem dX8_control_41 : decode cX8_control 41 = .ok (.iaload, 1) := by decide +kernel
theorem dX8_control_42 : decode cX8_control 42 = .ok (.if_icmp .ge 61, 3) := by decide +kernel
theorem dX8_control_45 : decode cX8_control 45 = .ok (.aload_n 0, 1) := by decide +kernel
theorem dX8_control_46 : decode cX8_control 46 = .ok (.getfield 118, 3) := by decide +kernel
theorem dX8_control_49 : decode cX8_control 49 = .ok (.iload_n 2, 1) := by decide +kernel
theorem dX8_control_50 : decode cX8_control 50 = .ok (.iconst 1, 1) := by decide +kernel
theorem dX8_control_51 : decode cX8_control 51 = .ok (.iadd, 1) := by decide +kernel
theorem dX8_control_52 : decode cX8_control 52 = .ok (.iconst 0, 1) := by decide +kernel
theorem dX8_control_53 : decode cX8_control 53 = .ok (.iastore, 1) := by decide +kernel
theorem dX8_control_54 : decode cX8_control 54 = .ok (.aload_n 0, 1) := by decide +kernel
theorem dX8_control_55 : decode cX8_control 55 = .ok (.getfield 121, 3) := by decide +kernel
theorem dX8_control_58 : decode cX8_control 58 = .ok (.iload_n 2, 1) := by decide +kernel
theorem dX8_control_59 : decode cX8_control 59 = .ok (.iconst 1, 1) := by decide +kernel
theorem dX8_control_60 : decode cX8_control 60 = .ok (.iadd, 1) := by decide +kernel
theorem dX8_control_61 : decode cX8_control 61 = .ok (.iconst 0, 1) := by decide +kernel
theorem dX8_control_62 : decode cX8_control 62 = .ok (.iastore, 1) := by decide +kernel
theorem dX8_control_63 : decode cX8_control 63 = .ok (.aload_n 0, 1) := by decide +kernel
theorem dX8_control_64 : decode cX8_control 64 = .ok (.getfield 88, 3) := by decide +kernel
theorem dX8_control_67 : decode cX8_control 67 = .ok (.iload_n 2, 1) := by decide +kernel
theorem dX8_control_68 : decode cX8_control 68 = .ok (.iconst 1, 1) := by decide +kernel
theorem dX8_control_69 : decode cX8_control 69 = .ok (.iadd, 1) := by decide +kernel
theorem dX8_control_70 : decode cX8_control 70 = .ok (.iconst 0, 1) := by decide +kernel
theorem dX8_control_71 : decode cX8_control 71 = .ok (.iastore, 1) := by decide +kernel
theorem dX8_control_72 : decode cX8_control 72 = .ok (.aload_n 0, 1) := by decide +kernel
theorem dX8_control_73 : decode cX8_control 73 = .ok (.getfield 94, 3) := by decide +kernel
theorem dX8_control_76 : decode cX8_control 76 = .ok (.iload_n 2, 1) := by decide +kernel
theorem dX8_control_77 : decode cX8_control 77 = .ok (.iconst 1, 1) := by decide +kernel
theorem dX8_control_78 : decode cX8_control 78 = .ok (.iadd, 1) := by decide +kernel
theorem dX8_control_79 : decode cX8_control 79 = .ok (.iconst 0, 1) := by decide +kernel
theorem dX8_control_80 : decode cX8_control 80 = .ok (.iastore, 1) := by decide +kernel
theorem dX8_control_81 : decode cX8_control 81 = .ok (.aload_n 0, 1) := by decide +kernel
theorem dX8_control_82 : decode cX8_control 82 = .ok (.getfield 97, 3) := by decide +kernel
theorem dX8_control_85 : decode cX8_control 85 = .ok (.iload_n 2, 1) := by decide +kernel
theorem dX8_control_86 : decode cX8_control 86 = .ok (.iconst 1, 1) := by decide +kernel
theorem dX8_control_87 : decode cX8_control 87 = .ok (.iadd, 1) := by decide +kernel
theorem dX8_control_88 : decode cX8_control 88 = .ok (.iconst 0, 1) := by decide +kernel
theorem dX8_control_89 : decode cX8_control 89 = .ok (.bastore, 1) := by decide +kernel
theorem dX8_control_90 : decode cX8_control 90 = .ok (.aload_n 0, 1) := by decide +kernel
theorem dX8_control_91 : decode cX8_control 91 = .ok (.getfield 48, 3) := by decide +kernel
theorem dX8_control_94 : decode cX8_control 94 = .ok (.iload_n 1, 1) := by decide +kernel
theorem dX8_control_95 : decode cX8_control 95 = .ok (.dup2, 1) := by decide +kernel
theorem dX8_control_96 : decode cX8_control 96 = .ok (.iaload, 1) := by decide +kernel
theorem dX8_control_97 : decode cX8_control 97 = .ok (.iconst 1, 1) := by decide +kernel
theorem dX8_control_98 : decode cX8_control 98 = .ok (.iadd, 1) := by decide +kernel
theorem dX8_control_99 : decode cX8_control 99 = .ok (.iastore, 1) := by decide +kernel
theorem dX8_control_100 : decode cX8_control 100 = .ok (.goto 58, 3) := by decide +kernel
theorem dX8_control_103 : decode cX8_control 103 = .ok (.aload_n 0, 1) := by decide +kernel
theorem dX8_control_104 : decode cX8_control 104 = .ok (.getfield 48, 3) := by decide +kernel
theorem dX8_control_107 : decode cX8_control 107 = .ok (.iload_n 1, 1) := by decide +kernel
theorem dX8_control_108 : decode cX8_control 108 = .ok (.iaload, 1) := by decide +kernel
theorem dX8_control_109 : decode cX8_control 109 = .ok (.iconst 1, 1) := by decide +kernel
theorem dX8_control_110 : decode cX8_control 110 = .ok (.if_icmp .le 48, 3) := by decide +kernel
theorem dX8_control_113 : decode cX8_control 113 = .ok (.aload_n 0, 1) := by decide +kernel
theorem dX8_control_114 : decode cX8_control 114 = .ok (.getfield 88, 3) := by decide +kernel
theorem dX8_control_117 : decode cX8_control 117 = .ok (.iload_n 2, 1) := by decide +kernel
theorem dX8_control_118 : decode cX8_control 118 = .ok (.iaload, 1) := by decide +kernel
theorem dX8_control_119 : decode cX8_control 119 = .ok (.ifCond .ne 39, 3) := by decide +kernel
theorem dX8_control_122 : decode cX8_control 122 = .ok (.aload_n 0, 1) := by decide +kernel
theorem dX8_control_123 : decode cX8_control 123 = .ok (.getfield 118, 3) := by decide +kernel
theorem dX8_control_126 : decode cX8_control 126 = .ok (.iload_n 2, 1) := by decide +kernel
theorem dX8_control_127 : decode cX8_control 127 = .ok (.iaload, 1) := by decide +kernel
theorem dX8_control_128 : decode cX8_control 128 = .ok (.bipush 10, 2) := by decide +kernel
theorem dX8_control_130 : decode cX8_control 130 = .ok (.if_icmp .ge 18, 3) := by decide +kernel
theorem dX8_control_133 : decode cX8_control 133 = .ok (.aload_n 0, 1) := by decide +kernel
theorem dX8_control_134 : decode cX8_control 134 = .ok (.getfield 118, 3) := by decide +kernel
theorem dX8_control_137 : decode cX8_control 137 = .ok (.iload_n 2, 1) := by decide +kernel
theorem dX8_control_138 : decode cX8_control 138 = .ok (.iaload, 1) := by decide +kernel
theorem dX8_control_139 : decode cX8_control 139 = .ok (.aload_n 0, 1) := by decide +kernel
theorem dX8_control_140 : decode cX8_control 140 = .ok (.getfield 121, 3) := by decide +kernel
theorem dX8_control_143 : decode cX8_control 143 = .ok (.iload_n 2, 1) := by decide +kernel
theorem dX8_control_144 : decode cX8_control 144 = .ok (.iaload, 1) := by decide +kernel
theorem dX8_control_145 : decode cX8_control 145 = .ok (.if_icmp .lt 13, 3) := by decide +kernel
theorem dX8_control_148 : decode cX8_control 148 = .ok (.aload_n 0, 1) := by decide +kernel
theorem dX8_control_149 : decode cX8_control 149 = .ok (.getfield 48, 3) := by decide +kernel
theorem dX8_control_152 : decode cX8_control 152 = .ok (.iload_n 1, 1) := by decide +kernel
theorem dX8_control_153 : decode cX8_control 153 = .ok (.dup2, 1) := by decide +kernel
theorem dX8_control_154 : decode cX8_control 154 = .ok (.iaload, 1) := by decide +kernel
theorem dX8_control_155 : decode cX8_control 155 = .ok (.iconst 1, 1) := by decide +kernel
theorem dX8_control_156 : decode cX8_control 156 = .ok (.isub, 1) := by decide +kernel
theorem dX8_control_157 : decode cX8_control 157 = .ok (.iastore, 1) := by decide +kernel
theorem dX8_control_158 : decode cX8_control 158 = .ok (.aload_n 0, 1) := by decide +kernel
theorem dX8_control_159 : decode cX8_control 159 = .ok (.getfield 21, 3) := by decide +kernel
theorem dX8_control_162 : decode cX8_control 162 = .ok (.iload_n 1, 1) := by decide +kernel
theorem dX8_control_163 : decode cX8_control 163 = .ok (.iaload, 1) := by decide +kernel
theorem dX8_control_164 : decode cX8_control 164 = .ok (.iconst 4, 1) := by decide +kernel
theorem dX8_control_165 : decode cX8_control 165 = .ok (.if_icmp .eq 79, 3) := by decide +kernel
theorem dX8_control_168 : decode cX8_control 168 = .ok (.aload_n 0, 1) := by decide +kernel
theorem dX8_control_169 : decode cX8_control 169 = .ok (.getfield 73, 3) := by decide +kernel
theorem dX8_control_172 : decode cX8_control 172 = .ok (.iload_n 1, 1) := by decide +kernel
theorem dX8_control_173 : decode cX8_control 173 = .ok (.iaload, 1) := by decide +kernel
theorem dX8_control_174 : decode cX8_control 174 = .ok (.aload_n 0, 1) := by decide +kernel
theorem dX8_control_175 : decode cX8_control 175 = .ok (.getfield 54, 3) := by decide +kernel
theorem dX8_control_178 : decode cX8_control 178 = .ok (.iload_n 1, 1) := by decide +kernel
theorem dX8_control_179 : decode cX8_control 179 = .ok (.iaload, 1) := by decide +kernel
theorem dX8_control_180 : decode cX8_control 180 = .ok (.if_icmp .le 31, 3) := by decide +kernel
theorem dX8_control_183 : decode cX8_control 183 = .ok (.aload_n 0, 1) := by decide +kernel
theorem dX8_control_184 : decode cX8_control 184 = .ok (.getfield 54, 3) := by decide +kernel
theorem dX8_control_187 : decode cX8_control 187 = .ok (.iload_n 1, 1) := by decide +kernel
theorem dX8_control_188 : decode cX8_control 188 = .ok (.dup2, 1) := by decide +kernel
theorem dX8_control_189 : decode cX8_control 189 = .ok (.iaload, 1) := by decide +kernel
theorem dX8_control_190 : decode cX8_control 190 = .ok (.aload_n 0, 1) := by decide +kernel
theorem dX8_control_191 : decode cX8_control 191 = .ok (.getfield 54, 3) := by decide +kernel
theorem dX8_control_194 : decode cX8_control 194 = .ok (.iload_n 1, 1) := by decide +kernel
theorem dX8_control_195 : decode cX8_control 195 = .ok (.iaload, 1) := by decide +kernel
theorem dX8_control_196 : decode cX8_control 196 = .ok (.bipush 8, 2) := by decide +kernel
theorem dX8_control_198 : decode cX8_control 198 = .ok (.if_icmp .ge 7, 3) := by decide +kernel
theorem dX8_control_201 : decode cX8_control 201 = .ok (.iconst 1, 1) := by decide +kernel
theorem dX8_control_202 : decode cX8_control 202 = .ok (.goto 4, 3) := by decide +kernel
theorem dX8_control_205 : decode cX8_control 205 = .ok (.iconst 0, 1) := by decide +kernel
theorem dX8_control_206 : decode cX8_control 206 = .ok (.iadd, 1) := by decide +kernel
theorem dX8_control_207 : decode cX8_control 207 = .ok (.iastore, 1) := by decide +kernel
theorem dX8_control_208 : decode cX8_control 208 = .ok (.goto 36, 3) := by decide +kernel
theorem dX8_control_211 : decode cX8_control 211 = .ok (.aload_n 0, 1) := by decide +kernel
theorem dX8_control_212 : decode cX8_control 212 = .ok (.getfield 73, 3) := by decide +kernel
theorem dX8_control_215 : decode cX8_control 215 = .ok (.iload_n 1, 1) := by decide +kernel
theorem dX8_control_216 : decode cX8_control 216 = .ok (.iaload, 1) := by decide +kernel
theorem dX8_control_217 : decode cX8_control 217 = .ok (.ifCond .ne 27, 3) := by decide +kernel
theorem dX8_control_220 : decode cX8_control 220 = .ok (.aload_n 0, 1) := by decide +kernel
theorem dX8_control_221 : decode cX8_control 221 = .ok (.getfield 54, 3) := by decide +kernel
theorem dX8_control_224 : decode cX8_control 224 = .ok (.iload_n 1, 1) := by decide +kernel
theorem dX8_control_225 : decode cX8_control 225 = .ok (.dup2, 1) := by decide +kernel
theorem dX8_control_226 : decode cX8_control 226 = .ok (.iaload, 1) := by decide +kernel
theorem dX8_control_227 : decode cX8_control 227 = .ok (.aload_n 0, 1) := by decide +kernel
theorem dX8_control_228 : decode cX8_control 228 = .ok (.getfield 54, 3) := by decide +kernel
theorem dX8_control_231 : decode cX8_control 231 = .ok (.iload_n 1, 1) := by decide +kernel
theorem dX8_control_232 : decode cX8_control 232 = .ok (.iaload, 1) := by decide +kernel
theorem dX8_control_233 : decode cX8_control 233 = .ok (.iconst 1, 1) := by decide +kernel
theorem dX8_control_234 : decode cX8_control 234 = .ok (.if_icmp .le 7, 3) := by decide +kernel
theorem dX8_control_237 : decode cX8_control 237 = .ok (.iconst 1, 1) := by decide +kernel
theorem dX8_control_238 : decode cX8_control 238 = .ok (.goto 4, 3) := by decide +kernel
theorem dX8_control_241 : decode cX8_control 241 = .ok (.iconst 0, 1) := by decide +kernel
theorem dX8_control_242 : decode cX8_control 242 = .ok (.isub, 1) := by decide +kernel
theorem dX8_control_243 : decode cX8_control 243 = .ok (.iastore, 1) := by decide +kernel
theorem dX8_control_244 : decode cX8_control 244 = .ok (.aload_n 0, 1) := by decide +kernel
theorem dX8_control_245 : decode cX8_control 245 = .ok (.getfield 45, 3) := by decide +kernel
theorem dX8_control_248 : decode cX8_control 248 = .ok (.iload_n 1, 1) := by decide +kernel
theorem dX8_control_249 : decode cX8_control 249 = .ok (.iaload, 1) := by decide +kernel
theorem dX8_control_250 : decode cX8_control 250 = .ok (.ifCond .le 88, 3) := by decide +kernel
theorem dX8_control_253 : decode cX8_control 253 = .ok (.aload_n 0, 1) := by decide +kernel
theorem dX8_control_254 : decode cX8_control 254 = .ok (.getfield 79, 3) := by decide +kernel
theorem dX8_control_257 : decode cX8_control 257 = .ok (.iload_n 1, 1) := by decide +kernel
theorem dX8_control_258 : decode cX8_control 258 = .ok (.iaload, 1) := by decide +kernel
theorem dX8_control_259 : decode cX8_control 259 = .ok (.ifCond .le 79, 3) := by decide +kernel
theorem dX8_control_262 : decode cX8_control 262 = .ok (.aload_n 0, 1) := by decide +kernel
theorem dX8_control_263 : decode cX8_control 263 = .ok (.iload_n 1, 1) := by decide +kernel
theorem dX8_control_264 : decode cX8_control 264 = .ok (.invokevirtual 199, 3) := by decide +kernel
theorem dX8_control_267 : decode cX8_control 267 = .ok (.aload_n 0, 1) := by decide +kernel
theorem dX8_control_268 : decode cX8_control 268 = .ok (.getfield 45, 3) := by decide +kernel
theorem dX8_control_271 : decode cX8_control 271 = .ok (.iload_n 1, 1) := by decide +kernel
theorem dX8_control_272 : decode cX8_control 272 = .ok (.iaload, 1) := by decide +kernel
theorem dX8_control_273 : decode cX8_control 273 = .ok (.if_icmp .le 40, 3) := by decide +kernel
theorem dX8_control_276 : decode cX8_control 276 = .ok (.aload_n 0, 1) := by decide +kernel
theorem dX8_control_277 : decode cX8_control 277 = .ok (.getfield 42, 3) := by decide +kernel
theorem dX8_control_280 : decode cX8_control 280 = .ok (.iload_n 1, 1) := by decide +kernel
theorem dX8_control_281 : decode cX8_control 281 = .ok (.iconst 3, 1) := by decide +kernel
theorem dX8_control_282 : decode cX8_control 282 = .ok (.aload_n 0, 1) := by decide +kernel
theorem dX8_control_283 : decode cX8_control 283 = .ok (.getfield 42, 3) := by decide +kernel
theorem dX8_control_286 : decode cX8_control 286 = .ok (.iload_n 1, 1) := by decide +kernel
theorem dX8_control_287 : decode cX8_control 287 = .ok (.iaload, 1) := by decide +kernel
theorem dX8_control_288 : decode cX8_control 288 = .ok (.imul, 1) := by decide +kernel
theorem dX8_control_289 : decode cX8_control 289 = .ok (.iconst 4, 1) := by decide +kernel
theorem dX8_control_290 : decode cX8_control 290 = .ok (.idiv, 1) := by decide +kernel
theorem dX8_control_291 : decode cX8_control 291 = .ok (.iconst 1, 1) := by decide +kernel
theorem dX8_control_292 : decode cX8_control 292 = .ok (.if_icmp .ge 7, 3) := by decide +kernel
theorem dX8_control_295 : decode cX8_control 295 = .ok (.iconst 1, 1) := by decide +kernel
theorem dX8_control_296 : decode cX8_control 296 = .ok (.goto 13, 3) := by decide +kernel
theorem dX8_control_299 : decode cX8_control 299 = .ok (.iconst 3, 1) := by decide +kernel
theorem dX8_control_300 : decode cX8_control 300 = .ok (.aload_n 0, 1) := by decide +kernel
theorem dX8_control_301 : decode cX8_control 301 = .ok (.getfield 42, 3) := by decide +kernel
theorem dX8_control_304 : decode cX8_control 304 = .ok (.iload_n 1, 1) := by decide +kernel
theorem dX8_control_305 : decode cX8_control 305 = .ok (.iaload, 1) := by decide +kernel
theorem dX8_control_306 : decode cX8_control 306 = .ok (.imul, 1) := by decide +kernel
theorem dX8_control_307 : decode cX8_control 307 = .ok (.iconst 4, 1) := by decide +kernel
theorem dX8_control_308 : decode cX8_control 308 = .ok (.idiv, 1) := by decide +kernel
theorem dX8_control_309 : decode cX8_control 309 = .ok (.iastore, 1) := by decide +kernel
theorem dX8_control_310 : decode cX8_control 310 = .ok (.goto 28, 3) := by decide +kernel
theorem dX8_control_313 : decode cX8_control 313 = .ok (.aload_n 0, 1) := by decide +kernel
theorem dX8_control_314 : decode cX8_control 314 = .ok (.getfield 42, 3) := by decide +kernel
theorem dX8_control_317 : decode cX8_control 317 = .ok (.iload_n 1, 1) := by decide +kernel
theorem dX8_control_318 : decode cX8_control 318 = .ok (.dup2, 1) := by decide +kernel
theorem dX8_control_319 : decode cX8_control 319 = .ok (.iaload, 1) := by decide +kernel
theorem dX8_control_320 : decode cX8_control 320 = .ok (.aload_n 0, 1) := by decide +kernel
theorem dX8_control_321 : decode cX8_control 321 = .ok (.getfield 42, 3) := by decide +kernel
theorem dX8_control_324 : decode cX8_control 324 = .ok (.iload_n 1, 1) := by decide +kernel
theorem dX8_control_325 : decode cX8_control 325 = .ok (.iaload, 1) := by decide +kernel
theorem dX8_control_326 : decode cX8_control 326 = .ok (.bipush 100, 2) := by decide +kernel
theorem dX8_control_328 : decode cX8_control 328 = .ok (.if_icmp .ge 7, 3) := by decide +kernel
theorem dX8_control_331 : decode cX8_control 331 = .ok (.iconst 1, 1) := by decide +kernel
theorem dX8_control_332 : decode cX8_control 332 = .ok (.goto 4, 3) := by decide +kernel
theorem dX8_control_335 : decode cX8_control 335 = .ok (.iconst 0, 1) := by decide +kernel
theorem dX8_control_336 : decode cX8_control 336 = .ok (.iadd, 1) := by decide +kernel
theorem dX8_control_337 : decode cX8_control 337 = .ok (.iastore, 1) := by decide +kernel
theorem dX8_control_338 : decode cX8_control 338 = .ok (.return_, 1) := by decide +kernel
set_option maxRecDepth 20000 in
theorem ggX8_oneTick_X8_ring : GoodIn wsX8_oneTick wsX8_ring := goodIn_r _ [11, 12, 13, 1, 14, 15, 16, 17, 18, 19, 10, 20, 21, 22, 23, 24, 25, 26, 27, 28, 29, 30, 31, 32, 33, 3, 34, 35, 36, 37, 38, 39, 40, 41, 42, 43, 44, 45, 46, 101, 102, 103, 104, 105, 106, 107, 108, 109, 110, 111, 112, 113, 114, 115, 116, 117, 118, 119, 120, 121, 122, 123, 124, 125, 126, 127, 128, 129, 130, 131, 132, 133, 134, 135, 136, 137, 138, 139, 140, 141, 142, 143, 144, 145, 146, 147, 148] (by decide +kernel) (by decide +kernel)
set_option maxRecDepth 20000 in
theorem gX8_oneTick_X8_ring : GoodIn wsX8_oneTick (wsV RX8 202 RX8 yX8_ring wsX8_ring) := goodIn_app (goodIn_of _ (by decide +kernel)) ggX8_oneTick_X8_ring
set_option maxRecDepth 20000 in
theorem ggX8_oneTick_X8_work : GoodIn wsX8_oneTick wsX8_work := goodIn_r _ [50, 51, 52, 39, 53, 54, 46, 55, 56, 57, 58, 59, 60, 10, 61, 62, 63, 64, 65, 66, 67, 68, 69, 70, 71, 72, 21, 73, 23, 74, 75, 76, 77, 78, 79, 17, 18, 19, 20, 22, 29, 30, 31, 32, 33, 3, 34, 35, 36, 37, 38, 40, 41, 42, 43, 44, 45, 80, 81, 82, 83, 84, 85, 86, 87, 88, 89, 1, 101, 102, 103, 104, 105, 106, 107, 108, 109, 110, 111, 112, 113, 114, 115, 116, 117, 118, 119, 120, 121, 122, 123, 124, 125, 126, 127, 128, 129, 130, 131, 132, 133, 134, 135, 136, 137, 138, 139, 140, 141, 142, 143, 144, 145, 146, 147, 148] (by decide +kernel) (by decide +kernel)
set_option maxRecDepth 20000 in
theorem gX8_oneTick_X8_work : GoodIn wsX8_oneTick (wsV RX8 205 RX8 yX8_work wsX8_work) := goodIn_app (goodIn_of _ (by decide +kernel)) ggX8_oneTick_X8_work
set_option maxRecDepth 20000 in
theorem ggX8_oneTick_X8_control : GoodIn wsX8_oneTick wsX8_control := goodIn_r _ [93, 6, 39, 41, 94, 56, 57, 51, 52, 62, 73, 53, 95, 88, 4, 96, 97, 98, 10, 99, 89, 100, 101, 102, 103, 104, 105, 106, 107, 108, 109, 110, 111, 112, 113, 114, 115, 116, 117, 118, 119, 120, 121, 122, 123, 124, 125, 126, 127, 128, 129, 130, 131, 132, 133, 134, 135, 136, 137, 138, 139, 140, 141, 142, 143, 144, 145, 146, 147, 148] (by decide +kernel) (by decide +kernel)
set_option maxRecDepth 20000 in
theorem gX8_oneTick_X8_control : GoodIn wsX8_oneTick (wsV RX8 208 RX8 yX8_control wsX8_control) := goodIn_app (goodIn_of _ (by decide +kernel)) ggX8_oneTick_X8_control
theorem dX8_oneTick_0 : decode cX8_oneTick 0 = .ok (.aload_n 0, 1) := by decide +kernel
theorem dX8_oneTick_1 : decode cX8_oneTick 1 = .ok (.dup, 1) := by decide +kernel
theorem dX8_oneTick_2 : decode cX8_oneTick 2 = .ok (.getfield 163, 3) := by decide +kernel
theorem dX8_oneTick_5 : decode cX8_oneTick 5 = .ok (.iconst 1, 1) := by decide +kernel
theorem dX8_oneTick_6 : decode cX8_oneTick 6 = .ok (.iadd, 1) := by decide +kernel
theorem dX8_oneTick_7 : decode cX8_oneTick 7 = .ok (.putfield 163, 3) := by decide +kernel
theorem dX8_oneTick_10 : decode cX8_oneTick 10 = .ok (.iconst 0, 1) := by decide +kernel
theorem dX8_oneTick_11 : decode cX8_oneTick 11 = .ok (.istore_n 1, 1) := by decide +kernel
theorem dX8_oneTick_12 : decode cX8_oneTick 12 = .ok (.iload_n 1, 1) := by decide +kernel
theorem dX8_oneTick_13 : decode cX8_oneTick 13 = .ok (.aload_n 0, 1) := by decide +kernel
theorem dX8_oneTick_14 : decode cX8_oneTick 14 = .ok (.getfield 136, 3) := by decide +kernel
theorem dX8_oneTick_17 : decode cX8_oneTick 17 = .ok (.if_icmp .ge 59, 3) := by decide +kernel
theorem dX8_oneTick_20 : decode cX8_oneTick 20 = .ok (.aload_n 0, 1) := by decide +kernel
theorem dX8_oneTick_21 : decode cX8_oneTick 21 = .ok (.getfield 36, 3) := by decide +kernel
theorem dX8_oneTick_24 : decode cX8_oneTick 24 = .ok (.iload_n 1, 1) := by decide +kernel
theorem dX8_oneTick_25 : decode cX8_oneTick 25 = .ok (.aload_n 0, 1) := by decide +kernel
theorem dX8_oneTick_26 : decode cX8_oneTick 26 = .ok (.getfield 36, 3) := by decide +kernel
theorem dX8_oneTick_29 : decode cX8_oneTick 29 = .ok (.iload_n 1, 1) := by decide +kernel
theorem dX8_oneTick_30 : decode cX8_oneTick 30 = .ok (.iaload, 1) := by decide +kernel
theorem dX8_oneTick_31 : decode cX8_oneTick 31 = .ok (.aload_n 0, 1) := by decide +kernel
theorem dX8_oneTick_32 : decode cX8_oneTick 32 = .ok (.getfield 42, 3) := by decide +kernel
theorem dX8_oneTick_35 : decode cX8_oneTick 35 = .ok (.iload_n 1, 1) := by decide +kernel
theorem dX8_oneTick_36 : decode cX8_oneTick 36 = .ok (.iaload, 1) := by decide +kernel
theorem dX8_oneTick_37 : decode cX8_oneTick 37 = .ok (.iadd, 1) := by decide +kernel
theorem dX8_oneTick_38 : decode cX8_oneTick 38 = .ok (.aload_n 0, 1) := by decide +kernel
theorem dX8_oneTick_39 : decode cX8_oneTick 39 = .ok (.getfield 39, 3) := by decide +kernel
theorem dX8_oneTick_42 : decode cX8_oneTick 42 = .ok (.iload_n 1, 1) := by decide +kernel
theorem dX8_oneTick_43 : decode cX8_oneTick 43 = .ok (.iaload, 1) := by decide +kernel
theorem dX8_oneTick_44 : decode cX8_oneTick 44 = .ok (.if_icmp .le 12, 3) := by decide +kernel
theorem dX8_oneTick_47 : decode cX8_oneTick 47 = .ok (.aload_n 0, 1) := by decide +kernel
theorem dX8_oneTick_48 : decode cX8_oneTick 48 = .ok (.getfield 39, 3) := by decide +kernel
theorem dX8_oneTick_51 : decode cX8_oneTick 51 = .ok (.iload_n 1, 1) := by decide +kernel
theorem dX8_oneTick_52 : decode cX8_oneTick 52 = .ok (.iaload, 1) := by decide +kernel
theorem dX8_oneTick_53 : decode cX8_oneTick 53 = .ok (.goto 16, 3) := by decide +kernel
theorem dX8_oneTick_56 : decode cX8_oneTick 56 = .ok (.aload_n 0, 1) := by decide +kernel
theorem dX8_oneTick_57 : decode cX8_oneTick 57 = .ok (.getfield 36, 3) := by decide +kernel
theorem dX8_oneTick_60 : decode cX8_oneTick 60 = .ok (.iload_n 1, 1) := by decide +kernel
theorem dX8_oneTick_61 : decode cX8_oneTick 61 = .ok (.iaload, 1) := by decide +kernel
theorem dX8_oneTick_62 : decode cX8_oneTick 62 = .ok (.aload_n 0, 1) := by decide +kernel
theorem dX8_oneTick_63 : decode cX8_oneTick 63 = .ok (.getfield 42, 3) := by decide +kernel
theorem dX8_oneTick_66 : decode cX8_oneTick 66 = .ok (.iload_n 1, 1) := by decide +kernel
theorem dX8_oneTick_67 : decode cX8_oneTick 67 = .ok (.iaload, 1) := by decide +kernel
theorem dX8_oneTick_68 : decode cX8_oneTick 68 = .ok (.iadd, 1) := by decide +kernel
theorem dX8_oneTick_69 : decode cX8_oneTick 69 = .ok (.iastore, 1) := by decide +kernel
theorem dX8_oneTick_70 : decode cX8_oneTick 70 = .ok (.iinc 1 1, 3) := by decide +kernel
theorem dX8_oneTick_73 : decode cX8_oneTick 73 = .ok (.goto (-61), 3) := by decide +kernel
theorem dX8_oneTick_76 : decode cX8_oneTick 76 = .ok (.aload_n 0, 1) := by decide +kernel
theorem dX8_oneTick_77 : decode cX8_oneTick 77 = .ok (.invokevirtual 202, 3) := by decide +kernel
theorem dX8_oneTick_80 : decode cX8_oneTick 80 = .ok (.iconst 0, 1) := by decide +kernel
theorem dX8_oneTick_81 : decode cX8_oneTick 81 = .ok (.istore_n 1, 1) := by decide +kernel
theorem dX8_oneTick_82 : decode cX8_oneTick 82 = .ok (.iload_n 1, 1) := by decide +kernel
theorem dX8_oneTick_83 : decode cX8_oneTick 83 = .ok (.aload_n 0, 1) := by decide +kernel
theorem dX8_oneTick_84 : decode cX8_oneTick 84 = .ok (.getfield 136, 3) := by decide +kernel
theorem dX8_oneTick_87 : decode cX8_oneTick 87 = .ok (.if_icmp .ge 37, 3) := by decide +kernel
theorem dX8_oneTick_90 : decode cX8_oneTick 90 = .ok (.iconst 0, 1) := by decide +kernel
theorem dX8_oneTick_91 : decode cX8_oneTick 91 = .ok (.istore_n 2, 1) := by decide +kernel
theorem dX8_oneTick_92 : decode cX8_oneTick 92 = .ok (.iload_n 2, 1) := by decide +kernel
theorem dX8_oneTick_93 : decode cX8_oneTick 93 = .ok (.aload_n 0, 1) := by decide +kernel
theorem dX8_oneTick_94 : decode cX8_oneTick 94 = .ok (.getfield 48, 3) := by decide +kernel
theorem dX8_oneTick_97 : decode cX8_oneTick 97 = .ok (.iload_n 1, 1) := by decide +kernel
theorem dX8_oneTick_98 : decode cX8_oneTick 98 = .ok (.iaload, 1) := by decide +kernel
theorem dX8_oneTick_99 : decode cX8_oneTick 99 = .ok (.if_icmp .ge 19, 3) := by decide +kernel
theorem dX8_oneTick_102 : decode cX8_oneTick 102 = .ok (.aload_n 0, 1) := by decide +kernel
theorem dX8_oneTick_103 : decode cX8_oneTick 103 = .ok (.iload_n 1, 1) := by decide +kernel
theorem dX8_oneTick_104 : decode cX8_oneTick 104 = .ok (.iconst 4, 1) := by decide +kernel
theorem dX8_oneTick_105 : decode cX8_oneTick 105 = .ok (.iload_n 1, 1) := by decide +kernel
theorem dX8_oneTick_106 : decode cX8_oneTick 106 = .ok (.imul, 1) := by decide +kernel
theorem dX8_oneTick_107 : decode cX8_oneTick 107 = .ok (.iload_n 2, 1) := by decide +kernel
theorem dX8_oneTick_108 : decode cX8_oneTick 108 = .ok (.iadd, 1) := by decide +kernel
theorem dX8_oneTick_109 : decode cX8_oneTick 109 = .ok (.invokevirtual 205, 3) := by decide +kernel
theorem dX8_oneTick_112 : decode cX8_oneTick 112 = .ok (.iinc 2 1, 3) := by decide +kernel
theorem dX8_oneTick_115 : decode cX8_oneTick 115 = .ok (.goto (-23), 3) := by decide +kernel
theorem dX8_oneTick_118 : decode cX8_oneTick 118 = .ok (.iinc 1 1, 3) := by decide +kernel
theorem dX8_oneTick_121 : decode cX8_oneTick 121 = .ok (.goto (-39), 3) := by decide +kernel
theorem dX8_oneTick_124 : decode cX8_oneTick 124 = .ok (.iconst 0, 1) := by decide +kernel
theorem dX8_oneTick_125 : decode cX8_oneTick 125 = .ok (.istore_n 1, 1) := by decide +kernel
theorem dX8_oneTick_126 : decode cX8_oneTick 126 = .ok (.iload_n 1, 1) := by decide +kernel
theorem dX8_oneTick_127 : decode cX8_oneTick 127 = .ok (.aload_n 0, 1) := by decide +kernel
theorem dX8_oneTick_128 : decode cX8_oneTick 128 = .ok (.getfield 136, 3) := by decide +kernel
theorem dX8_oneTick_131 : decode cX8_oneTick 131 = .ok (.if_icmp .ge 24, 3) := by decide +kernel
theorem dX8_oneTick_134 : decode cX8_oneTick 134 = .ok (.aload_n 0, 1) := by decide +kernel
theorem dX8_oneTick_135 : decode cX8_oneTick 135 = .ok (.getfield 163, 3) := by decide +kernel
theorem dX8_oneTick_138 : decode cX8_oneTick 138 = .ok (.bipush 10, 2) := by decide +kernel
theorem dX8_oneTick_140 : decode cX8_oneTick 140 = .ok (.irem, 1) := by decide +kernel
theorem dX8_oneTick_141 : decode cX8_oneTick 141 = .ok (.ifCond .ne 14, 3) := by decide +kernel
theorem dX8_oneTick_144 : decode cX8_oneTick 144 = .ok (.aload_n 0, 1) := by decide +kernel
theorem dX8_oneTick_145 : decode cX8_oneTick 145 = .ok (.iload_n 1, 1) := by decide +kernel
theorem dX8_oneTick_146 : decode cX8_oneTick 146 = .ok (.invokevirtual 208, 3) := by decide +kernel
theorem dX8_oneTick_149 : decode cX8_oneTick 149 = .ok (.iinc 1 1, 3) := by decide +kernel
theorem dX8_oneTick_152 : decode cX8_oneTick 152 = .ok (.goto (-26), 3) := by decide +kernel
theorem dX8_oneTick_155 : decode cX8_oneTick 155 = .ok (.return_, 1) := by decide +kernel
set_option maxRecDepth 20000 in
theorem ggX8_tick_X8_in : GoodIn wsX8_tick wsX8_in := goodIn_r _ [5] (by decide +kernel) (by decide +kernel)
set_option maxRecDepth 20000 in
theorem gX8_tick_X8_in : GoodIn wsX8_tick (va_wsS RX8 140 yX8_in wsX8_in) := goodIn_app (goodIn_of _ (by decide +kernel)) ggX8_tick_X8_in
set_option maxRecDepth 20000 in
theorem ggX8_tick_X8_oneTick : GoodIn wsX8_tick wsX8_oneTick := goodIn_r _ [9, 1, 10, 11, 12, 13, 14, 15, 16, 17, 4, 18, 19, 20, 21, 22, 23, 24, 25, 26, 27, 28, 29, 30, 31, 32, 33, 34, 35, 36, 37, 38, 39, 40, 41, 42, 43, 44, 45, 46, 47, 48, 49, 50, 51, 52, 53, 54, 55, 56, 57, 58, 59, 60, 61, 62, 63, 64, 65, 66, 67, 68, 69, 70, 71, 72, 73, 74, 75, 76, 77, 78, 79, 80, 81, 82, 83, 84, 85, 86, 87, 88, 89, 90, 91, 92, 93, 94, 95, 96, 97, 98, 99, 100, 101, 102, 103, 104, 105, 106, 107, 108, 109, 110, 111, 112, 113, 114, 115, 116, 117, 118, 119, 120, 121, 122, 123, 124, 125, 126, 127, 128, 129, 130, 131, 132, 133, 134, 135, 136, 137, 138, 139, 140, 141, 142, 143, 144, 145, 146, 147, 148, 149, 150, 151, 152, 153, 154, 155] (by decide +kernel) (by decide +kernel)
set_option maxRecDepth 20000 in
theorem gX8_tick_X8_oneTick : GoodIn wsX8_tick (wsV RX8 211 RX8 yX8_oneTick wsX8_oneTick) := goodIn_app (goodIn_of _ (by decide +kernel)) ggX8_tick_X8_oneTick
theorem dX8_tick_0 : decode cX8_tick 0 = .ok (.iload_n 1, 1) := by decide +kernel
theorem dX8_tick_1 : decode cX8_tick 1 = .ok (.iconst 1, 1) := by decide +kernel
theorem dX8_tick_2 : decode cX8_tick 2 = .ok (.bipush 50, 2) := by decide +kernel
theorem dX8_tick_4 : decode cX8_tick 4 = .ok (.invokestatic 140, 3) := by decide +kernel
theorem dX8_tick_7 : decode cX8_tick 7 = .ok (.ifCond .ne 5, 3) := by decide +kernel
theorem dX8_tick_10 : decode cX8_tick 10 = .ok (.iconst (-1), 1) := by decide +kernel
theorem dX8_tick_11 : decode cX8_tick 11 = .ok (.ireturn, 1) := by decide +kernel
theorem dX8_tick_12 : decode cX8_tick 12 = .ok (.aload_n 0, 1) := by decide +kernel
theorem dX8_tick_13 : decode cX8_tick 13 = .ok (.getfield 163, 3) := by decide +kernel
theorem dX8_tick_16 : decode cX8_tick 16 = .ok (.iload_n 1, 1) := by decide +kernel
theorem dX8_tick_17 : decode cX8_tick 17 = .ok (.iadd, 1) := by decide +kernel
theorem dX8_tick_18 : decode cX8_tick 18 = .ok (.sipush 400, 3) := by decide +kernel
theorem dX8_tick_21 : decode cX8_tick 21 = .ok (.if_icmp .le 6, 3) := by decide +kernel
theorem dX8_tick_24 : decode cX8_tick 24 = .ok (.bipush (-2), 2) := by decide +kernel
theorem dX8_tick_26 : decode cX8_tick 26 = .ok (.ireturn, 1) := by decide +kernel
theorem dX8_tick_27 : decode cX8_tick 27 = .ok (.iconst 0, 1) := by decide +kernel
theorem dX8_tick_28 : decode cX8_tick 28 = .ok (.istore_n 2, 1) := by decide +kernel
theorem dX8_tick_29 : decode cX8_tick 29 = .ok (.iload_n 2, 1) := by decide +kernel
theorem dX8_tick_30 : decode cX8_tick 30 = .ok (.iload_n 1, 1) := by decide +kernel
theorem dX8_tick_31 : decode cX8_tick 31 = .ok (.if_icmp .ge 13, 3) := by decide +kernel
theorem dX8_tick_34 : decode cX8_tick 34 = .ok (.aload_n 0, 1) := by decide +kernel
theorem dX8_tick_35 : decode cX8_tick 35 = .ok (.invokevirtual 211, 3) := by decide +kernel
theorem dX8_tick_38 : decode cX8_tick 38 = .ok (.iinc 2 1, 3) := by decide +kernel
theorem dX8_tick_41 : decode cX8_tick 41 = .ok (.goto (-12), 3) := by decide +kernel
theorem dX8_tick_44 : decode cX8_tick 44 = .ok (.aload_n 0, 1) := by decide +kernel
theorem dX8_tick_45 : decode cX8_tick 45 = .ok (.getfield 163, 3) := by decide +kernel
theorem dX8_tick_48 : decode cX8_tick 48 = .ok (.ireturn, 1) := by decide +kernel
set_option maxRecDepth 20000 in
theorem ggX8_told_X8_isStage : GoodIn wsX8_told wsX8_isStage := goodIn_r _ [14, 15, 23, 24, 25, 26, 27, 28, 29, 30, 31, 32, 33, 34, 35, 36, 37, 38, 39, 40, 41, 42, 43, 44, 45, 46, 47, 48, 49, 50, 51, 52, 53, 54, 55, 56, 57, 58, 59, 60, 61, 62, 63, 64, 65, 66, 67, 68, 69, 70] (by decide +kernel) (by decide +kernel)
set_option maxRecDepth 20000 in
theorem gX8_told_X8_isStage : GoodIn wsX8_told (wsV RX8 144 RX8 yX8_isStage wsX8_isStage) := goodIn_app (goodIn_of _ (by decide +kernel)) ggX8_told_X8_isStage
set_option maxRecDepth 20000 in
theorem ggX8_told_X8_response : GoodIn wsX8_told wsX8_response := goodIn_r _ [19, 20, 21, 22, 23, 24, 25, 26, 27, 28, 29, 30, 31, 32, 33, 34, 35, 36, 37, 38, 39, 40, 41, 42, 43, 44, 45, 46, 47, 48, 49, 50, 51, 52, 53, 54, 55, 56, 57, 58, 59, 60, 61, 62, 63, 64, 65, 66, 67, 68, 69, 70] (by decide +kernel) (by decide +kernel)
set_option maxRecDepth 20000 in
theorem gX8_told_X8_response : GoodIn wsX8_told (wsV RX8 199 RX8 yX8_response wsX8_response) := goodIn_app (goodIn_of _ (by decide +kernel)) ggX8_told_X8_response
theorem dX8_told_0 : decode cX8_told 0 = .ok (.aload_n 0, 1) := by decide +kernel
theorem dX8_told_1 : decode cX8_told 1 = .ok (.iload_n 1, 1) := by decide +kernel
theorem dX8_told_2 : decode cX8_told 2 = .ok (.invokevirtual 144, 3) := by decide +kernel
theorem dX8_told_5 : decode cX8_told 5 = .ok (.ifCond .ne 5, 3) := by decide +kernel
theorem dX8_told_8 : decode cX8_told 8 = .ok (.iconst (-1), 1) := by decide +kernel
theorem dX8_told_9 : decode cX8_told 9 = .ok (.ireturn, 1) := by decide +kernel
theorem dX8_told_10 : decode cX8_told 10 = .ok (.iload_n 2, 1) := by decide +kernel
theorem dX8_told_11 : decode cX8_told 11 = .ok (.tableswitch 122 0 9 #[53, 60, 67, 74, 81, 88, 95, 102, 109, 116], 53) := by decide +kernel
theorem dX8_told_64 : decode cX8_told 64 = .ok (.aload_n 0, 1) := by decide +kernel
theorem dX8_told_65 : decode cX8_told 65 = .ok (.getfield 73, 3) := by decide +kernel
theorem dX8_told_68 : decode cX8_told 68 = .ok (.iload_n 1, 1) := by decide +kernel
theorem dX8_told_69 : decode cX8_told 69 = .ok (.iaload, 1) := by decide +kernel
theorem dX8_told_70 : decode cX8_told 70 = .ok (.ireturn, 1) := by decide +kernel
theorem dX8_told_71 : decode cX8_told 71 = .ok (.aload_n 0, 1) := by decide +kernel
theorem dX8_told_72 : decode cX8_told 72 = .ok (.getfield 33, 3) := by decide +kernel
theorem dX8_told_75 : decode cX8_told 75 = .ok (.iload_n 1, 1) := by decide +kernel
theorem dX8_told_76 : decode cX8_told 76 = .ok (.iaload, 1) := by decide +kernel
theorem dX8_told_77 : decode cX8_told 77 = .ok (.ireturn, 1) := by decide +kernel
theorem dX8_told_78 : decode cX8_told 78 = .ok (.aload_n 0, 1) := by decide +kernel
theorem dX8_told_79 : decode cX8_told 79 = .ok (.getfield 48, 3) := by decide +kernel
theorem dX8_told_82 : decode cX8_told 82 = .ok (.iload_n 1, 1) := by decide +kernel
theorem dX8_told_83 : decode cX8_told 83 = .ok (.iaload, 1) := by decide +kernel
theorem dX8_told_84 : decode cX8_told 84 = .ok (.ireturn, 1) := by decide +kernel
theorem dX8_told_85 : decode cX8_told 85 = .ok (.aload_n 0, 1) := by decide +kernel
theorem dX8_told_86 : decode cX8_told 86 = .ok (.getfield 54, 3) := by decide +kernel
theorem dX8_told_89 : decode cX8_told 89 = .ok (.iload_n 1, 1) := by decide +kernel
theorem dX8_told_90 : decode cX8_told 90 = .ok (.iaload, 1) := by decide +kernel
theorem dX8_told_91 : decode cX8_told 91 = .ok (.ireturn, 1) := by decide +kernel
theorem dX8_told_92 : decode cX8_told 92 = .ok (.aload_n 0, 1) := by decide +kernel
theorem dX8_told_93 : decode cX8_told 93 = .ok (.getfield 42, 3) := by decide +kernel
theorem dX8_told_96 : decode cX8_told 96 = .ok (.iload_n 1, 1) := by decide +kernel
theorem dX8_told_97 : decode cX8_told 97 = .ok (.iaload, 1) := by decide +kernel
theorem dX8_told_98 : decode cX8_told 98 = .ok (.ireturn, 1) := by decide +kernel
theorem dX8_told_99 : decode cX8_told 99 = .ok (.aload_n 0, 1) := by decide +kernel
theorem dX8_told_100 : decode cX8_told 100 = .ok (.getfield 36, 3) := by decide +kernel
theorem dX8_told_103 : decode cX8_told 103 = .ok (.iload_n 1, 1) := by decide +kernel
theorem dX8_told_104 : decode cX8_told 104 = .ok (.iaload, 1) := by decide +kernel
theorem dX8_told_105 : decode cX8_told 105 = .ok (.ireturn, 1) := by decide +kernel
theorem dX8_told_106 : decode cX8_told 106 = .ok (.aload_n 0, 1) := by decide +kernel
theorem dX8_told_107 : decode cX8_told 107 = .ok (.getfield 64, 3) := by decide +kernel
theorem dX8_told_110 : decode cX8_told 110 = .ok (.iload_n 1, 1) := by decide +kernel
theorem dX8_told_111 : decode cX8_told 111 = .ok (.iaload, 1) := by decide +kernel
theorem dX8_told_112 : decode cX8_told 112 = .ok (.ireturn, 1) := by decide +kernel
theorem dX8_told_113 : decode cX8_told 113 = .ok (.aload_n 0, 1) := by decide +kernel
theorem dX8_told_114 : decode cX8_told 114 = .ok (.getfield 67, 3) := by decide +kernel
theorem dX8_told_117 : decode cX8_told 117 = .ok (.iload_n 1, 1) := by decide +kernel
theorem dX8_told_118 : decode cX8_told 118 = .ok (.iaload, 1) := by decide +kernel
theorem dX8_told_119 : decode cX8_told 119 = .ok (.ireturn, 1) := by decide +kernel
theorem dX8_told_120 : decode cX8_told 120 = .ok (.aload_n 0, 1) := by decide +kernel
theorem dX8_told_121 : decode cX8_told 121 = .ok (.getfield 70, 3) := by decide +kernel
theorem dX8_told_124 : decode cX8_told 124 = .ok (.iload_n 1, 1) := by decide +kernel
theorem dX8_told_125 : decode cX8_told 125 = .ok (.iaload, 1) := by decide +kernel
theorem dX8_told_126 : decode cX8_told 126 = .ok (.ireturn, 1) := by decide +kernel
theorem dX8_told_127 : decode cX8_told 127 = .ok (.aload_n 0, 1) := by decide +kernel
theorem dX8_told_128 : decode cX8_told 128 = .ok (.iload_n 1, 1) := by decide +kernel
theorem dX8_told_129 : decode cX8_told 129 = .ok (.invokevirtual 199, 3) := by decide +kernel
theorem dX8_told_132 : decode cX8_told 132 = .ok (.ireturn, 1) := by decide +kernel
theorem dX8_told_133 : decode cX8_told 133 = .ok (.iconst (-1), 1) := by decide +kernel
theorem dX8_told_134 : decode cX8_told 134 = .ok (.ireturn, 1) := by decide +kernel
set_option maxRecDepth 20000 in
theorem ggX8_queued_X8_isStage : GoodIn wsX8_queued wsX8_isStage := goodIn_r _ [7, 8, 9, 10, 11, 12, 13, 14, 15, 16, 17, 18, 19, 20, 21, 22, 23, 24, 25, 26, 27, 28, 29, 30, 31, 32, 33, 34, 35, 36, 37, 38, 39, 40, 41, 42, 43, 44, 45, 46, 47, 48, 49, 50, 51, 52, 53, 54, 55, 56] (by decide +kernel) (by decide +kernel)
set_option maxRecDepth 20000 in
theorem gX8_queued_X8_isStage : GoodIn wsX8_queued (wsV RX8 144 RX8 yX8_isStage wsX8_isStage) := goodIn_app (goodIn_of _ (by decide +kernel)) ggX8_queued_X8_isStage
theorem dX8_queued_0 : decode cX8_queued 0 = .ok (.aload_n 0, 1) := by decide +kernel
theorem dX8_queued_1 : decode cX8_queued 1 = .ok (.iload_n 1, 1) := by decide +kernel
theorem dX8_queued_2 : decode cX8_queued 2 = .ok (.invokevirtual 144, 3) := by decide +kernel
theorem dX8_queued_5 : decode cX8_queued 5 = .ok (.ifCond .eq 17, 3) := by decide +kernel
theorem dX8_queued_8 : decode cX8_queued 8 = .ok (.iload_n 2, 1) := by decide +kernel
theorem dX8_queued_9 : decode cX8_queued 9 = .ok (.ifCond .lt 13, 3) := by decide +kernel
theorem dX8_queued_12 : decode cX8_queued 12 = .ok (.iload_n 2, 1) := by decide +kernel
theorem dX8_queued_13 : decode cX8_queued 13 = .ok (.aload_n 0, 1) := by decide +kernel
theorem dX8_queued_14 : decode cX8_queued 14 = .ok (.getfield 73, 3) := by decide +kernel
theorem dX8_queued_17 : decode cX8_queued 17 = .ok (.iload_n 1, 1) := by decide +kernel
theorem dX8_queued_18 : decode cX8_queued 18 = .ok (.iaload, 1) := by decide +kernel
theorem dX8_queued_19 : decode cX8_queued 19 = .ok (.if_icmp .lt 7, 3) := by decide +kernel
theorem dX8_queued_22 : decode cX8_queued 22 = .ok (.iconst (-1), 1) := by decide +kernel
theorem dX8_queued_23 : decode cX8_queued 23 = .ok (.goto 14, 3) := by decide +kernel
theorem dX8_queued_26 : decode cX8_queued 26 = .ok (.aload_n 0, 1) := by decide +kernel
theorem dX8_queued_27 : decode cX8_queued 27 = .ok (.getfield 76, 3) := by decide +kernel
theorem dX8_queued_30 : decode cX8_queued 30 = .ok (.bipush 32, 2) := by decide +kernel
theorem dX8_queued_32 : decode cX8_queued 32 = .ok (.iload_n 1, 1) := by decide +kernel
theorem dX8_queued_33 : decode cX8_queued 33 = .ok (.imul, 1) := by decide +kernel
theorem dX8_queued_34 : decode cX8_queued 34 = .ok (.iload_n 2, 1) := by decide +kernel
theorem dX8_queued_35 : decode cX8_queued 35 = .ok (.iadd, 1) := by decide +kernel
theorem dX8_queued_36 : decode cX8_queued 36 = .ok (.iaload, 1) := by decide +kernel
theorem dX8_queued_37 : decode cX8_queued 37 = .ok (.ireturn, 1) := by decide +kernel
set_option maxRecDepth 20000 in
theorem ggX8_worker_X8_isStage : GoodIn wsX8_worker wsX8_isStage := goodIn_r _ [11, 12, 13, 14, 15, 16, 17, 18, 19, 20, 21, 22, 23, 24, 25, 26, 27, 28, 29, 30, 31, 32, 33, 34, 35, 36, 37, 38, 39, 40, 41, 42, 43, 44, 45, 46, 47, 48, 49, 50, 51, 52, 53, 54, 55, 56, 57, 58, 59, 60] (by decide +kernel) (by decide +kernel)
set_option maxRecDepth 20000 in
theorem gX8_worker_X8_isStage : GoodIn wsX8_worker (wsV RX8 144 RX8 yX8_isStage wsX8_isStage) := goodIn_app (goodIn_of _ (by decide +kernel)) ggX8_worker_X8_isStage
theorem dX8_worker_0 : decode cX8_worker 0 = .ok (.aload_n 0, 1) := by decide +kernel
theorem dX8_worker_1 : decode cX8_worker 1 = .ok (.iload_n 1, 1) := by decide +kernel
theorem dX8_worker_2 : decode cX8_worker 2 = .ok (.invokevirtual 144, 3) := by decide +kernel
theorem dX8_worker_5 : decode cX8_worker 5 = .ok (.ifCond .eq 17, 3) := by decide +kernel
theorem dX8_worker_8 : decode cX8_worker 8 = .ok (.iload_n 2, 1) := by decide +kernel
theorem dX8_worker_9 : decode cX8_worker 9 = .ok (.ifCond .lt 13, 3) := by decide +kernel
theorem dX8_worker_12 : decode cX8_worker 12 = .ok (.iload_n 2, 1) := by decide +kernel
theorem dX8_worker_13 : decode cX8_worker 13 = .ok (.aload_n 0, 1) := by decide +kernel
theorem dX8_worker_14 : decode cX8_worker 14 = .ok (.getfield 48, 3) := by decide +kernel
theorem dX8_worker_17 : decode cX8_worker 17 = .ok (.iload_n 1, 1) := by decide +kernel
theorem dX8_worker_18 : decode cX8_worker 18 = .ok (.iaload, 1) := by decide +kernel
theorem dX8_worker_19 : decode cX8_worker 19 = .ok (.if_icmp .lt 5, 3) := by decide +kernel
theorem dX8_worker_22 : decode cX8_worker 22 = .ok (.iconst (-1), 1) := by decide +kernel
theorem dX8_worker_23 : decode cX8_worker 23 = .ok (.ireturn, 1) := by decide +kernel
theorem dX8_worker_24 : decode cX8_worker 24 = .ok (.iconst 4, 1) := by decide +kernel
theorem dX8_worker_25 : decode cX8_worker 25 = .ok (.iload_n 1, 1) := by decide +kernel
theorem dX8_worker_26 : decode cX8_worker 26 = .ok (.imul, 1) := by decide +kernel
theorem dX8_worker_27 : decode cX8_worker 27 = .ok (.iload_n 2, 1) := by decide +kernel
theorem dX8_worker_28 : decode cX8_worker 28 = .ok (.iadd, 1) := by decide +kernel
theorem dX8_worker_29 : decode cX8_worker 29 = .ok (.istore 4, 2) := by decide +kernel
theorem dX8_worker_31 : decode cX8_worker 31 = .ok (.iload_n 3, 1) := by decide +kernel
theorem dX8_worker_32 : decode cX8_worker 32 = .ok (.tableswitch 88 0 2 #[28, 36, 58], 28) := by decide +kernel
theorem dX8_worker_60 : decode cX8_worker 60 = .ok (.aload_n 0, 1) := by decide +kernel
theorem dX8_worker_61 : decode cX8_worker 61 = .ok (.getfield 88, 3) := by decide +kernel
theorem dX8_worker_64 : decode cX8_worker 64 = .ok (.iload 4, 2) := by decide +kernel
theorem dX8_worker_66 : decode cX8_worker 66 = .ok (.iaload, 1) := by decide +kernel
theorem dX8_worker_67 : decode cX8_worker 67 = .ok (.ireturn, 1) := by decide +kernel
theorem dX8_worker_68 : decode cX8_worker 68 = .ok (.aload_n 0, 1) := by decide +kernel
theorem dX8_worker_69 : decode cX8_worker 69 = .ok (.getfield 88, 3) := by decide +kernel
theorem dX8_worker_72 : decode cX8_worker 72 = .ok (.iload 4, 2) := by decide +kernel
theorem dX8_worker_74 : decode cX8_worker 74 = .ok (.iaload, 1) := by decide +kernel
theorem dX8_worker_75 : decode cX8_worker 75 = .ok (.ifCond .le 13, 3) := by decide +kernel
theorem dX8_worker_78 : decode cX8_worker 78 = .ok (.aload_n 0, 1) := by decide +kernel
theorem dX8_worker_79 : decode cX8_worker 79 = .ok (.getfield 94, 3) := by decide +kernel
theorem dX8_worker_82 : decode cX8_worker 82 = .ok (.iload 4, 2) := by decide +kernel
theorem dX8_worker_84 : decode cX8_worker 84 = .ok (.iaload, 1) := by decide +kernel
theorem dX8_worker_85 : decode cX8_worker 85 = .ok (.goto 4, 3) := by decide +kernel
theorem dX8_worker_88 : decode cX8_worker 88 = .ok (.iconst 0, 1) := by decide +kernel
theorem dX8_worker_89 : decode cX8_worker 89 = .ok (.ireturn, 1) := by decide +kernel
theorem dX8_worker_90 : decode cX8_worker 90 = .ok (.aload_n 0, 1) := by decide +kernel
theorem dX8_worker_91 : decode cX8_worker 91 = .ok (.getfield 97, 3) := by decide +kernel
theorem dX8_worker_94 : decode cX8_worker 94 = .ok (.iload 4, 2) := by decide +kernel
theorem dX8_worker_96 : decode cX8_worker 96 = .ok (.baload, 1) := by decide +kernel
theorem dX8_worker_97 : decode cX8_worker 97 = .ok (.ifCond .eq 21, 3) := by decide +kernel
theorem dX8_worker_100 : decode cX8_worker 100 = .ok (.aload_n 0, 1) := by decide +kernel
theorem dX8_worker_101 : decode cX8_worker 101 = .ok (.getfield 100, 3) := by decide +kernel
theorem dX8_worker_104 : decode cX8_worker 104 = .ok (.iload 4, 2) := by decide +kernel
theorem dX8_worker_106 : decode cX8_worker 106 = .ok (.iaload, 1) := by decide +kernel
theorem dX8_worker_107 : decode cX8_worker 107 = .ok (.aload_n 0, 1) := by decide +kernel
theorem dX8_worker_108 : decode cX8_worker 108 = .ok (.getfield 103, 3) := by decide +kernel
theorem dX8_worker_111 : decode cX8_worker 111 = .ok (.iload 4, 2) := by decide +kernel
theorem dX8_worker_113 : decode cX8_worker 113 = .ok (.iaload, 1) := by decide +kernel
theorem dX8_worker_114 : decode cX8_worker 114 = .ok (.isub, 1) := by decide +kernel
theorem dX8_worker_115 : decode cX8_worker 115 = .ok (.goto 4, 3) := by decide +kernel
theorem dX8_worker_118 : decode cX8_worker 118 = .ok (.iconst 0, 1) := by decide +kernel
theorem dX8_worker_119 : decode cX8_worker 119 = .ok (.ireturn, 1) := by decide +kernel
theorem dX8_worker_120 : decode cX8_worker 120 = .ok (.iconst (-1), 1) := by decide +kernel
theorem dX8_worker_121 : decode cX8_worker 121 = .ok (.ireturn, 1) := by decide +kernel
theorem dX8_done_0 : decode cX8_done 0 = .ok (.iload_n 1, 1) := by decide +kernel
theorem dX8_done_1 : decode cX8_done 1 = .ok (.ifCond .lt 11, 3) := by decide +kernel
theorem dX8_done_4 : decode cX8_done 4 = .ok (.iload_n 1, 1) := by decide +kernel
theorem dX8_done_5 : decode cX8_done 5 = .ok (.aload_n 0, 1) := by decide +kernel
theorem dX8_done_6 : decode cX8_done 6 = .ok (.getfield 187, 3) := by decide +kernel
theorem dX8_done_9 : decode cX8_done 9 = .ok (.if_icmp .lt 7, 3) := by decide +kernel
theorem dX8_done_12 : decode cX8_done 12 = .ok (.iconst (-1), 1) := by decide +kernel
theorem dX8_done_13 : decode cX8_done 13 = .ok (.goto 9, 3) := by decide +kernel
theorem dX8_done_16 : decode cX8_done 16 = .ok (.aload_n 0, 1) := by decide +kernel
theorem dX8_done_17 : decode cX8_done 17 = .ok (.getfield 18, 3) := by decide +kernel
theorem dX8_done_20 : decode cX8_done 20 = .ok (.iload_n 1, 1) := by decide +kernel
theorem dX8_done_21 : decode cX8_done 21 = .ok (.iaload, 1) := by decide +kernel
theorem dX8_done_22 : decode cX8_done 22 = .ok (.ireturn, 1) := by decide +kernel
theorem dX8_value_0 : decode cX8_value 0 = .ok (.iload_n 1, 1) := by decide +kernel
theorem dX8_value_1 : decode cX8_value 1 = .ok (.ifCond .lt 11, 3) := by decide +kernel
theorem dX8_value_4 : decode cX8_value 4 = .ok (.iload_n 1, 1) := by decide +kernel
theorem dX8_value_5 : decode cX8_value 5 = .ok (.aload_n 0, 1) := by decide +kernel
theorem dX8_value_6 : decode cX8_value 6 = .ok (.getfield 187, 3) := by decide +kernel
theorem dX8_value_9 : decode cX8_value 9 = .ok (.if_icmp .lt 7, 3) := by decide +kernel
theorem dX8_value_12 : decode cX8_value 12 = .ok (.iconst (-1), 1) := by decide +kernel
theorem dX8_value_13 : decode cX8_value 13 = .ok (.goto 14, 3) := by decide +kernel
theorem dX8_value_16 : decode cX8_value 16 = .ok (.aload_n 0, 1) := by decide +kernel
theorem dX8_value_17 : decode cX8_value 17 = .ok (.getfield 8, 3) := by decide +kernel
theorem dX8_value_20 : decode cX8_value 20 = .ok (.aload_n 0, 1) := by decide +kernel
theorem dX8_value_21 : decode cX8_value 21 = .ok (.getfield 18, 3) := by decide +kernel
theorem dX8_value_24 : decode cX8_value 24 = .ok (.iload_n 1, 1) := by decide +kernel
theorem dX8_value_25 : decode cX8_value 25 = .ok (.iaload, 1) := by decide +kernel
theorem dX8_value_26 : decode cX8_value 26 = .ok (.iaload, 1) := by decide +kernel
theorem dX8_value_27 : decode cX8_value 27 = .ok (.ireturn, 1) := by decide +kernel
theorem dX8_events_0 : decode cX8_events 0 = .ok (.aload_n 0, 1) := by decide +kernel
theorem dX8_events_1 : decode cX8_events 1 = .ok (.getfield 148, 3) := by decide +kernel
theorem dX8_events_4 : decode cX8_events 4 = .ok (.ireturn, 1) := by decide +kernel
theorem dX8_ended_0 : decode cX8_ended 0 = .ok (.aload_n 0, 1) := by decide +kernel
theorem dX8_ended_1 : decode cX8_ended 1 = .ok (.getfield 187, 3) := by decide +kernel
theorem dX8_ended_4 : decode cX8_ended 4 = .ok (.ireturn, 1) := by decide +kernel
theorem dX8_lost_0 : decode cX8_lost 0 = .ok (.aload_n 0, 1) := by decide +kernel
theorem dX8_lost_1 : decode cX8_lost 1 = .ok (.getfield 180, 3) := by decide +kernel
theorem dX8_lost_4 : decode cX8_lost 4 = .ok (.ireturn, 1) := by decide +kernel
theorem dX8_clock_0 : decode cX8_clock 0 = .ok (.aload_n 0, 1) := by decide +kernel
theorem dX8_clock_1 : decode cX8_clock 1 = .ok (.getfield 163, 3) := by decide +kernel
theorem dX8_clock_4 : decode cX8_clock 4 = .ok (.ireturn, 1) := by decide +kernel
end
section
theorem dJ9_max_7cf53_0 : decode cJ9_max_7cf53 0 = .ok (.iload_n 0, 1) := by decide +kernel
theorem dJ9_max_7cf53_1 : decode cJ9_max_7cf53 1 = .ok (.iload_n 1, 1) := by decide +kernel
theorem dJ9_max_7cf53_2 : decode cJ9_max_7cf53 2 = .ok (.if_icmp .lt 7, 3) := by decide +kernel
theorem dJ9_max_7cf53_5 : decode cJ9_max_7cf53 5 = .ok (.iload_n 0, 1) := by decide +kernel
theorem dJ9_max_7cf53_6 : decode cJ9_max_7cf53 6 = .ok (.goto 4, 3) := by decide +kernel
theorem dJ9_max_7cf53_9 : decode cJ9_max_7cf53 9 = .ok (.iload_n 1, 1) := by decide +kernel
theorem dJ9_max_7cf53_10 : decode cJ9_max_7cf53 10 = .ok (.ireturn, 1) := by decide +kernel
theorem dJ9_min_7cf53_0 : decode cJ9_min_7cf53 0 = .ok (.iload_n 0, 1) := by decide +kernel
theorem dJ9_min_7cf53_1 : decode cJ9_min_7cf53 1 = .ok (.iload_n 1, 1) := by decide +kernel
theorem dJ9_min_7cf53_2 : decode cJ9_min_7cf53 2 = .ok (.if_icmp .gt 7, 3) := by decide +kernel
theorem dJ9_min_7cf53_5 : decode cJ9_min_7cf53 5 = .ok (.iload_n 0, 1) := by decide +kernel
theorem dJ9_min_7cf53_6 : decode cJ9_min_7cf53 6 = .ok (.goto 4, 3) := by decide +kernel
theorem dJ9_min_7cf53_9 : decode cJ9_min_7cf53 9 = .ok (.iload_n 1, 1) := by decide +kernel
theorem dJ9_min_7cf53_10 : decode cJ9_min_7cf53 10 = .ok (.ireturn, 1) := by decide +kernel
theorem dJ7_copyOf_59c91_0 : decode cJ7_copyOf_59c91 0 = .ok (.iload_n 1, 1) := by decide +kernel
theorem dJ7_copyOf_59c91_1 : decode cJ7_copyOf_59c91 1 = .ok (.aload_n 0, 1) := by decide +kernel
theorem dJ7_copyOf_59c91_2 : decode cJ7_copyOf_59c91 2 = .ok (.arraylength, 1) := by decide +kernel
theorem dJ7_copyOf_59c91_3 : decode cJ7_copyOf_59c91 3 = .ok (.if_icmp .ne 11, 3) := by decide +kernel
theorem dJ7_copyOf_59c91_6 : decode cJ7_copyOf_59c91 6 = .ok (.aload_n 0, 1) := by decide +kernel
theorem dJ7_copyOf_59c91_7 : decode cJ7_copyOf_59c91 7 = .ok (.invokevirtual 316, 3) := by decide +kernel
theorem dJ7_copyOf_59c91_10 : decode cJ7_copyOf_59c91 10 = .ok (.checkcast 317, 3) := by decide +kernel
theorem dJ7_copyOf_59c91_13 : decode cJ7_copyOf_59c91 13 = .ok (.areturn, 1) := by decide +kernel
theorem dJ7_copyOf_59c91_14 : decode cJ7_copyOf_59c91 14 = .ok (.iload_n 1, 1) := by decide +kernel
theorem dJ7_copyOf_59c91_15 : decode cJ7_copyOf_59c91 15 = .ok (.newarray .int, 2) := by decide +kernel
theorem dJ7_copyOf_59c91_17 : decode cJ7_copyOf_59c91 17 = .ok (.astore_n 2, 1) := by decide +kernel
theorem dJ7_copyOf_59c91_18 : decode cJ7_copyOf_59c91 18 = .ok (.aload_n 0, 1) := by decide +kernel
theorem dJ7_copyOf_59c91_19 : decode cJ7_copyOf_59c91 19 = .ok (.iconst 0, 1) := by decide +kernel
theorem dJ7_copyOf_59c91_20 : decode cJ7_copyOf_59c91 20 = .ok (.aload_n 2, 1) := by decide +kernel
theorem dJ7_copyOf_59c91_21 : decode cJ7_copyOf_59c91 21 = .ok (.iconst 0, 1) := by decide +kernel
theorem dJ7_copyOf_59c91_22 : decode cJ7_copyOf_59c91 22 = .ok (.aload_n 0, 1) := by decide +kernel
theorem dJ7_copyOf_59c91_23 : decode cJ7_copyOf_59c91 23 = .ok (.arraylength, 1) := by decide +kernel
theorem dJ7_copyOf_59c91_24 : decode cJ7_copyOf_59c91 24 = .ok (.iload_n 1, 1) := by decide +kernel
theorem dJ7_copyOf_59c91_25 : decode cJ7_copyOf_59c91 25 = .ok (.invokestatic 304, 3) := by decide +kernel
theorem dJ7_copyOf_59c91_28 : decode cJ7_copyOf_59c91 28 = .ok (.invokestatic 150, 3) := by decide +kernel
theorem dJ7_copyOf_59c91_31 : decode cJ7_copyOf_59c91 31 = .ok (.aload_n 2, 1) := by decide +kernel
theorem dJ7_copyOf_59c91_32 : decode cJ7_copyOf_59c91 32 = .ok (.areturn, 1) := by decide +kernel
set_option maxRecDepth 20000 in
theorem ggL_law_X7_init : GoodIn wsL_law wsX7_init := goodIn_r _ [8, 9, 10, 11, 12, 13, 14, 15, 16, 17, 18, 19, 20, 21, 22, 23, 24, 25, 26, 27, 28, 29, 30, 31, 32, 33, 34, 35, 614, 615, 616, 617, 618, 619, 620, 669, 670, 671, 672, 673, 674, 675, 676, 677] (by decide +kernel) (by decide +kernel)
set_option maxRecDepth 20000 in
theorem gL_law_X7_init : GoodIn wsL_law (wsX7_init) := ggL_law_X7_init
set_option maxRecDepth 20000 in
theorem ggL_law_X8_init : GoodIn wsL_law wsX8_init := goodIn_r _ [38, 39, 10, 11, 40, 25, 41, 42, 43, 44, 45, 46, 47, 48, 49, 50, 51, 52, 53, 54, 55, 56, 57, 58, 59, 60, 61, 62, 63, 64, 65, 66, 67, 68, 69, 70, 71, 72, 73, 74, 75, 76, 77, 78, 79, 80, 81, 82, 83, 621, 622, 623, 624, 625, 626, 627, 628, 629, 630, 631, 632, 633, 634, 635, 636, 637, 638, 639, 640, 641, 642, 643, 644, 645, 646, 647, 648, 649, 650, 651, 652, 653, 654, 655, 656, 657, 658, 659, 660, 661, 662, 663, 664, 665, 666, 667, 668] (by decide +kernel) (by decide +kernel)
set_option maxRecDepth 20000 in
theorem gL_law_X8_init : GoodIn wsL_law (wsX8_init) := ggL_law_X8_init
set_option maxRecDepth 20000 in
theorem ggL_law_X7_stage : GoodIn wsL_law wsX7_stage := goodIn_r _ [87, 88, 13, 12, 89, 90, 91, 92, 2, 93, 94, 95, 96, 97, 10, 11, 98, 99, 100, 101, 102, 103, 104, 105, 106, 107, 108, 109, 110, 111, 112, 113, 114, 115, 116, 117, 118, 119, 120, 25, 121, 122, 123, 124, 125, 126, 127, 128, 129, 130, 131, 132, 133, 134, 135, 136, 137, 138, 139, 140, 141, 142, 143, 144, 145, 146, 147, 614, 615, 616, 617, 618, 619, 620, 678, 679, 680, 681, 682, 683, 684, 685, 686, 687, 688, 689, 690, 691, 692, 693, 694, 695, 696, 697, 698, 699, 700, 701, 702, 703, 704, 705, 706, 707, 708, 709, 710, 711, 712, 713, 714] (by decide +kernel) (by decide +kernel)
set_option maxRecDepth 20000 in
theorem gL_law_X7_stage : GoodIn wsL_law (wsV RL 13 RX7 yX7_stage wsX7_stage) := goodIn_app (goodIn_of _ (by decide +kernel)) ggL_law_X7_stage
set_option maxRecDepth 20000 in
theorem ggL_law_X8_stage : GoodIn wsL_law wsX8_stage := goodIn_r _ [151, 152, 45, 46, 47, 48, 50, 51, 52, 55, 57, 56, 54, 153, 154, 5, 155, 621, 622, 623, 624, 625, 626, 627, 628, 629, 630, 631, 632, 633, 634, 635, 636, 637, 638, 639, 640, 641, 642, 643, 644, 645, 646, 647, 648, 649, 650, 651, 652, 653, 654, 655, 656, 657, 658, 659, 660, 661, 662, 663, 664, 665, 666, 667, 668] (by decide +kernel) (by decide +kernel)
set_option maxRecDepth 20000 in
theorem gL_law_X8_stage : GoodIn wsL_law (wsV RL 17 RX8 yX8_stage wsX8_stage) := goodIn_app (goodIn_of _ (by decide +kernel)) ggL_law_X8_stage
set_option maxRecDepth 20000 in
theorem ggL_law_X7_targets : GoodIn wsL_law wsX7_targets := goodIn_r _ [159, 160, 161, 162, 163, 164, 2, 165, 88, 13, 91, 92, 93, 166, 167, 168, 169, 678, 679, 680, 681, 682, 683, 684, 685, 686, 687, 688, 689, 690, 691, 692, 693, 694, 695, 696, 614, 615, 616, 617, 618, 619, 620] (by decide +kernel) (by decide +kernel)
set_option maxRecDepth 20000 in
theorem gL_law_X7_targets : GoodIn wsL_law (wsV RL 18 RX7 yX7_targets wsX7_targets) := goodIn_app (goodIn_of _ (by decide +kernel)) ggL_law_X7_targets
set_option maxRecDepth 20000 in
theorem ggL_law_X8_targets : GoodIn wsL_law wsX8_targets := goodIn_r _ [173, 46, 47, 174, 175, 176, 5, 177, 152, 621, 622, 623, 624, 625, 626, 627, 628, 629, 630, 631, 632, 633, 634, 635, 636, 637, 638, 639, 640, 641, 642, 643, 644, 645, 646, 647, 648, 649, 650, 651, 652, 653, 654, 655, 656, 657, 658, 659, 660, 661, 662, 663, 664, 665, 666, 667, 668] (by decide +kernel) (by decide +kernel)
set_option maxRecDepth 20000 in
theorem gL_law_X8_targets : GoodIn wsL_law (wsV RL 22 RX8 yX8_targets wsX8_targets) := goodIn_app (goodIn_of _ (by decide +kernel)) ggL_law_X8_targets
set_option maxRecDepth 20000 in
theorem ggL_law_X7_admit : GoodIn wsL_law wsX7_admit := goodIn_r _ [181, 182, 183, 184, 185, 186, 187, 188, 189, 162, 163, 164, 2, 165, 88, 13, 91, 92, 93, 678, 679, 680, 681, 682, 683, 684, 685, 686, 687, 688, 689, 690, 691, 692, 693, 694, 695, 696, 614, 615, 616, 617, 618, 619, 620] (by decide +kernel) (by decide +kernel)
set_option maxRecDepth 20000 in
theorem gL_law_X7_admit : GoodIn wsL_law (wsV RL 23 RX7 yX7_admit wsX7_admit) := goodIn_app (goodIn_of _ (by decide +kernel)) ggL_law_X7_admit
set_option maxRecDepth 20000 in
theorem ggL_law_X8_admit : GoodIn wsL_law wsX8_admit := goodIn_r _ [193, 52, 51, 50, 53, 174, 175, 176, 5, 177, 152, 153, 154, 155, 621, 622, 623, 624, 625, 626, 627, 628, 629, 630, 631, 632, 633, 634, 635, 636, 637, 638, 639, 640, 641, 642, 643, 644, 645, 646, 647, 648, 649, 650, 651, 652, 653, 654, 655, 656, 657, 658, 659, 660, 661, 662, 663, 664, 665, 666, 667, 668] (by decide +kernel) (by decide +kernel)
set_option maxRecDepth 20000 in
theorem gL_law_X8_admit : GoodIn wsL_law (wsV RL 26 RX8 yX8_admit wsX8_admit) := goodIn_app (goodIn_of _ (by decide +kernel)) ggL_law_X8_admit
set_option maxRecDepth 20000 in
theorem ggL_law_X7_put : GoodIn wsL_law wsX7_put := goodIn_r _ [197, 198, 162, 163, 164, 2, 165, 88, 13, 91, 92, 93, 199, 200, 201, 90, 202, 203, 104, 204, 205, 206, 207, 208, 108, 113, 209, 210, 211, 212, 213, 214, 215, 216, 217, 218, 219, 220, 221, 222, 112, 223, 224, 127, 128, 129, 614, 615, 616, 617, 618, 619, 620, 678, 679, 680, 681, 682, 683, 684, 685, 686, 687, 688, 689, 690, 691, 692, 693, 694, 695, 696, 700, 701, 702, 703] (by decide +kernel) (by decide +kernel)
set_option maxRecDepth 20000 in
theorem gL_law_X7_put : GoodIn wsL_law (wsV RL 27 RX7 yX7_put wsX7_put) := goodIn_app (goodIn_of _ (by decide +kernel)) ggL_law_X7_put
set_option maxRecDepth 20000 in
theorem ggL_law_X8_put : GoodIn wsL_law wsX8_put := goodIn_r _ [228, 60, 229, 230, 174, 175, 176, 5, 177, 152, 231, 232, 233, 234, 59, 63, 49, 48, 50, 235, 236, 237, 238, 239, 240, 241, 242, 64, 243, 244, 245, 246, 41, 42, 621, 622, 623, 624, 625, 626, 627, 628, 629, 630, 631, 632, 633, 634, 635, 636, 637, 638, 639, 640, 641, 642, 643, 644, 645, 646, 647, 648, 649, 650, 651, 652, 653, 654, 655, 656, 657, 658, 659, 660, 661, 662, 663, 664, 665, 666, 667, 668] (by decide +kernel) (by decide +kernel)
set_option maxRecDepth 20000 in
theorem gL_law_X8_put : GoodIn wsL_law (wsV RL 31 RX8 yX8_put wsX8_put) := goodIn_app (goodIn_of _ (by decide +kernel)) ggL_law_X8_put
set_option maxRecDepth 20000 in
theorem ggL_law_X7_prepare : GoodIn wsL_law wsX7_prepare := goodIn_r _ [250, 251, 252, 162, 163, 164, 2, 165, 88, 13, 91, 92, 93, 253, 206, 207, 90, 208, 108, 113, 209, 210, 678, 679, 680, 681, 682, 683, 684, 685, 686, 687, 688, 689, 690, 691, 692, 693, 694, 695, 696, 614, 615, 616, 617, 618, 619, 620, 700, 701, 702, 703] (by decide +kernel) (by decide +kernel)
set_option maxRecDepth 20000 in
theorem gL_law_X7_prepare : GoodIn wsL_law (wsV RL 32 RX7 yX7_prepare wsX7_prepare) := goodIn_app (goodIn_of _ (by decide +kernel)) ggL_law_X7_prepare
set_option maxRecDepth 20000 in
theorem ggL_law_X8_prepare : GoodIn wsL_law wsX8_prepare := goodIn_r _ [257, 59, 63, 49, 48, 174, 175, 176, 5, 177, 152, 153, 154, 155, 621, 622, 623, 624, 625, 626, 627, 628, 629, 630, 631, 632, 633, 634, 635, 636, 637, 638, 639, 640, 641, 642, 643, 644, 645, 646, 647, 648, 649, 650, 651, 652, 653, 654, 655, 656, 657, 658, 659, 660, 661, 662, 663, 664, 665, 666, 667, 668] (by decide +kernel) (by decide +kernel)
set_option maxRecDepth 20000 in
theorem gL_law_X8_prepare : GoodIn wsL_law (wsV RL 35 RX8 yX8_prepare wsX8_prepare) := goodIn_app (goodIn_of _ (by decide +kernel)) ggL_law_X8_prepare
set_option maxRecDepth 20000 in
theorem ggL_law_X7_commit : GoodIn wsL_law wsX7_commit := goodIn_r _ [261, 252, 251, 215, 262, 198, 162, 163, 164, 2, 165, 88, 13, 91, 92, 93, 211, 212, 213, 214, 263, 221, 222, 112, 223, 224, 127, 128, 129, 678, 679, 680, 681, 682, 683, 684, 685, 686, 687, 688, 689, 690, 691, 692, 693, 694, 695, 696, 614, 615, 616, 617, 618, 619, 620, 700, 701, 702, 703] (by decide +kernel) (by decide +kernel)
set_option maxRecDepth 20000 in
theorem gL_law_X7_commit : GoodIn wsL_law (wsV RL 36 RX7 yX7_commit wsX7_commit) := goodIn_app (goodIn_of _ (by decide +kernel)) ggL_law_X7_commit
set_option maxRecDepth 20000 in
theorem ggL_law_X8_commit : GoodIn wsL_law wsX8_commit := goodIn_r _ [267, 49, 59, 229, 230, 174, 175, 176, 5, 177, 152, 243, 244, 245, 246, 41, 42, 239, 240, 241, 242, 64, 63, 621, 622, 623, 624, 625, 626, 627, 628, 629, 630, 631, 632, 633, 634, 635, 636, 637, 638, 639, 640, 641, 642, 643, 644, 645, 646, 647, 648, 649, 650, 651, 652, 653, 654, 655, 656, 657, 658, 659, 660, 661, 662, 663, 664, 665, 666, 667, 668] (by decide +kernel) (by decide +kernel)
set_option maxRecDepth 20000 in
theorem gL_law_X8_commit : GoodIn wsL_law (wsV RL 39 RX8 yX8_commit wsX8_commit) := goodIn_app (goodIn_of _ (by decide +kernel)) ggL_law_X8_commit
set_option maxRecDepth 20000 in
theorem ggL_law_X7_abort : GoodIn wsL_law wsX7_abort := goodIn_r _ [271, 252, 162, 163, 164, 2, 165, 88, 13, 91, 92, 93, 678, 679, 680, 681, 682, 683, 684, 685, 686, 687, 688, 689, 690, 691, 692, 693, 694, 695, 696, 614, 615, 616, 617, 618, 619, 620] (by decide +kernel) (by decide +kernel)
set_option maxRecDepth 20000 in
theorem gL_law_X7_abort : GoodIn wsL_law (wsV RL 40 RX7 yX7_abort wsX7_abort) := goodIn_app (goodIn_of _ (by decide +kernel)) ggL_law_X7_abort
set_option maxRecDepth 20000 in
theorem ggL_law_X8_abort : GoodIn wsL_law wsX8_abort := goodIn_r _ [275, 49, 174, 175, 176, 5, 177, 152, 621, 622, 623, 624, 625, 626, 627, 628, 629, 630, 631, 632, 633, 634, 635, 636, 637, 638, 639, 640, 641, 642, 643, 644, 645, 646, 647, 648, 649, 650, 651, 652, 653, 654, 655, 656, 657, 658, 659, 660, 661, 662, 663, 664, 665, 666, 667, 668] (by decide +kernel) (by decide +kernel)
set_option maxRecDepth 20000 in
theorem gL_law_X8_abort : GoodIn wsL_law (wsV RL 44 RX8 yX8_abort wsX8_abort) := goodIn_app (goodIn_of _ (by decide +kernel)) ggL_law_X8_abort
set_option maxRecDepth 20000 in
theorem ggL_law_X7_timer : GoodIn wsL_law wsX7_timer := goodIn_r _ [279, 17, 198, 162, 163, 164, 2, 165, 88, 13, 91, 92, 93, 280, 281, 282, 16, 283, 284, 26, 285, 28, 29, 30, 614, 615, 616, 617, 618, 619, 620, 669, 670, 671, 672, 673, 674] (by decide +kernel) (by decide +kernel)
set_option maxRecDepth 20000 in
theorem gL_law_X7_timer : GoodIn wsL_law (wsV RL 45 RX7 yX7_timer wsX7_timer) := goodIn_app (goodIn_of _ (by decide +kernel)) ggL_law_X7_timer
set_option maxRecDepth 20000 in
theorem ggL_law_X8_timer : GoodIn wsL_law wsX8_timer := goodIn_r _ [289, 290, 80, 291, 81, 82, 83, 230, 174, 175, 176, 5, 177, 152, 153, 154, 155, 621, 622, 623, 624, 625, 626, 627, 628, 629, 630, 631, 632, 633, 634, 635, 636, 637, 638, 639, 640, 641, 642, 643, 644, 645, 646, 647, 648, 649, 650, 651, 652, 653, 654, 655, 656, 657, 658, 659, 660, 661, 662, 663, 664, 665, 666, 667, 668] (by decide +kernel) (by decide +kernel)
set_option maxRecDepth 20000 in
theorem gL_law_X8_timer : GoodIn wsL_law (wsV RL 48 RX8 yX8_timer wsX8_timer) := goodIn_app (goodIn_of _ (by decide +kernel)) ggL_law_X8_timer
set_option maxRecDepth 20000 in
theorem ggL_law_X7_cancel : GoodIn wsL_law wsX7_cancel := goodIn_r _ [295, 17, 296, 297, 298, 16, 299, 284, 26, 300, 301, 302, 303, 28, 29, 30, 614, 615, 616, 617, 618, 619, 620, 669, 670, 671, 672, 673, 674] (by decide +kernel) (by decide +kernel)
set_option maxRecDepth 20000 in
theorem gL_law_X7_cancel : GoodIn wsL_law (wsV RL 49 RX7 yX7_cancel wsX7_cancel) := goodIn_app (goodIn_of _ (by decide +kernel)) ggL_law_X7_cancel
set_option maxRecDepth 20000 in
theorem ggL_law_X8_cancel : GoodIn wsL_law wsX8_cancel := goodIn_r _ [307, 290, 80, 308, 309, 310, 5, 311, 81, 82, 83, 621, 622, 623, 624, 625, 626, 627, 628, 629, 630, 631, 632, 633, 634, 635, 636, 637, 638, 639, 640, 641, 642, 643, 644, 645, 646, 647, 648, 649, 650, 651, 652, 653, 654, 655, 656, 657, 658, 659, 660, 661, 662, 663, 664, 665, 666, 667, 668] (by decide +kernel) (by decide +kernel)
set_option maxRecDepth 20000 in
theorem gL_law_X8_cancel : GoodIn wsL_law (wsV RL 52 RX8 yX8_cancel wsX8_cancel) := goodIn_app (goodIn_of _ (by decide +kernel)) ggL_law_X8_cancel
set_option maxRecDepth 20000 in
theorem ggL_law_X7_close : GoodIn wsL_law wsX7_close := goodIn_r _ [315, 251, 162, 163, 164, 2, 165, 88, 13, 91, 92, 93, 678, 679, 680, 681, 682, 683, 684, 685, 686, 687, 688, 689, 690, 691, 692, 693, 694, 695, 696, 614, 615, 616, 617, 618, 619, 620] (by decide +kernel) (by decide +kernel)
set_option maxRecDepth 20000 in
theorem gL_law_X7_close : GoodIn wsL_law (wsV RL 53 RX7 yX7_close wsX7_close) := goodIn_app (goodIn_of _ (by decide +kernel)) ggL_law_X7_close
set_option maxRecDepth 20000 in
theorem ggL_law_X8_close : GoodIn wsL_law wsX8_close := goodIn_r _ [319, 59, 174, 175, 176, 5, 177, 152, 621, 622, 623, 624, 625, 626, 627, 628, 629, 630, 631, 632, 633, 634, 635, 636, 637, 638, 639, 640, 641, 642, 643, 644, 645, 646, 647, 648, 649, 650, 651, 652, 653, 654, 655, 656, 657, 658, 659, 660, 661, 662, 663, 664, 665, 666, 667, 668] (by decide +kernel) (by decide +kernel)
set_option maxRecDepth 20000 in
theorem gL_law_X8_close : GoodIn wsL_law (wsV RL 56 RX8 yX8_close wsX8_close) := goodIn_app (goodIn_of _ (by decide +kernel)) ggL_law_X8_close
set_option maxRecDepth 20000 in
theorem ggL_law_X7_tick : GoodIn wsL_law wsX7_tick := goodIn_r _ [323, 198, 91, 92, 2, 93, 324, 325, 326, 327, 88, 13, 328, 329, 330, 331, 332, 90, 333, 104, 102, 103, 334, 187, 188, 189, 335, 336, 337, 338, 17, 339, 340, 341, 342, 343, 344, 345, 346, 347, 211, 212, 213, 214, 215, 199, 200, 201, 202, 203, 204, 205, 206, 207, 208, 108, 113, 209, 210, 216, 217, 218, 219, 220, 221, 222, 112, 223, 224, 127, 128, 129, 348, 301, 302, 16, 303, 26, 28, 29, 30, 349, 350, 351, 352, 353, 354, 355, 356, 357, 358, 359, 360, 361, 362, 363, 364, 365, 366, 107, 367, 368, 369, 370, 371, 372, 373, 374, 375, 376, 377, 378, 137, 379, 380, 144, 145, 146, 381, 382, 383, 384, 385, 386, 387, 388, 389, 390, 391, 392, 393, 394, 395, 396, 397, 398, 399, 400, 401, 402, 403, 404, 21, 405, 406, 407, 408, 409, 100, 410, 411, 121, 412, 413, 414, 415, 416, 417, 418, 20, 419, 420, 34, 35, 421, 422, 423, 424, 425, 426, 427, 428, 429, 430, 25, 431, 432, 433, 434, 435, 436, 437, 147, 438, 439, 440, 441, 106, 109, 442, 443, 444, 445, 446, 447, 448, 449, 450, 451, 452, 453, 454, 455, 456, 457, 101, 458, 459, 460, 461, 462, 105, 115, 463, 464, 465, 466, 467, 468, 469, 470, 471, 472, 473, 474, 475, 476, 477, 478, 479, 480, 481, 482, 122, 614, 615, 616, 617, 618, 619, 620, 678, 679, 680, 681, 682, 683, 684, 685, 686, 687, 688, 689, 690, 691, 692, 693, 694, 695, 696, 669, 670, 671, 672, 673, 674, 700, 701, 702, 703, 704, 705, 706, 707, 708, 709, 710, 711, 712, 713, 714, 697, 698, 699, 675, 676, 677] (by decide +kernel) (by decide +kernel)
set_option maxRecDepth 20000 in
theorem gL_law_X7_tick : GoodIn wsL_law (wsV RL 57 RX7 yX7_tick wsX7_tick) := goodIn_app (goodIn_of _ (by decide +kernel)) ggL_law_X7_tick
set_option maxRecDepth 20000 in
theorem ggL_law_X8_tick : GoodIn wsL_law wsX8_tick := goodIn_r _ [486, 230, 153, 154, 5, 155, 487, 488, 489, 490, 152, 50, 52, 51, 54, 491, 492, 493, 494, 290, 83, 81, 82, 495, 243, 244, 245, 246, 41, 229, 42, 308, 309, 310, 311, 80, 235, 236, 237, 238, 60, 231, 232, 233, 234, 59, 63, 49, 48, 239, 240, 241, 242, 64, 496, 497, 498, 499, 68, 70, 56, 69, 57, 78, 79, 500, 501, 502, 503, 71, 73, 72, 77, 74, 75, 76, 504, 505, 506, 507, 45, 46, 47, 508, 509, 510, 511, 512, 513, 514, 515, 61, 62, 44, 516, 65, 66, 517, 518, 519, 520, 55, 53, 521, 522, 523, 524, 67, 621, 622, 623, 624, 625, 626, 627, 628, 629, 630, 631, 632, 633, 634, 635, 636, 637, 638, 639, 640, 641, 642, 643, 644, 645, 646, 647, 648, 649, 650, 651, 652, 653, 654, 655, 656, 657, 658, 659, 660, 661, 662, 663, 664, 665, 666, 667, 668] (by decide +kernel) (by decide +kernel)
set_option maxRecDepth 20000 in
theorem gL_law_X8_tick : GoodIn wsL_law (wsV RL 60 RX8 yX8_tick wsX8_tick) := goodIn_app (goodIn_of _ (by decide +kernel)) ggL_law_X8_tick
set_option maxRecDepth 20000 in
theorem ggL_law_X7_told : GoodIn wsL_law wsX7_told := goodIn_r _ [528, 162, 163, 164, 2, 165, 88, 13, 91, 92, 93, 529, 530, 531, 90, 532, 113, 209, 210, 105, 106, 102, 104, 204, 533, 534, 101, 479, 480, 481, 100, 482, 411, 122, 121, 614, 615, 616, 617, 618, 619, 620, 678, 679, 680, 681, 682, 683, 684, 685, 686, 687, 688, 689, 690, 691, 692, 693, 694, 695, 696, 700, 701, 702, 703, 697, 698, 699] (by decide +kernel) (by decide +kernel)
set_option maxRecDepth 20000 in
theorem gL_law_X7_told : GoodIn wsL_law (wsV RL 61 RX7 yX7_told wsX7_told) := goodIn_app (goodIn_of _ (by decide +kernel)) ggL_law_X7_told
set_option maxRecDepth 20000 in
theorem ggL_law_X8_told : GoodIn wsL_law wsX8_told := goodIn_r _ [538, 63, 49, 54, 56, 52, 50, 60, 61, 62, 174, 175, 176, 5, 177, 152, 521, 522, 523, 524, 65, 66, 67, 621, 622, 623, 624, 625, 626, 627, 628, 629, 630, 631, 632, 633, 634, 635, 636, 637, 638, 639, 640, 641, 642, 643, 644, 645, 646, 647, 648, 649, 650, 651, 652, 653, 654, 655, 656, 657, 658, 659, 660, 661, 662, 663, 664, 665, 666, 667, 668] (by decide +kernel) (by decide +kernel)
set_option maxRecDepth 20000 in
theorem gL_law_X8_told : GoodIn wsL_law (wsV RL 64 RX8 yX8_told wsX8_told) := goodIn_app (goodIn_of _ (by decide +kernel)) ggL_law_X8_told
set_option maxRecDepth 20000 in
theorem ggL_law_X7_queued : GoodIn wsL_law wsX7_queued := goodIn_r _ [542, 262, 354, 405, 162, 163, 164, 2, 165, 88, 13, 91, 92, 93, 678, 679, 680, 681, 682, 683, 684, 685, 686, 687, 688, 689, 690, 691, 692, 693, 694, 695, 696, 700, 701, 702, 703, 614, 615, 616, 617, 618, 619, 620] (by decide +kernel) (by decide +kernel)
set_option maxRecDepth 20000 in
theorem gL_law_X7_queued : GoodIn wsL_law (wsV RL 65 RX7 yX7_queued wsX7_queued) := goodIn_app (goodIn_of _ (by decide +kernel)) ggL_law_X7_queued
set_option maxRecDepth 20000 in
theorem ggL_law_X8_queued : GoodIn wsL_law wsX8_queued := goodIn_r _ [546, 63, 64, 174, 175, 176, 5, 177, 152, 621, 622, 623, 624, 625, 626, 627, 628, 629, 630, 631, 632, 633, 634, 635, 636, 637, 638, 639, 640, 641, 642, 643, 644, 645, 646, 647, 648, 649, 650, 651, 652, 653, 654, 655, 656, 657, 658, 659, 660, 661, 662, 663, 664, 665, 666, 667, 668] (by decide +kernel) (by decide +kernel)
set_option maxRecDepth 20000 in
theorem gL_law_X8_queued : GoodIn wsL_law (wsV RL 68 RX8 yX8_queued wsX8_queued) := goodIn_app (goodIn_of _ (by decide +kernel)) ggL_law_X8_queued
set_option maxRecDepth 20000 in
theorem ggL_law_X7_worker : GoodIn wsL_law wsX7_worker := goodIn_r _ [550, 328, 329, 162, 163, 164, 2, 165, 88, 13, 91, 92, 93, 551, 552, 553, 117, 554, 134, 555, 556, 138, 557, 558, 678, 679, 680, 681, 682, 683, 684, 685, 686, 687, 688, 689, 690, 691, 692, 693, 694, 695, 696, 614, 615, 616, 617, 618, 619, 620, 704, 705, 706, 707, 708, 700, 701, 702, 703, 709, 710, 711, 712, 713, 714] (by decide +kernel) (by decide +kernel)
set_option maxRecDepth 20000 in
theorem gL_law_X7_worker : GoodIn wsL_law (wsV RL 69 RX7 yX7_worker wsX7_worker) := goodIn_app (goodIn_of _ (by decide +kernel)) ggL_law_X7_worker
set_option maxRecDepth 20000 in
theorem ggL_law_X8_worker : GoodIn wsL_law wsX8_worker := goodIn_r _ [562, 54, 68, 70, 71, 72, 73, 174, 175, 176, 5, 177, 152, 621, 622, 623, 624, 625, 626, 627, 628, 629, 630, 631, 632, 633, 634, 635, 636, 637, 638, 639, 640, 641, 642, 643, 644, 645, 646, 647, 648, 649, 650, 651, 652, 653, 654, 655, 656, 657, 658, 659, 660, 661, 662, 663, 664, 665, 666, 667, 668] (by decide +kernel) (by decide +kernel)
set_option maxRecDepth 20000 in
theorem gL_law_X8_worker : GoodIn wsL_law (wsV RL 72 RX8 yX8_worker wsX8_worker) := goodIn_app (goodIn_of _ (by decide +kernel)) ggL_law_X8_worker
set_option maxRecDepth 20000 in
theorem ggL_law_X7_done : GoodIn wsL_law wsX7_done := goodIn_r _ [566, 21, 567, 568, 91, 92, 2, 93, 614, 615, 616, 617, 618, 619, 620, 675, 676, 677] (by decide +kernel) (by decide +kernel)
set_option maxRecDepth 20000 in
theorem gL_law_X7_done : GoodIn wsL_law (wsV RL 73 RX7 yX7_done wsX7_done) := goodIn_app (goodIn_of _ (by decide +kernel)) ggL_law_X7_done
set_option maxRecDepth 20000 in
theorem ggL_law_X8_done : GoodIn wsL_law wsX8_done := goodIn_r _ [572, 516, 44, 621, 622, 623, 624, 625, 626, 627, 628, 629, 630, 631, 632, 633, 634, 635, 636, 637, 638, 639, 640, 641, 642, 643, 644, 645, 646, 647, 648, 649, 650, 651, 652, 653, 654, 655, 656, 657, 658, 659, 660, 661, 662, 663, 664, 665, 666, 667, 668] (by decide +kernel) (by decide +kernel)
set_option maxRecDepth 20000 in
theorem gL_law_X8_done : GoodIn wsL_law (wsV RL 76 RX8 yX8_done wsX8_done) := goodIn_app (goodIn_of _ (by decide +kernel)) ggL_law_X8_done
set_option maxRecDepth 20000 in
theorem ggL_law_X7_value : GoodIn wsL_law wsX7_value := goodIn_r _ [576, 21, 567, 577, 91, 92, 2, 93, 614, 615, 616, 617, 618, 619, 620, 675, 676, 677] (by decide +kernel) (by decide +kernel)
set_option maxRecDepth 20000 in
theorem gL_law_X7_value : GoodIn wsL_law (wsV RL 77 RX7 yX7_value wsX7_value) := goodIn_app (goodIn_of _ (by decide +kernel)) ggL_law_X7_value
set_option maxRecDepth 20000 in
theorem ggL_law_X8_value : GoodIn wsL_law wsX8_value := goodIn_r _ [581, 516, 41, 44, 621, 622, 623, 624, 625, 626, 627, 628, 629, 630, 631, 632, 633, 634, 635, 636, 637, 638, 639, 640, 641, 642, 643, 644, 645, 646, 647, 648, 649, 650, 651, 652, 653, 654, 655, 656, 657, 658, 659, 660, 661, 662, 663, 664, 665, 666, 667, 668] (by decide +kernel) (by decide +kernel)
set_option maxRecDepth 20000 in
theorem gL_law_X8_value : GoodIn wsL_law (wsV RL 80 RX8 yX8_value wsX8_value) := goodIn_app (goodIn_of _ (by decide +kernel)) ggL_law_X8_value
set_option maxRecDepth 20000 in
theorem ggL_law_X7_events : GoodIn wsL_law wsX7_events := goodIn_r _ [585, 215, 614, 615, 616, 617, 618, 619, 620] (by decide +kernel) (by decide +kernel)
set_option maxRecDepth 20000 in
theorem gL_law_X7_events : GoodIn wsL_law (wsV RL 81 RX7 yX7_events wsX7_events) := goodIn_app (goodIn_of _ (by decide +kernel)) ggL_law_X7_events
set_option maxRecDepth 20000 in
theorem ggL_law_X8_events : GoodIn wsL_law wsX8_events := goodIn_r _ [589, 229, 621, 622, 623, 624, 625, 626, 627, 628, 629, 630, 631, 632, 633, 634, 635, 636, 637, 638, 639, 640, 641, 642, 643, 644, 645, 646, 647, 648, 649, 650, 651, 652, 653, 654, 655, 656, 657, 658, 659, 660, 661, 662, 663, 664, 665, 666, 667, 668] (by decide +kernel) (by decide +kernel)
set_option maxRecDepth 20000 in
theorem gL_law_X8_events : GoodIn wsL_law (wsV RL 85 RX8 yX8_events wsX8_events) := goodIn_app (goodIn_of _ (by decide +kernel)) ggL_law_X8_events
set_option maxRecDepth 20000 in
theorem ggL_law_X7_ended : GoodIn wsL_law wsX7_ended := goodIn_r _ [593, 21, 567, 614, 615, 616, 617, 618, 619, 620, 675, 676, 677] (by decide +kernel) (by decide +kernel)
set_option maxRecDepth 20000 in
theorem gL_law_X7_ended : GoodIn wsL_law (wsV RL 86 RX7 yX7_ended wsX7_ended) := goodIn_app (goodIn_of _ (by decide +kernel)) ggL_law_X7_ended
set_option maxRecDepth 20000 in
theorem ggL_law_X8_ended : GoodIn wsL_law wsX8_ended := goodIn_r _ [597, 516, 621, 622, 623, 624, 625, 626, 627, 628, 629, 630, 631, 632, 633, 634, 635, 636, 637, 638, 639, 640, 641, 642, 643, 644, 645, 646, 647, 648, 649, 650, 651, 652, 653, 654, 655, 656, 657, 658, 659, 660, 661, 662, 663, 664, 665, 666, 667, 668] (by decide +kernel) (by decide +kernel)
set_option maxRecDepth 20000 in
theorem gL_law_X8_ended : GoodIn wsL_law (wsV RL 89 RX8 yX8_ended wsX8_ended) := goodIn_app (goodIn_of _ (by decide +kernel)) ggL_law_X8_ended
set_option maxRecDepth 20000 in
theorem ggL_law_X7_lost : GoodIn wsL_law wsX7_lost := goodIn_r _ [601, 347, 614, 615, 616, 617, 618, 619, 620] (by decide +kernel) (by decide +kernel)
set_option maxRecDepth 20000 in
theorem gL_law_X7_lost : GoodIn wsL_law (wsV RL 90 RX7 yX7_lost wsX7_lost) := goodIn_app (goodIn_of _ (by decide +kernel)) ggL_law_X7_lost
set_option maxRecDepth 20000 in
theorem ggL_law_X8_lost : GoodIn wsL_law wsX8_lost := goodIn_r _ [605, 495, 621, 622, 623, 624, 625, 626, 627, 628, 629, 630, 631, 632, 633, 634, 635, 636, 637, 638, 639, 640, 641, 642, 643, 644, 645, 646, 647, 648, 649, 650, 651, 652, 653, 654, 655, 656, 657, 658, 659, 660, 661, 662, 663, 664, 665, 666, 667, 668] (by decide +kernel) (by decide +kernel)
set_option maxRecDepth 20000 in
theorem gL_law_X8_lost : GoodIn wsL_law (wsV RL 93 RX8 yX8_lost wsX8_lost) := goodIn_app (goodIn_of _ (by decide +kernel)) ggL_law_X8_lost
set_option maxRecDepth 20000 in
theorem ggL_law_X7_clock : GoodIn wsL_law wsX7_clock := goodIn_r _ [609, 198, 614, 615, 616, 617, 618, 619, 620] (by decide +kernel) (by decide +kernel)
set_option maxRecDepth 20000 in
theorem gL_law_X7_clock : GoodIn wsL_law (wsV RL 94 RX7 yX7_clock wsX7_clock) := goodIn_app (goodIn_of _ (by decide +kernel)) ggL_law_X7_clock
set_option maxRecDepth 20000 in
theorem ggL_law_X8_clock : GoodIn wsL_law wsX8_clock := goodIn_r _ [613, 230, 621, 622, 623, 624, 625, 626, 627, 628, 629, 630, 631, 632, 633, 634, 635, 636, 637, 638, 639, 640, 641, 642, 643, 644, 645, 646, 647, 648, 649, 650, 651, 652, 653, 654, 655, 656, 657, 658, 659, 660, 661, 662, 663, 664, 665, 666, 667, 668] (by decide +kernel) (by decide +kernel)
set_option maxRecDepth 20000 in
theorem gL_law_X8_clock : GoodIn wsL_law (wsV RL 97 RX8 yX8_clock wsX8_clock) := goodIn_app (goodIn_of _ (by decide +kernel)) ggL_law_X8_clock
theorem dL_law_0 : decode cL_law 0 = .ok (.new 7, 3) := by decide +kernel
theorem dL_law_3 : decode cL_law 3 = .ok (.dup, 1) := by decide +kernel
theorem dL_law_4 : decode cL_law 4 = .ok (.invokespecial 9, 3) := by decide +kernel
theorem dL_law_7 : decode cL_law 7 = .ok (.astore_n 1, 1) := by decide +kernel
theorem dL_law_8 : decode cL_law 8 = .ok (.new 10, 3) := by decide +kernel
theorem dL_law_11 : decode cL_law 11 = .ok (.dup, 1) := by decide +kernel
theorem dL_law_12 : decode cL_law 12 = .ok (.invokespecial 12, 3) := by decide +kernel
theorem dL_law_15 : decode cL_law 15 = .ok (.astore_n 2, 1) := by decide +kernel
theorem dL_law_16 : decode cL_law 16 = .ok (.iconst 0, 1) := by decide +kernel
theorem dL_law_17 : decode cL_law 17 = .ok (.istore_n 3, 1) := by decide +kernel
theorem dL_law_18 : decode cL_law 18 = .ok (.iload_n 3, 1) := by decide +kernel
theorem dL_law_19 : decode cL_law 19 = .ok (.aload_n 0, 1) := by decide +kernel
theorem dL_law_20 : decode cL_law 20 = .ok (.arraylength, 1) := by decide +kernel
theorem dL_law_21 : decode cL_law 21 = .ok (.iconst 5, 1) := by decide +kernel
theorem dL_law_22 : decode cL_law 22 = .ok (.isub, 1) := by decide +kernel
theorem dL_law_23 : decode cL_law 23 = .ok (.if_icmp .gt 701, 3) := by decide +kernel
theorem dL_law_26 : decode cL_law 26 = .ok (.aload_n 0, 1) := by decide +kernel
theorem dL_law_27 : decode cL_law 27 = .ok (.iload_n 3, 1) := by decide +kernel
theorem dL_law_28 : decode cL_law 28 = .ok (.iaload, 1) := by decide +kernel
theorem dL_law_29 : decode cL_law 29 = .ok (.bipush 31, 2) := by decide +kernel
theorem dL_law_31 : decode cL_law 31 = .ok (.iand, 1) := by decide +kernel
theorem dL_law_32 : decode cL_law 32 = .ok (.tableswitch 686 0 19 #[96, 149, 192, 245, 278, 311, 344, 367, 410, 433, 456, 479, 512, 545, 588, 611, 634, 647, 660, 673], 96) := by decide +kernel
theorem dL_law_128 : decode cL_law 128 = .ok (.aload_n 1, 1) := by decide +kernel
theorem dL_law_129 : decode cL_law 129 = .ok (.aload_n 0, 1) := by decide +kernel
theorem dL_law_130 : decode cL_law 130 = .ok (.iload_n 3, 1) := by decide +kernel
theorem dL_law_131 : decode cL_law 131 = .ok (.iconst 1, 1) := by decide +kernel
theorem dL_law_132 : decode cL_law 132 = .ok (.iadd, 1) := by decide +kernel
theorem dL_law_133 : decode cL_law 133 = .ok (.iaload, 1) := by decide +kernel
theorem dL_law_134 : decode cL_law 134 = .ok (.aload_n 0, 1) := by decide +kernel
theorem dL_law_135 : decode cL_law 135 = .ok (.iload_n 3, 1) := by decide +kernel
theorem dL_law_136 : decode cL_law 136 = .ok (.iconst 2, 1) := by decide +kernel
theorem dL_law_137 : decode cL_law 137 = .ok (.iadd, 1) := by decide +kernel
theorem dL_law_138 : decode cL_law 138 = .ok (.iaload, 1) := by decide +kernel
theorem dL_law_139 : decode cL_law 139 = .ok (.aload_n 0, 1) := by decide +kernel
theorem dL_law_140 : decode cL_law 140 = .ok (.iload_n 3, 1) := by decide +kernel
theorem dL_law_141 : decode cL_law 141 = .ok (.iconst 3, 1) := by decide +kernel
theorem dL_law_142 : decode cL_law 142 = .ok (.iadd, 1) := by decide +kernel
theorem dL_law_143 : decode cL_law 143 = .ok (.iaload, 1) := by decide +kernel
theorem dL_law_144 : decode cL_law 144 = .ok (.aload_n 0, 1) := by decide +kernel
theorem dL_law_145 : decode cL_law 145 = .ok (.iload_n 3, 1) := by decide +kernel
theorem dL_law_146 : decode cL_law 146 = .ok (.iconst 4, 1) := by decide +kernel
theorem dL_law_147 : decode cL_law 147 = .ok (.iadd, 1) := by decide +kernel
theorem dL_law_148 : decode cL_law 148 = .ok (.iaload, 1) := by decide +kernel
theorem dL_law_149 : decode cL_law 149 = .ok (.invokevirtual 13, 3) := by decide +kernel
theorem dL_law_152 : decode cL_law 152 = .ok (.aload_n 2, 1) := by decide +kernel
theorem dL_law_153 : decode cL_law 153 = .ok (.aload_n 0, 1) := by decide +kernel
theorem dL_law_154 : decode cL_law 154 = .ok (.iload_n 3, 1) := by decide +kernel
theorem dL_law_155 : decode cL_law 155 = .ok (.iconst 1, 1) := by decide +kernel
theorem dL_law_156 : decode cL_law 156 = .ok (.iadd, 1) := by decide +kernel
theorem dL_law_157 : decode cL_law 157 = .ok (.iaload, 1) := by decide +kernel
theorem dL_law_158 : decode cL_law 158 = .ok (.aload_n 0, 1) := by decide +kernel
theorem dL_law_159 : decode cL_law 159 = .ok (.iload_n 3, 1) := by decide +kernel
theorem dL_law_160 : decode cL_law 160 = .ok (.iconst 2, 1) := by decide +kernel
theorem dL_law_161 : decode cL_law 161 = .ok (.iadd, 1) := by decide +kernel
theorem dL_law_162 : decode cL_law 162 = .ok (.iaload, 1) := by decide +kernel
theorem dL_law_163 : decode cL_law 163 = .ok (.aload_n 0, 1) := by decide +kernel
theorem dL_law_164 : decode cL_law 164 = .ok (.iload_n 3, 1) := by decide +kernel
theorem dL_law_165 : decode cL_law 165 = .ok (.iconst 3, 1) := by decide +kernel
theorem dL_law_166 : decode cL_law 166 = .ok (.iadd, 1) := by decide +kernel
theorem dL_law_167 : decode cL_law 167 = .ok (.iaload, 1) := by decide +kernel
theorem dL_law_168 : decode cL_law 168 = .ok (.aload_n 0, 1) := by decide +kernel
theorem dL_law_169 : decode cL_law 169 = .ok (.iload_n 3, 1) := by decide +kernel
theorem dL_law_170 : decode cL_law 170 = .ok (.iconst 4, 1) := by decide +kernel
theorem dL_law_171 : decode cL_law 171 = .ok (.iadd, 1) := by decide +kernel
theorem dL_law_172 : decode cL_law 172 = .ok (.iaload, 1) := by decide +kernel
theorem dL_law_173 : decode cL_law 173 = .ok (.invokevirtual 17, 3) := by decide +kernel
theorem dL_law_176 : decode cL_law 176 = .ok (.if_icmp .eq 542, 3) := by decide +kernel
theorem dL_law_179 : decode cL_law 179 = .ok (.iconst 0, 1) := by decide +kernel
theorem dL_law_180 : decode cL_law 180 = .ok (.ireturn, 1) := by decide +kernel
theorem dL_law_181 : decode cL_law 181 = .ok (.aload_n 1, 1) := by decide +kernel
theorem dL_law_182 : decode cL_law 182 = .ok (.aload_n 0, 1) := by decide +kernel
theorem dL_law_183 : decode cL_law 183 = .ok (.iload_n 3, 1) := by decide +kernel
theorem dL_law_184 : decode cL_law 184 = .ok (.iconst 1, 1) := by decide +kernel
theorem dL_law_185 : decode cL_law 185 = .ok (.iadd, 1) := by decide +kernel
theorem dL_law_186 : decode cL_law 186 = .ok (.iaload, 1) := by decide +kernel
theorem dL_law_187 : decode cL_law 187 = .ok (.aload_n 0, 1) := by decide +kernel
theorem dL_law_188 : decode cL_law 188 = .ok (.iload_n 3, 1) := by decide +kernel
theorem dL_law_189 : decode cL_law 189 = .ok (.iconst 2, 1) := by decide +kernel
theorem dL_law_190 : decode cL_law 190 = .ok (.iadd, 1) := by decide +kernel
theorem dL_law_191 : decode cL_law 191 = .ok (.iaload, 1) := by decide +kernel
theorem dL_law_192 : decode cL_law 192 = .ok (.aload_n 0, 1) := by decide +kernel
theorem dL_law_193 : decode cL_law 193 = .ok (.iload_n 3, 1) := by decide +kernel
theorem dL_law_194 : decode cL_law 194 = .ok (.iconst 3, 1) := by decide +kernel
theorem dL_law_195 : decode cL_law 195 = .ok (.iadd, 1) := by decide +kernel
theorem dL_law_196 : decode cL_law 196 = .ok (.iaload, 1) := by decide +kernel
theorem dL_law_197 : decode cL_law 197 = .ok (.invokevirtual 18, 3) := by decide +kernel
theorem dL_law_200 : decode cL_law 200 = .ok (.aload_n 2, 1) := by decide +kernel
theorem dL_law_201 : decode cL_law 201 = .ok (.aload_n 0, 1) := by decide +kernel
theorem dL_law_202 : decode cL_law 202 = .ok (.iload_n 3, 1) := by decide +kernel
theorem dL_law_203 : decode cL_law 203 = .ok (.iconst 1, 1) := by decide +kernel
theorem dL_law_204 : decode cL_law 204 = .ok (.iadd, 1) := by decide +kernel
theorem dL_law_205 : decode cL_law 205 = .ok (.iaload, 1) := by decide +kernel
theorem dL_law_206 : decode cL_law 206 = .ok (.aload_n 0, 1) := by decide +kernel
theorem dL_law_207 : decode cL_law 207 = .ok (.iload_n 3, 1) := by decide +kernel
theorem dL_law_208 : decode cL_law 208 = .ok (.iconst 2, 1) := by decide +kernel
theorem dL_law_209 : decode cL_law 209 = .ok (.iadd, 1) := by decide +kernel
theorem dL_law_210 : decode cL_law 210 = .ok (.iaload, 1) := by decide +kernel
theorem dL_law_211 : decode cL_law 211 = .ok (.aload_n 0, 1) := by decide +kernel
theorem dL_law_212 : decode cL_law 212 = .ok (.iload_n 3, 1) := by decide +kernel
theorem dL_law_213 : decode cL_law 213 = .ok (.iconst 3, 1) := by decide +kernel
theorem dL_law_214 : decode cL_law 214 = .ok (.iadd, 1) := by decide +kernel
theorem dL_law_215 : decode cL_law 215 = .ok (.iaload, 1) := by decide +kernel
theorem dL_law_216 : decode cL_law 216 = .ok (.invokevirtual 22, 3) := by decide +kernel
theorem dL_law_219 : decode cL_law 219 = .ok (.if_icmp .eq 499, 3) := by decide +kernel
theorem dL_law_222 : decode cL_law 222 = .ok (.iconst 0, 1) := by decide +kernel
theorem dL_law_223 : decode cL_law 223 = .ok (.ireturn, 1) := by decide +kernel
theorem dL_law_224 : decode cL_law 224 = .ok (.aload_n 1, 1) := by decide +kernel
theorem dL_law_225 : decode cL_law 225 = .ok (.aload_n 0, 1) := by decide +kernel
theorem dL_law_226 : decode cL_law 226 = .ok (.iload_n 3, 1) := by decide +kernel
theorem dL_law_227 : decode cL_law 227 = .ok (.iconst 1, 1) := by decide +kernel
theorem dL_law_228 : decode cL_law 228 = .ok (.iadd, 1) := by decide +kernel
theorem dL_law_229 : decode cL_law 229 = .ok (.iaload, 1) := by decide +kernel
theorem dL_law_230 : decode cL_law 230 = .ok (.aload_n 0, 1) := by decide +kernel
theorem dL_law_231 : decode cL_law 231 = .ok (.iload_n 3, 1) := by decide +kernel
theorem dL_law_232 : decode cL_law 232 = .ok (.iconst 2, 1) := by decide +kernel
theorem dL_law_233 : decode cL_law 233 = .ok (.iadd, 1) := by decide +kernel
theorem dL_law_234 : decode cL_law 234 = .ok (.iaload, 1) := by decide +kernel
theorem dL_law_235 : decode cL_law 235 = .ok (.aload_n 0, 1) := by decide +kernel
theorem dL_law_236 : decode cL_law 236 = .ok (.iload_n 3, 1) := by decide +kernel
theorem dL_law_237 : decode cL_law 237 = .ok (.iconst 3, 1) := by decide +kernel
theorem dL_law_238 : decode cL_law 238 = .ok (.iadd, 1) := by decide +kernel
theorem dL_law_239 : decode cL_law 239 = .ok (.iaload, 1) := by decide +kernel
theorem dL_law_240 : decode cL_law 240 = .ok (.aload_n 0, 1) := by decide +kernel
theorem dL_law_241 : decode cL_law 241 = .ok (.iload_n 3, 1) := by decide +kernel
theorem dL_law_242 : decode cL_law 242 = .ok (.iconst 4, 1) := by decide +kernel
theorem dL_law_243 : decode cL_law 243 = .ok (.iadd, 1) := by decide +kernel
theorem dL_law_244 : decode cL_law 244 = .ok (.iaload, 1) := by decide +kernel
theorem dL_law_245 : decode cL_law 245 = .ok (.invokevirtual 23, 3) := by decide +kernel
theorem dL_law_248 : decode cL_law 248 = .ok (.aload_n 2, 1) := by decide +kernel
theorem dL_law_249 : decode cL_law 249 = .ok (.aload_n 0, 1) := by decide +kernel
theorem dL_law_250 : decode cL_law 250 = .ok (.iload_n 3, 1) := by decide +kernel
theorem dL_law_251 : decode cL_law 251 = .ok (.iconst 1, 1) := by decide +kernel
theorem dL_law_252 : decode cL_law 252 = .ok (.iadd, 1) := by decide +kernel
theorem dL_law_253 : decode cL_law 253 = .ok (.iaload, 1) := by decide +kernel
theorem dL_law_254 : decode cL_law 254 = .ok (.aload_n 0, 1) := by decide +kernel
theorem dL_law_255 : decode cL_law 255 = .ok (.iload_n 3, 1) := by decide +kernel
theorem dL_law_256 : decode cL_law 256 = .ok (.iconst 2, 1) := by decide +kernel
theorem dL_law_257 : decode cL_law 257 = .ok (.iadd, 1) := by decide +kernel
theorem dL_law_258 : decode cL_law 258 = .ok (.iaload, 1) := by decide +kernel
theorem dL_law_259 : decode cL_law 259 = .ok (.aload_n 0, 1) := by decide +kernel
theorem dL_law_260 : decode cL_law 260 = .ok (.iload_n 3, 1) := by decide +kernel
theorem dL_law_261 : decode cL_law 261 = .ok (.iconst 3, 1) := by decide +kernel
theorem dL_law_262 : decode cL_law 262 = .ok (.iadd, 1) := by decide +kernel
theorem dL_law_263 : decode cL_law 263 = .ok (.iaload, 1) := by decide +kernel
theorem dL_law_264 : decode cL_law 264 = .ok (.aload_n 0, 1) := by decide +kernel
theorem dL_law_265 : decode cL_law 265 = .ok (.iload_n 3, 1) := by decide +kernel
theorem dL_law_266 : decode cL_law 266 = .ok (.iconst 4, 1) := by decide +kernel
theorem dL_law_267 : decode cL_law 267 = .ok (.iadd, 1) := by decide +kernel
theorem dL_law_268 : decode cL_law 268 = .ok (.iaload, 1) := by decide +kernel
theorem dL_law_269 : decode cL_law 269 = .ok (.invokevirtual 26, 3) := by decide +kernel
theorem dL_law_272 : decode cL_law 272 = .ok (.if_icmp .eq 446, 3) := by decide +kernel
theorem dL_law_275 : decode cL_law 275 = .ok (.iconst 0, 1) := by decide +kernel
theorem dL_law_276 : decode cL_law 276 = .ok (.ireturn, 1) := by decide +kernel
theorem dL_law_277 : decode cL_law 277 = .ok (.aload_n 1, 1) := by decide +kernel
theorem dL_law_278 : decode cL_law 278 = .ok (.aload_n 0, 1) := by decide +kernel
theorem dL_law_279 : decode cL_law 279 = .ok (.iload_n 3, 1) := by decide +kernel
theorem dL_law_280 : decode cL_law 280 = .ok (.iconst 1, 1) := by decide +kernel
theorem dL_law_281 : decode cL_law 281 = .ok (.iadd, 1) := by decide +kernel
theorem dL_law_282 : decode cL_law 282 = .ok (.iaload, 1) := by decide +kernel
theorem dL_law_283 : decode cL_law 283 = .ok (.aload_n 0, 1) := by decide +kernel
theorem dL_law_284 : decode cL_law 284 = .ok (.iload_n 3, 1) := by decide +kernel
theorem dL_law_285 : decode cL_law 285 = .ok (.iconst 2, 1) := by decide +kernel
theorem dL_law_286 : decode cL_law 286 = .ok (.iadd, 1) := by decide +kernel
theorem dL_law_287 : decode cL_law 287 = .ok (.iaload, 1) := by decide +kernel
theorem dL_law_288 : decode cL_law 288 = .ok (.invokevirtual 27, 3) := by decide +kernel
theorem dL_law_291 : decode cL_law 291 = .ok (.aload_n 2, 1) := by decide +kernel
theorem dL_law_292 : decode cL_law 292 = .ok (.aload_n 0, 1) := by decide +kernel
theorem dL_law_293 : decode cL_law 293 = .ok (.iload_n 3, 1) := by decide +kernel
theorem dL_law_294 : decode cL_law 294 = .ok (.iconst 1, 1) := by decide +kernel
theorem dL_law_295 : decode cL_law 295 = .ok (.iadd, 1) := by decide +kernel
theorem dL_law_296 : decode cL_law 296 = .ok (.iaload, 1) := by decide +kernel
theorem dL_law_297 : decode cL_law 297 = .ok (.aload_n 0, 1) := by decide +kernel
theorem dL_law_298 : decode cL_law 298 = .ok (.iload_n 3, 1) := by decide +kernel
theorem dL_law_299 : decode cL_law 299 = .ok (.iconst 2, 1) := by decide +kernel
theorem dL_law_300 : decode cL_law 300 = .ok (.iadd, 1) := by decide +kernel
theorem dL_law_301 : decode cL_law 301 = .ok (.iaload, 1) := by decide +kernel
theorem dL_law_302 : decode cL_law 302 = .ok (.invokevirtual 31, 3) := by decide +kernel
theorem dL_law_305 : decode cL_law 305 = .ok (.if_icmp .eq 413, 3) := by decide +kernel
theorem dL_law_308 : decode cL_law 308 = .ok (.iconst 0, 1) := by decide +kernel
theorem dL_law_309 : decode cL_law 309 = .ok (.ireturn, 1) := by decide +kernel
theorem dL_law_310 : decode cL_law 310 = .ok (.aload_n 1, 1) := by decide +kernel
theorem dL_law_311 : decode cL_law 311 = .ok (.aload_n 0, 1) := by decide +kernel
theorem dL_law_312 : decode cL_law 312 = .ok (.iload_n 3, 1) := by decide +kernel
theorem dL_law_313 : decode cL_law 313 = .ok (.iconst 1, 1) := by decide +kernel
theorem dL_law_314 : decode cL_law 314 = .ok (.iadd, 1) := by decide +kernel
theorem dL_law_315 : decode cL_law 315 = .ok (.iaload, 1) := by decide +kernel
theorem dL_law_316 : decode cL_law 316 = .ok (.aload_n 0, 1) := by decide +kernel
theorem dL_law_317 : decode cL_law 317 = .ok (.iload_n 3, 1) := by decide +kernel
theorem dL_law_318 : decode cL_law 318 = .ok (.iconst 2, 1) := by decide +kernel
theorem dL_law_319 : decode cL_law 319 = .ok (.iadd, 1) := by decide +kernel
theorem dL_law_320 : decode cL_law 320 = .ok (.iaload, 1) := by decide +kernel
theorem dL_law_321 : decode cL_law 321 = .ok (.invokevirtual 32, 3) := by decide +kernel
theorem dL_law_324 : decode cL_law 324 = .ok (.aload_n 2, 1) := by decide +kernel
theorem dL_law_325 : decode cL_law 325 = .ok (.aload_n 0, 1) := by decide +kernel
theorem dL_law_326 : decode cL_law 326 = .ok (.iload_n 3, 1) := by decide +kernel
theorem dL_law_327 : decode cL_law 327 = .ok (.iconst 1, 1) := by decide +kernel
theorem dL_law_328 : decode cL_law 328 = .ok (.iadd, 1) := by decide +kernel
theorem dL_law_329 : decode cL_law 329 = .ok (.iaload, 1) := by decide +kernel
theorem dL_law_330 : decode cL_law 330 = .ok (.aload_n 0, 1) := by decide +kernel
theorem dL_law_331 : decode cL_law 331 = .ok (.iload_n 3, 1) := by decide +kernel
theorem dL_law_332 : decode cL_law 332 = .ok (.iconst 2, 1) := by decide +kernel
theorem dL_law_333 : decode cL_law 333 = .ok (.iadd, 1) := by decide +kernel
theorem dL_law_334 : decode cL_law 334 = .ok (.iaload, 1) := by decide +kernel
theorem dL_law_335 : decode cL_law 335 = .ok (.invokevirtual 35, 3) := by decide +kernel
theorem dL_law_338 : decode cL_law 338 = .ok (.if_icmp .eq 380, 3) := by decide +kernel
theorem dL_law_341 : decode cL_law 341 = .ok (.iconst 0, 1) := by decide +kernel
theorem dL_law_342 : decode cL_law 342 = .ok (.ireturn, 1) := by decide +kernel
theorem dL_law_343 : decode cL_law 343 = .ok (.aload_n 1, 1) := by decide +kernel
theorem dL_law_344 : decode cL_law 344 = .ok (.aload_n 0, 1) := by decide +kernel
theorem dL_law_345 : decode cL_law 345 = .ok (.iload_n 3, 1) := by decide +kernel
theorem dL_law_346 : decode cL_law 346 = .ok (.iconst 1, 1) := by decide +kernel
theorem dL_law_347 : decode cL_law 347 = .ok (.iadd, 1) := by decide +kernel
theorem dL_law_348 : decode cL_law 348 = .ok (.iaload, 1) := by decide +kernel
theorem dL_law_349 : decode cL_law 349 = .ok (.aload_n 0, 1) := by decide +kernel
theorem dL_law_350 : decode cL_law 350 = .ok (.iload_n 3, 1) := by decide +kernel
theorem dL_law_351 : decode cL_law 351 = .ok (.iconst 2, 1) := by decide +kernel
theorem dL_law_352 : decode cL_law 352 = .ok (.iadd, 1) := by decide +kernel
theorem dL_law_353 : decode cL_law 353 = .ok (.iaload, 1) := by decide +kernel
theorem dL_law_354 : decode cL_law 354 = .ok (.invokevirtual 36, 3) := by decide +kernel
theorem dL_law_357 : decode cL_law 357 = .ok (.aload_n 2, 1) := by decide +kernel
theorem dL_law_358 : decode cL_law 358 = .ok (.aload_n 0, 1) := by decide +kernel
theorem dL_law_359 : decode cL_law 359 = .ok (.iload_n 3, 1) := by decide +kernel
theorem dL_law_360 : decode cL_law 360 = .ok (.iconst 1, 1) := by decide +kernel
theorem dL_law_361 : decode cL_law 361 = .ok (.iadd, 1) := by decide +kernel
theorem dL_law_362 : decode cL_law 362 = .ok (.iaload, 1) := by decide +kernel
theorem dL_law_363 : decode cL_law 363 = .ok (.aload_n 0, 1) := by decide +kernel
theorem dL_law_364 : decode cL_law 364 = .ok (.iload_n 3, 1) := by decide +kernel
theorem dL_law_365 : decode cL_law 365 = .ok (.iconst 2, 1) := by decide +kernel
theorem dL_law_366 : decode cL_law 366 = .ok (.iadd, 1) := by decide +kernel
theorem dL_law_367 : decode cL_law 367 = .ok (.iaload, 1) := by decide +kernel
theorem dL_law_368 : decode cL_law 368 = .ok (.invokevirtual 39, 3) := by decide +kernel
theorem dL_law_371 : decode cL_law 371 = .ok (.if_icmp .eq 347, 3) := by decide +kernel
theorem dL_law_374 : decode cL_law 374 = .ok (.iconst 0, 1) := by decide +kernel
theorem dL_law_375 : decode cL_law 375 = .ok (.ireturn, 1) := by decide +kernel
theorem dL_law_376 : decode cL_law 376 = .ok (.aload_n 1, 1) := by decide +kernel
theorem dL_law_377 : decode cL_law 377 = .ok (.aload_n 0, 1) := by decide +kernel
theorem dL_law_378 : decode cL_law 378 = .ok (.iload_n 3, 1) := by decide +kernel
theorem dL_law_379 : decode cL_law 379 = .ok (.iconst 1, 1) := by decide +kernel
theorem dL_law_380 : decode cL_law 380 = .ok (.iadd, 1) := by decide +kernel
theorem dL_law_381 : decode cL_law 381 = .ok (.iaload, 1) := by decide +kernel
theorem dL_law_382 : decode cL_law 382 = .ok (.invokevirtual 40, 3) := by decide +kernel
theorem dL_law_385 : decode cL_law 385 = .ok (.aload_n 2, 1) := by decide +kernel
theorem dL_law_386 : decode cL_law 386 = .ok (.aload_n 0, 1) := by decide +kernel
theorem dL_law_387 : decode cL_law 387 = .ok (.iload_n 3, 1) := by decide +kernel
theorem dL_law_388 : decode cL_law 388 = .ok (.iconst 1, 1) := by decide +kernel
theorem dL_law_389 : decode cL_law 389 = .ok (.iadd, 1) := by decide +kernel
theorem dL_law_390 : decode cL_law 390 = .ok (.iaload, 1) := by decide +kernel
theorem dL_law_391 : decode cL_law 391 = .ok (.invokevirtual 44, 3) := by decide +kernel
theorem dL_law_394 : decode cL_law 394 = .ok (.if_icmp .eq 324, 3) := by decide +kernel
theorem dL_law_397 : decode cL_law 397 = .ok (.iconst 0, 1) := by decide +kernel
theorem dL_law_398 : decode cL_law 398 = .ok (.ireturn, 1) := by decide +kernel
theorem dL_law_399 : decode cL_law 399 = .ok (.aload_n 1, 1) := by decide +kernel
theorem dL_law_400 : decode cL_law 400 = .ok (.aload_n 0, 1) := by decide +kernel
theorem dL_law_401 : decode cL_law 401 = .ok (.iload_n 3, 1) := by decide +kernel
theorem dL_law_402 : decode cL_law 402 = .ok (.iconst 1, 1) := by decide +kernel
theorem dL_law_403 : decode cL_law 403 = .ok (.iadd, 1) := by decide +kernel
theorem dL_law_404 : decode cL_law 404 = .ok (.iaload, 1) := by decide +kernel
theorem dL_law_405 : decode cL_law 405 = .ok (.aload_n 0, 1) := by decide +kernel
theorem dL_law_406 : decode cL_law 406 = .ok (.iload_n 3, 1) := by decide +kernel
theorem dL_law_407 : decode cL_law 407 = .ok (.iconst 2, 1) := by decide +kernel
theorem dL_law_408 : decode cL_law 408 = .ok (.iadd, 1) := by decide +kernel
theorem dL_law_409 : decode cL_law 409 = .ok (.iaload, 1) := by decide +kernel
theorem dL_law_410 : decode cL_law 410 = .ok (.aload_n 0, 1) := by decide +kernel
theorem dL_law_411 : decode cL_law 411 = .ok (.iload_n 3, 1) := by decide +kernel
theorem dL_law_412 : decode cL_law 412 = .ok (.iconst 3, 1) := by decide +kernel
theorem dL_law_413 : decode cL_law 413 = .ok (.iadd, 1) := by decide +kernel
theorem dL_law_414 : decode cL_law 414 = .ok (.iaload, 1) := by decide +kernel
theorem dL_law_415 : decode cL_law 415 = .ok (.invokevirtual 45, 3) := by decide +kernel
theorem dL_law_418 : decode cL_law 418 = .ok (.aload_n 2, 1) := by decide +kernel
theorem dL_law_419 : decode cL_law 419 = .ok (.aload_n 0, 1) := by decide +kernel
theorem dL_law_420 : decode cL_law 420 = .ok (.iload_n 3, 1) := by decide +kernel
theorem dL_law_421 : decode cL_law 421 = .ok (.iconst 1, 1) := by decide +kernel
theorem dL_law_422 : decode cL_law 422 = .ok (.iadd, 1) := by decide +kernel
theorem dL_law_423 : decode cL_law 423 = .ok (.iaload, 1) := by decide +kernel
theorem dL_law_424 : decode cL_law 424 = .ok (.aload_n 0, 1) := by decide +kernel
theorem dL_law_425 : decode cL_law 425 = .ok (.iload_n 3, 1) := by decide +kernel
theorem dL_law_426 : decode cL_law 426 = .ok (.iconst 2, 1) := by decide +kernel
theorem dL_law_427 : decode cL_law 427 = .ok (.iadd, 1) := by decide +kernel
theorem dL_law_428 : decode cL_law 428 = .ok (.iaload, 1) := by decide +kernel
theorem dL_law_429 : decode cL_law 429 = .ok (.aload_n 0, 1) := by decide +kernel
theorem dL_law_430 : decode cL_law 430 = .ok (.iload_n 3, 1) := by decide +kernel
theorem dL_law_431 : decode cL_law 431 = .ok (.iconst 3, 1) := by decide +kernel
theorem dL_law_432 : decode cL_law 432 = .ok (.iadd, 1) := by decide +kernel
theorem dL_law_433 : decode cL_law 433 = .ok (.iaload, 1) := by decide +kernel
theorem dL_law_434 : decode cL_law 434 = .ok (.invokevirtual 48, 3) := by decide +kernel
theorem dL_law_437 : decode cL_law 437 = .ok (.if_icmp .eq 281, 3) := by decide +kernel
theorem dL_law_440 : decode cL_law 440 = .ok (.iconst 0, 1) := by decide +kernel
theorem dL_law_441 : decode cL_law 441 = .ok (.ireturn, 1) := by decide +kernel
theorem dL_law_442 : decode cL_law 442 = .ok (.aload_n 1, 1) := by decide +kernel
theorem dL_law_443 : decode cL_law 443 = .ok (.aload_n 0, 1) := by decide +kernel
theorem dL_law_444 : decode cL_law 444 = .ok (.iload_n 3, 1) := by decide +kernel
theorem dL_law_445 : decode cL_law 445 = .ok (.iconst 1, 1) := by decide +kernel
theorem dL_law_446 : decode cL_law 446 = .ok (.iadd, 1) := by decide +kernel
theorem dL_law_447 : decode cL_law 447 = .ok (.iaload, 1) := by decide +kernel
theorem dL_law_448 : decode cL_law 448 = .ok (.invokevirtual 49, 3) := by decide +kernel
theorem dL_law_451 : decode cL_law 451 = .ok (.aload_n 2, 1) := by decide +kernel
theorem dL_law_452 : decode cL_law 452 = .ok (.aload_n 0, 1) := by decide +kernel
theorem dL_law_453 : decode cL_law 453 = .ok (.iload_n 3, 1) := by decide +kernel
theorem dL_law_454 : decode cL_law 454 = .ok (.iconst 1, 1) := by decide +kernel
theorem dL_law_455 : decode cL_law 455 = .ok (.iadd, 1) := by decide +kernel
theorem dL_law_456 : decode cL_law 456 = .ok (.iaload, 1) := by decide +kernel
theorem dL_law_457 : decode cL_law 457 = .ok (.invokevirtual 52, 3) := by decide +kernel
theorem dL_law_460 : decode cL_law 460 = .ok (.if_icmp .eq 258, 3) := by decide +kernel
theorem dL_law_463 : decode cL_law 463 = .ok (.iconst 0, 1) := by decide +kernel
theorem dL_law_464 : decode cL_law 464 = .ok (.ireturn, 1) := by decide +kernel
theorem dL_law_465 : decode cL_law 465 = .ok (.aload_n 1, 1) := by decide +kernel
theorem dL_law_466 : decode cL_law 466 = .ok (.aload_n 0, 1) := by decide +kernel
theorem dL_law_467 : decode cL_law 467 = .ok (.iload_n 3, 1) := by decide +kernel
theorem dL_law_468 : decode cL_law 468 = .ok (.iconst 1, 1) := by decide +kernel
theorem dL_law_469 : decode cL_law 469 = .ok (.iadd, 1) := by decide +kernel
theorem dL_law_470 : decode cL_law 470 = .ok (.iaload, 1) := by decide +kernel
theorem dL_law_471 : decode cL_law 471 = .ok (.invokevirtual 53, 3) := by decide +kernel
theorem dL_law_474 : decode cL_law 474 = .ok (.aload_n 2, 1) := by decide +kernel
theorem dL_law_475 : decode cL_law 475 = .ok (.aload_n 0, 1) := by decide +kernel
theorem dL_law_476 : decode cL_law 476 = .ok (.iload_n 3, 1) := by decide +kernel
theorem dL_law_477 : decode cL_law 477 = .ok (.iconst 1, 1) := by decide +kernel
theorem dL_law_478 : decode cL_law 478 = .ok (.iadd, 1) := by decide +kernel
theorem dL_law_479 : decode cL_law 479 = .ok (.iaload, 1) := by decide +kernel
theorem dL_law_480 : decode cL_law 480 = .ok (.invokevirtual 56, 3) := by decide +kernel
theorem dL_law_483 : decode cL_law 483 = .ok (.if_icmp .eq 235, 3) := by decide +kernel
theorem dL_law_486 : decode cL_law 486 = .ok (.iconst 0, 1) := by decide +kernel
theorem dL_law_487 : decode cL_law 487 = .ok (.ireturn, 1) := by decide +kernel
theorem dL_law_488 : decode cL_law 488 = .ok (.aload_n 1, 1) := by decide +kernel
theorem dL_law_489 : decode cL_law 489 = .ok (.aload_n 0, 1) := by decide +kernel
theorem dL_law_490 : decode cL_law 490 = .ok (.iload_n 3, 1) := by decide +kernel
theorem dL_law_491 : decode cL_law 491 = .ok (.iconst 1, 1) := by decide +kernel
theorem dL_law_492 : decode cL_law 492 = .ok (.iadd, 1) := by decide +kernel
theorem dL_law_493 : decode cL_law 493 = .ok (.iaload, 1) := by decide +kernel
theorem dL_law_494 : decode cL_law 494 = .ok (.invokevirtual 57, 3) := by decide +kernel
theorem dL_law_497 : decode cL_law 497 = .ok (.aload_n 2, 1) := by decide +kernel
theorem dL_law_498 : decode cL_law 498 = .ok (.aload_n 0, 1) := by decide +kernel
theorem dL_law_499 : decode cL_law 499 = .ok (.iload_n 3, 1) := by decide +kernel
theorem dL_law_500 : decode cL_law 500 = .ok (.iconst 1, 1) := by decide +kernel
theorem dL_law_501 : decode cL_law 501 = .ok (.iadd, 1) := by decide +kernel
theorem dL_law_502 : decode cL_law 502 = .ok (.iaload, 1) := by decide +kernel
theorem dL_law_503 : decode cL_law 503 = .ok (.invokevirtual 60, 3) := by decide +kernel
theorem dL_law_506 : decode cL_law 506 = .ok (.if_icmp .eq 212, 3) := by decide +kernel
theorem dL_law_509 : decode cL_law 509 = .ok (.iconst 0, 1) := by decide +kernel
theorem dL_law_510 : decode cL_law 510 = .ok (.ireturn, 1) := by decide +kernel
theorem dL_law_511 : decode cL_law 511 = .ok (.aload_n 1, 1) := by decide +kernel
theorem dL_law_512 : decode cL_law 512 = .ok (.aload_n 0, 1) := by decide +kernel
theorem dL_law_513 : decode cL_law 513 = .ok (.iload_n 3, 1) := by decide +kernel
theorem dL_law_514 : decode cL_law 514 = .ok (.iconst 1, 1) := by decide +kernel
theorem dL_law_515 : decode cL_law 515 = .ok (.iadd, 1) := by decide +kernel
theorem dL_law_516 : decode cL_law 516 = .ok (.iaload, 1) := by decide +kernel
theorem dL_law_517 : decode cL_law 517 = .ok (.aload_n 0, 1) := by decide +kernel
theorem dL_law_518 : decode cL_law 518 = .ok (.iload_n 3, 1) := by decide +kernel
theorem dL_law_519 : decode cL_law 519 = .ok (.iconst 2, 1) := by decide +kernel
theorem dL_law_520 : decode cL_law 520 = .ok (.iadd, 1) := by decide +kernel
theorem dL_law_521 : decode cL_law 521 = .ok (.iaload, 1) := by decide +kernel
theorem dL_law_522 : decode cL_law 522 = .ok (.invokevirtual 61, 3) := by decide +kernel
theorem dL_law_525 : decode cL_law 525 = .ok (.aload_n 2, 1) := by decide +kernel
theorem dL_law_526 : decode cL_law 526 = .ok (.aload_n 0, 1) := by decide +kernel
theorem dL_law_527 : decode cL_law 527 = .ok (.iload_n 3, 1) := by decide +kernel
theorem dL_law_528 : decode cL_law 528 = .ok (.iconst 1, 1) := by decide +kernel
theorem dL_law_529 : decode cL_law 529 = .ok (.iadd, 1) := by decide +kernel
theorem dL_law_530 : decode cL_law 530 = .ok (.iaload, 1) := by decide +kernel
theorem dL_law_531 : decode cL_law 531 = .ok (.aload_n 0, 1) := by decide +kernel
theorem dL_law_532 : decode cL_law 532 = .ok (.iload_n 3, 1) := by decide +kernel
theorem dL_law_533 : decode cL_law 533 = .ok (.iconst 2, 1) := by decide +kernel
theorem dL_law_534 : decode cL_law 534 = .ok (.iadd, 1) := by decide +kernel
theorem dL_law_535 : decode cL_law 535 = .ok (.iaload, 1) := by decide +kernel
theorem dL_law_536 : decode cL_law 536 = .ok (.invokevirtual 64, 3) := by decide +kernel
theorem dL_law_539 : decode cL_law 539 = .ok (.if_icmp .eq 179, 3) := by decide +kernel
theorem dL_law_542 : decode cL_law 542 = .ok (.iconst 0, 1) := by decide +kernel
theorem dL_law_543 : decode cL_law 543 = .ok (.ireturn, 1) := by decide +kernel
theorem dL_law_544 : decode cL_law 544 = .ok (.aload_n 1, 1) := by decide +kernel
theorem dL_law_545 : decode cL_law 545 = .ok (.aload_n 0, 1) := by decide +kernel
theorem dL_law_546 : decode cL_law 546 = .ok (.iload_n 3, 1) := by decide +kernel
theorem dL_law_547 : decode cL_law 547 = .ok (.iconst 1, 1) := by decide +kernel
theorem dL_law_548 : decode cL_law 548 = .ok (.iadd, 1) := by decide +kernel
theorem dL_law_549 : decode cL_law 549 = .ok (.iaload, 1) := by decide +kernel
theorem dL_law_550 : decode cL_law 550 = .ok (.aload_n 0, 1) := by decide +kernel
theorem dL_law_551 : decode cL_law 551 = .ok (.iload_n 3, 1) := by decide +kernel
theorem dL_law_552 : decode cL_law 552 = .ok (.iconst 2, 1) := by decide +kernel
theorem dL_law_553 : decode cL_law 553 = .ok (.iadd, 1) := by decide +kernel
theorem dL_law_554 : decode cL_law 554 = .ok (.iaload, 1) := by decide +kernel
theorem dL_law_555 : decode cL_law 555 = .ok (.invokevirtual 65, 3) := by decide +kernel
theorem dL_law_558 : decode cL_law 558 = .ok (.aload_n 2, 1) := by decide +kernel
theorem dL_law_559 : decode cL_law 559 = .ok (.aload_n 0, 1) := by decide +kernel
theorem dL_law_560 : decode cL_law 560 = .ok (.iload_n 3, 1) := by decide +kernel
theorem dL_law_561 : decode cL_law 561 = .ok (.iconst 1, 1) := by decide +kernel
theorem dL_law_562 : decode cL_law 562 = .ok (.iadd, 1) := by decide +kernel
theorem dL_law_563 : decode cL_law 563 = .ok (.iaload, 1) := by decide +kernel
theorem dL_law_564 : decode cL_law 564 = .ok (.aload_n 0, 1) := by decide +kernel
theorem dL_law_565 : decode cL_law 565 = .ok (.iload_n 3, 1) := by decide +kernel
theorem dL_law_566 : decode cL_law 566 = .ok (.iconst 2, 1) := by decide +kernel
theorem dL_law_567 : decode cL_law 567 = .ok (.iadd, 1) := by decide +kernel
theorem dL_law_568 : decode cL_law 568 = .ok (.iaload, 1) := by decide +kernel
theorem dL_law_569 : decode cL_law 569 = .ok (.invokevirtual 68, 3) := by decide +kernel
theorem dL_law_572 : decode cL_law 572 = .ok (.if_icmp .eq 146, 3) := by decide +kernel
theorem dL_law_575 : decode cL_law 575 = .ok (.iconst 0, 1) := by decide +kernel
theorem dL_law_576 : decode cL_law 576 = .ok (.ireturn, 1) := by decide +kernel
theorem dL_law_577 : decode cL_law 577 = .ok (.aload_n 1, 1) := by decide +kernel
theorem dL_law_578 : decode cL_law 578 = .ok (.aload_n 0, 1) := by decide +kernel
theorem dL_law_579 : decode cL_law 579 = .ok (.iload_n 3, 1) := by decide +kernel
theorem dL_law_580 : decode cL_law 580 = .ok (.iconst 1, 1) := by decide +kernel
theorem dL_law_581 : decode cL_law 581 = .ok (.iadd, 1) := by decide +kernel
theorem dL_law_582 : decode cL_law 582 = .ok (.iaload, 1) := by decide +kernel
theorem dL_law_583 : decode cL_law 583 = .ok (.aload_n 0, 1) := by decide +kernel
theorem dL_law_584 : decode cL_law 584 = .ok (.iload_n 3, 1) := by decide +kernel
theorem dL_law_585 : decode cL_law 585 = .ok (.iconst 2, 1) := by decide +kernel
theorem dL_law_586 : decode cL_law 586 = .ok (.iadd, 1) := by decide +kernel
theorem dL_law_587 : decode cL_law 587 = .ok (.iaload, 1) := by decide +kernel
theorem dL_law_588 : decode cL_law 588 = .ok (.aload_n 0, 1) := by decide +kernel
theorem dL_law_589 : decode cL_law 589 = .ok (.iload_n 3, 1) := by decide +kernel
theorem dL_law_590 : decode cL_law 590 = .ok (.iconst 3, 1) := by decide +kernel
theorem dL_law_591 : decode cL_law 591 = .ok (.iadd, 1) := by decide +kernel
theorem dL_law_592 : decode cL_law 592 = .ok (.iaload, 1) := by decide +kernel
theorem dL_law_593 : decode cL_law 593 = .ok (.invokevirtual 69, 3) := by decide +kernel
theorem dL_law_596 : decode cL_law 596 = .ok (.aload_n 2, 1) := by decide +kernel
theorem dL_law_597 : decode cL_law 597 = .ok (.aload_n 0, 1) := by decide +kernel
theorem dL_law_598 : decode cL_law 598 = .ok (.iload_n 3, 1) := by decide +kernel
theorem dL_law_599 : decode cL_law 599 = .ok (.iconst 1, 1) := by decide +kernel
theorem dL_law_600 : decode cL_law 600 = .ok (.iadd, 1) := by decide +kernel
theorem dL_law_601 : decode cL_law 601 = .ok (.iaload, 1) := by decide +kernel
theorem dL_law_602 : decode cL_law 602 = .ok (.aload_n 0, 1) := by decide +kernel
theorem dL_law_603 : decode cL_law 603 = .ok (.iload_n 3, 1) := by decide +kernel
theorem dL_law_604 : decode cL_law 604 = .ok (.iconst 2, 1) := by decide +kernel
theorem dL_law_605 : decode cL_law 605 = .ok (.iadd, 1) := by decide +kernel
theorem dL_law_606 : decode cL_law 606 = .ok (.iaload, 1) := by decide +kernel
theorem dL_law_607 : decode cL_law 607 = .ok (.aload_n 0, 1) := by decide +kernel
theorem dL_law_608 : decode cL_law 608 = .ok (.iload_n 3, 1) := by decide +kernel
theorem dL_law_609 : decode cL_law 609 = .ok (.iconst 3, 1) := by decide +kernel
theorem dL_law_610 : decode cL_law 610 = .ok (.iadd, 1) := by decide +kernel
theorem dL_law_611 : decode cL_law 611 = .ok (.iaload, 1) := by decide +kernel
theorem dL_law_612 : decode cL_law 612 = .ok (.invokevirtual 72, 3) := by decide +kernel
theorem dL_law_615 : decode cL_law 615 = .ok (.if_icmp .eq 103, 3) := by decide +kernel
theorem dL_law_618 : decode cL_law 618 = .ok (.iconst 0, 1) := by decide +kernel
theorem dL_law_619 : decode cL_law 619 = .ok (.ireturn, 1) := by decide +kernel
theorem dL_law_620 : decode cL_law 620 = .ok (.aload_n 1, 1) := by decide +kernel
theorem dL_law_621 : decode cL_law 621 = .ok (.aload_n 0, 1) := by decide +kernel
theorem dL_law_622 : decode cL_law 622 = .ok (.iload_n 3, 1) := by decide +kernel
theorem dL_law_623 : decode cL_law 623 = .ok (.iconst 1, 1) := by decide +kernel
theorem dL_law_624 : decode cL_law 624 = .ok (.iadd, 1) := by decide +kernel
theorem dL_law_625 : decode cL_law 625 = .ok (.iaload, 1) := by decide +kernel
theorem dL_law_626 : decode cL_law 626 = .ok (.invokevirtual 73, 3) := by decide +kernel
theorem dL_law_629 : decode cL_law 629 = .ok (.aload_n 2, 1) := by decide +kernel
theorem dL_law_630 : decode cL_law 630 = .ok (.aload_n 0, 1) := by decide +kernel
theorem dL_law_631 : decode cL_law 631 = .ok (.iload_n 3, 1) := by decide +kernel
theorem dL_law_632 : decode cL_law 632 = .ok (.iconst 1, 1) := by decide +kernel
theorem dL_law_633 : decode cL_law 633 = .ok (.iadd, 1) := by decide +kernel
theorem dL_law_634 : decode cL_law 634 = .ok (.iaload, 1) := by decide +kernel
theorem dL_law_635 : decode cL_law 635 = .ok (.invokevirtual 76, 3) := by decide +kernel
theorem dL_law_638 : decode cL_law 638 = .ok (.if_icmp .eq 80, 3) := by decide +kernel
theorem dL_law_641 : decode cL_law 641 = .ok (.iconst 0, 1) := by decide +kernel
theorem dL_law_642 : decode cL_law 642 = .ok (.ireturn, 1) := by decide +kernel
theorem dL_law_643 : decode cL_law 643 = .ok (.aload_n 1, 1) := by decide +kernel
theorem dL_law_644 : decode cL_law 644 = .ok (.aload_n 0, 1) := by decide +kernel
theorem dL_law_645 : decode cL_law 645 = .ok (.iload_n 3, 1) := by decide +kernel
theorem dL_law_646 : decode cL_law 646 = .ok (.iconst 1, 1) := by decide +kernel
theorem dL_law_647 : decode cL_law 647 = .ok (.iadd, 1) := by decide +kernel
theorem dL_law_648 : decode cL_law 648 = .ok (.iaload, 1) := by decide +kernel
theorem dL_law_649 : decode cL_law 649 = .ok (.invokevirtual 77, 3) := by decide +kernel
theorem dL_law_652 : decode cL_law 652 = .ok (.aload_n 2, 1) := by decide +kernel
theorem dL_law_653 : decode cL_law 653 = .ok (.aload_n 0, 1) := by decide +kernel
theorem dL_law_654 : decode cL_law 654 = .ok (.iload_n 3, 1) := by decide +kernel
theorem dL_law_655 : decode cL_law 655 = .ok (.iconst 1, 1) := by decide +kernel
theorem dL_law_656 : decode cL_law 656 = .ok (.iadd, 1) := by decide +kernel
theorem dL_law_657 : decode cL_law 657 = .ok (.iaload, 1) := by decide +kernel
theorem dL_law_658 : decode cL_law 658 = .ok (.invokevirtual 80, 3) := by decide +kernel
theorem dL_law_661 : decode cL_law 661 = .ok (.if_icmp .eq 57, 3) := by decide +kernel
theorem dL_law_664 : decode cL_law 664 = .ok (.iconst 0, 1) := by decide +kernel
theorem dL_law_665 : decode cL_law 665 = .ok (.ireturn, 1) := by decide +kernel
theorem dL_law_666 : decode cL_law 666 = .ok (.aload_n 1, 1) := by decide +kernel
theorem dL_law_667 : decode cL_law 667 = .ok (.invokevirtual 81, 3) := by decide +kernel
theorem dL_law_670 : decode cL_law 670 = .ok (.aload_n 2, 1) := by decide +kernel
theorem dL_law_671 : decode cL_law 671 = .ok (.invokevirtual 85, 3) := by decide +kernel
theorem dL_law_674 : decode cL_law 674 = .ok (.if_icmp .eq 44, 3) := by decide +kernel
theorem dL_law_677 : decode cL_law 677 = .ok (.iconst 0, 1) := by decide +kernel
theorem dL_law_678 : decode cL_law 678 = .ok (.ireturn, 1) := by decide +kernel
theorem dL_law_679 : decode cL_law 679 = .ok (.aload_n 1, 1) := by decide +kernel
theorem dL_law_680 : decode cL_law 680 = .ok (.invokevirtual 86, 3) := by decide +kernel
theorem dL_law_683 : decode cL_law 683 = .ok (.aload_n 2, 1) := by decide +kernel
theorem dL_law_684 : decode cL_law 684 = .ok (.invokevirtual 89, 3) := by decide +kernel
theorem dL_law_687 : decode cL_law 687 = .ok (.if_icmp .eq 31, 3) := by decide +kernel
theorem dL_law_690 : decode cL_law 690 = .ok (.iconst 0, 1) := by decide +kernel
theorem dL_law_691 : decode cL_law 691 = .ok (.ireturn, 1) := by decide +kernel
theorem dL_law_692 : decode cL_law 692 = .ok (.aload_n 1, 1) := by decide +kernel
theorem dL_law_693 : decode cL_law 693 = .ok (.invokevirtual 90, 3) := by decide +kernel
theorem dL_law_696 : decode cL_law 696 = .ok (.aload_n 2, 1) := by decide +kernel
theorem dL_law_697 : decode cL_law 697 = .ok (.invokevirtual 93, 3) := by decide +kernel
theorem dL_law_700 : decode cL_law 700 = .ok (.if_icmp .eq 18, 3) := by decide +kernel
theorem dL_law_703 : decode cL_law 703 = .ok (.iconst 0, 1) := by decide +kernel
theorem dL_law_704 : decode cL_law 704 = .ok (.ireturn, 1) := by decide +kernel
theorem dL_law_705 : decode cL_law 705 = .ok (.aload_n 1, 1) := by decide +kernel
theorem dL_law_706 : decode cL_law 706 = .ok (.invokevirtual 94, 3) := by decide +kernel
theorem dL_law_709 : decode cL_law 709 = .ok (.aload_n 2, 1) := by decide +kernel
theorem dL_law_710 : decode cL_law 710 = .ok (.invokevirtual 97, 3) := by decide +kernel
theorem dL_law_713 : decode cL_law 713 = .ok (.if_icmp .eq 5, 3) := by decide +kernel
theorem dL_law_716 : decode cL_law 716 = .ok (.iconst 0, 1) := by decide +kernel
theorem dL_law_717 : decode cL_law 717 = .ok (.ireturn, 1) := by decide +kernel
theorem dL_law_718 : decode cL_law 718 = .ok (.iinc 3 5, 3) := by decide +kernel
theorem dL_law_721 : decode cL_law 721 = .ok (.goto (-703), 3) := by decide +kernel
theorem dL_law_724 : decode cL_law 724 = .ok (.iconst 1, 1) := by decide +kernel
theorem dL_law_725 : decode cL_law 725 = .ok (.ireturn, 1) := by decide +kernel
end
section
/-! memory by object numbers: kind k, number n, slot t; the world is the list of all cells, each at the address that 'ad' gives it -/
abbrev mM : Type := Nat → Nat → Nat → Int32
abbrev mC : Type := Nat → Nat → (Nat → Int32) → va_E
def mw (ad : Nat → Nat → Nat) (ce : mC) (V : mM) (os : List (Nat × Nat)) : va_W := os.map fun o => (ad o.1 o.2, ce o.1 o.2 (V o.1 o.2))
def mv (V : mM) (k n : Nat) (v : Nat → Int32) : mM := fun k' n' => if k' = k ∧ n' = n then v else V k' n'
def mu (V : mM) (k n t : Nat) (x : Int32) : mM := mv V k n (upd (V k n) t x)
def mP (D : va_G) (cl : List vw_C) (A : Nat → Prop) (ad : Nat → Nat → Nat) (ce : mC) (ex : Nat → Nat → Prop) (V : mM) (H : Heap) : Prop :=
  ∃ os : List (Nat × Nat), os.Nodup ∧ (∀ k n : Nat, ex k n ↔ (k, n) ∈ os) ∧ va_P D cl (mw ad ce V os) H ∧ va_D A (mw ad ce V os)
theorem mw_get {ad : Nat → Nat → Nat} {ce : mC} {V : mM} {os : List (Nat × Nat)} {k n : Nat} (h : (k, n) ∈ os) : ∃ q : Nat, os[q]? = some (k, n) ∧ (mw ad ce V os)[q]? = some (ad k n, ce k n (V k n)) := by
  obtain ⟨q, hq⟩ := List.getElem?_of_mem h
  exact ⟨q, hq, by simp [mw, hq]⟩
theorem mw_set {ad : Nat → Nat → Nat} {ce : mC} {V : mM} {os : List (Nat × Nat)} {k n q : Nat} (hn : os.Nodup) (hq : os[q]? = some (k, n)) (v : Nat → Int32) : (mw ad ce V os).set q (ad k n, ce k n v) = mw ad ce (mv V k n v) os := by
  apply List.ext_getElem?
  intro i
  by_cases hi : i = q
  · subst hi
    have hl : i < (mw ad ce V os).length := by
      simp only [mw, List.length_map]
      exact (List.getElem?_eq_some_iff.mp hq).1
    rw [List.getElem?_set_self hl]
    simp [mw, hq, mv]
  · rw [List.getElem?_set_ne (Ne.symm hi)]
    simp only [mw, List.getElem?_map]
    cases ho : os[i]? with
    | none => rfl
    | some o =>
      obtain ⟨k', n'⟩ := o
      have hne : ¬ (k' = k ∧ n' = n) := by
        rintro ⟨rfl, rfl⟩
        exact hi ((List.getElem?_inj (List.getElem?_eq_some_iff.mp ho).1 hn).mp (ho.trans hq.symm))
      simp [mv, hne]
theorem mP_ad {D : va_G} {cl : List vw_C} {A : Nat → Prop} {ad : Nat → Nat → Nat} {ce : mC} {ex : Nat → Nat → Prop} {V : mM} {H : Heap} (hM : mP D cl A ad ce ex V H) {k n : Nat} (hx : ex k n) : A (ad k n) ∧ va_at D cl (ad k n, ce k n (V k n)) H := by
  obtain ⟨os, hn, ho, hP, hD⟩ := hM
  obtain ⟨q, hq, hw⟩ := mw_get (ad := ad) (ce := ce) (V := V) ((ho k n).mp hx)
  exact ⟨hD.2 q _ hw, hP q _ hw⟩
/-- what a later heap keeps -/
theorem mP_kept {D : va_G} {cl : List vw_C} {A : Nat → Prop} {ad : Nat → Nat → Nat} {ce : mC} {ex : Nat → Nat → Prop} {V : mM} {H H1 : Heap} (hM : mP D cl A ad ce ex V H) (hq : ∀ q : Nat, q < H.size → A q → H1[q]? = H[q]?) : mP D cl A ad ce ex V H1 := by
  obtain ⟨os, hn, ho, hP, hD⟩ := hM
  exact ⟨os, hn, ho, hP.kept (fun k q hk => hq q.1 ((hP k q hk).lt) (hD.2 k q hk)), hD⟩
theorem mP_recv {D : va_G} {cl : List vw_C} {A : Nat → Prop} {ad : Nat → Nat → Nat} {ce : mC} {ex : Nat → Nat → Prop} {V : mM} {H : Heap} {s : State} {tys : List (ClassId × FieldType)} (hK : va_K D cl tys s) (hM : mP D cl A ad ce ex V H) {k n : Nat} (hx : ex k n) {ci : Nat} {fs : List Value} (he : ce k n (V k n) = .inr (ci, fs)) {q : vw_C} (hc : cl[ci]? = some q) : ∃ cell : Cell, H[ad k n]? = some cell ∧ cell.vm.isStatics = false ∧ s.vm.findClass q.1 = some cell.cls := by
  obtain ⟨os, hn, ho, hP, hD⟩ := hM
  obtain ⟨q0, hq, hw⟩ := mw_get (ad := ad) (ce := ce) (V := V) ((ho k n).mp hx)
  rw [he] at hw
  exact va_recv hK hP hc hw
section MM
variable {p : Program} {l : Launch} {e : Env} {R : Room} {s : State} {m : MethodId} {args : Array Value} {below : List Frame} {meth : Method} {c : Code} {H : Heap} {locs : List Loc} {cells slots : Nat} {Q : State → Prop}
variable {cc : ByteArray} {pc : Nat} {ls : Array Slot} {rest : List Value} {D : va_G} {cl : List vw_C} {A : Nat → Prop} {tys : List (ClassId × FieldType)} {H0 : Heap} {ad : Nat → Nat → Nat} {ce : mC} {ex : Nat → Nat → Prop} {V : mM}
theorem mm_get (hexec : p.tables.exec = Jvm.exec) (hb : c.code = cc) {own ref C : String} {T : u_T} {N ci index : Nat} {Ts : List Cond} (hts : ∀ w ∈ Ts, w.before args s = true) (hin : ∀ w ∈ u_ws C T N, w ∈ Ts) (hown : s.vm.findClass own = some m.cls) (hK : va_K D cl tys s) (hM : mP D cl A ad ce ex V H) (k n : Nat) (hx : ex k n) {fs : List Value} (he : ce k n (V k n) = .inr (ci, fs)) (hc : cl[ci]? = some (C, T, N)) (t : Nat) (ht : t < N) (hlink : (Cond.fieldLink own index ref (T t).2.1 (T t).2.2.1).before args s = true) (hsame : ∀ x, s.fieldFound? (T t).1 (T t).2.1 (T t).2.2.1 = some x → s.fieldFound? ref (T t).2.1 (T t).2.2.1 = some x) {v : Value} (hv : fs[t]? = some v) (hdg : decode cc pc = .ok (.getfield index, 3))
    (kk : W p l e R s m args below meth c H locs cells slots Q (F0 m (pc + 3) ls (v :: rest))) : W p l e R s m args below meth c H locs cells slots Q (F0 m pc ls (.ref (ad k n) :: rest)) := by
  obtain ⟨os, hn, ho, hP, hD⟩ := hM
  obtain ⟨q, hq, hw⟩ := mw_get (ad := ad) (ce := ce) (V := V) ((ho k n).mp hx)
  rw [he] at hw
  exact va_get hexec hb hts hin hown hK hP q hw hc t ht hlink hsame hv hdg kk
theorem mm_put (hexec : p.tables.exec = Jvm.exec) (hb : c.code = cc) {own ref C : String} {T : u_T} {N ci index : Nat} {Ts : List Cond} (hts : ∀ w ∈ Ts, w.before args s = true) (hin : ∀ w ∈ u_ws C T N, w ∈ Ts) (ty0 : Nat → FieldType) (hty : ∀ k, k < N → parseFieldDescriptor (T k).2.2.1 = some (ty0 k)) (hnm : ∀ a, a < N → ∀ b, b < N → a ≠ b → (T a).2.1 ≠ (T b).2.1) (hown : s.vm.findClass own = some m.cls) (hK : va_K D cl tys s) (hM : mP D cl A ad ce ex V H) (hS0 : va_S A H0 H locs) (k n : Nat) (hx : ex k n) {fs : List Value} (he : ce k n (V k n) = .inr (ci, fs)) (hc : cl[ci]? = some (C, T, N)) (t : Nat) (ht : t < N) (hlink : (Cond.fieldLink own index ref (T t).2.1 (T t).2.2.1).before args s = true) (hsame : ∀ x, s.fieldFound? (T t).1 (T t).2.1 (T t).2.2.1 = some x → s.fieldFound? ref (T t).2.1 (T t).2.2.1 = some x) (hfin : (T t).2.2.2 = false) {ty : FieldType} {v : Value} (hd : parseFieldDescriptor (T t).2.2.1 = some ty) (hn : narrow ty v = v) (hfit : fits ty v = true) (hl : t < fs.length) (x : Int32) (he' : ce k n (upd (V k n) t x) = .inr (ci, fs.set t v))
    (hdg : decode cc pc = .ok (.putfield index, 3)) (kk : ∀ (H1 : Heap) (locs1 : List Loc), mP D cl A ad ce ex (mu V k n t x) H1 → va_S A H0 H1 locs1 → W p l e R s m args below meth c H1 locs1 cells slots Q (F0 m (pc + 3) ls rest)) : W p l e R s m args below meth c H locs cells slots Q (F0 m pc ls (v :: .ref (ad k n) :: rest)) := by
  obtain ⟨os, hno, ho, hP, hD⟩ := hM
  obtain ⟨q, hq, hw⟩ := mw_get (ad := ad) (ce := ce) (V := V) ((ho k n).mp hx)
  rw [he] at hw
  refine va_put hexec hb hts hin ty0 hty hnm hown hK hP hD hS0 q hw hc t ht hlink hsame hfin hd hn hfit hl hdg (fun H1 locs1 hP1 hD1 hS1 => ?_)
  rw [← he', mw_set hno hq] at hP1 hD1
  exact kk H1 locs1 ⟨os, hno, ho, hP1, hD1⟩ hS1
theorem mm_iald (hexec : p.tables.exec = Jvm.exec) (hb : c.code = cc) (hK : va_K D cl tys s) (hM : mP D cl A ad ce ex V H) (k n : Nat) (hx : ex k n) (t0 : Nat) {cA : ClassId} {N : Nat} {f : Nat → Int32} (he : ce k n (V k n) = .inl (cA, N, .inl f)) (ht : tys[t0]? = some (cA, .int)) {i : Int32} (hin : vp_in i N) (hdg : decode cc pc = .ok (.iaload, 1))
    (kk : W p l e R s m args below meth c H locs cells slots Q (F0 m (pc + 1) ls (.int (f i.toNatClampNeg) :: rest))) : W p l e R s m args below meth c H locs cells slots Q (F0 m pc ls (.int i :: .ref (ad k n) :: rest)) := by
  obtain ⟨os, hno, ho, hP, hD⟩ := hM
  obtain ⟨q, hq, hw⟩ := mw_get (ad := ad) (ce := ce) (V := V) ((ho k n).mp hx)
  rw [he] at hw
  exact va_iald hexec hb hK hP q t0 hw ht hin hdg kk
theorem mm_zald (hexec : p.tables.exec = Jvm.exec) (hb : c.code = cc) (hK : va_K D cl tys s) (hM : mP D cl A ad ce ex V H) (k n : Nat) (hx : ex k n) (t0 : Nat) {cA : ClassId} {N : Nat} {f : Nat → Int32} (he : ce k n (V k n) = .inl (cA, N, .inl f)) (ht : tys[t0]? = some (cA, .boolean)) {i : Int32} (hin : vp_in i N) (hdg : decode cc pc = .ok (.baload, 1))
    (kk : W p l e R s m args below meth c H locs cells slots Q (F0 m (pc + 1) ls (.int (f i.toNatClampNeg) :: rest))) : W p l e R s m args below meth c H locs cells slots Q (F0 m pc ls (.int i :: .ref (ad k n) :: rest)) := by
  obtain ⟨os, hno, ho, hP, hD⟩ := hM
  obtain ⟨q, hq, hw⟩ := mw_get (ad := ad) (ce := ce) (V := V) ((ho k n).mp hx)
  rw [he] at hw
  exact va_zald hexec hb hK hP q t0 hw ht hin hdg kk
theorem mm_aald (hexec : p.tables.exec = Jvm.exec) (hb : c.code = cc) (hK : va_K D cl tys s) (hM : mP D cl A ad ce ex V H) (k n : Nat) (hx : ex k n) (t0 : Nat) {cA : ClassId} {C : String} {N : Nat} {f : Nat → Option Nat} (he : ce k n (V k n) = .inl (cA, N, .inr (.inr (.inr (.inr f))))) (ht : tys[t0]? = some (cA, .object C)) {i : Int32} (hin : vp_in i N) (hdg : decode cc pc = .ok (.aaload, 1))
    (kk : W p l e R s m args below meth c H locs cells slots Q (F0 m (pc + 1) ls (va_rf (f i.toNatClampNeg) :: rest))) : W p l e R s m args below meth c H locs cells slots Q (F0 m pc ls (.int i :: .ref (ad k n) :: rest)) := by
  obtain ⟨os, hno, ho, hP, hD⟩ := hM
  obtain ⟨q, hq, hw⟩ := mw_get (ad := ad) (ce := ce) (V := V) ((ho k n).mp hx)
  rw [he] at hw
  exact va_aldq hexec hb hK hP q t0 hw ht hin hdg kk
theorem mm_iast (hexec : p.tables.exec = Jvm.exec) (hb : c.code = cc) (hK : va_K D cl tys s) (hM : mP D cl A ad ce ex V H) (hS : va_S A H0 H locs) (k n : Nat) (hx : ex k n) (t0 : Nat) {cA : ClassId} {N : Nat} {f : Nat → Int32} (he : ce k n (V k n) = .inl (cA, N, .inl f)) (ht : tys[t0]? = some (cA, .int)) {i x : Int32} (hin : vp_in i N) (he' : ce k n (upd (V k n) i.toNatClampNeg x) = .inl (cA, N, .inl (upd f i.toNatClampNeg x))) (hdg : decode cc pc = .ok (.iastore, 1))
    (kk : ∀ (H1 : Heap) (locs1 : List Loc), mP D cl A ad ce ex (mu V k n i.toNatClampNeg x) H1 → va_S A H0 H1 locs1 → W p l e R s m args below meth c H1 locs1 cells slots Q (F0 m (pc + 1) ls rest)) : W p l e R s m args below meth c H locs cells slots Q (F0 m pc ls (.int x :: .int i :: .ref (ad k n) :: rest)) := by
  obtain ⟨os, hno, ho, hP, hD⟩ := hM
  obtain ⟨q, hq, hw⟩ := mw_get (ad := ad) (ce := ce) (V := V) ((ho k n).mp hx)
  rw [he] at hw
  refine va_iast hexec hb hK hP hD hS q t0 hw ht hin hdg (fun H1 locs1 hP1 hD1 hS1 => ?_)
  rw [← he', mw_set hno hq] at hP1 hD1
  exact kk H1 locs1 ⟨os, hno, ho, hP1, hD1⟩ hS1
theorem mm_zast (hexec : p.tables.exec = Jvm.exec) (hb : c.code = cc) (hK : va_K D cl tys s) (hM : mP D cl A ad ce ex V H) (hS : va_S A H0 H locs) (k n : Nat) (hx : ex k n) (t0 : Nat) {cA : ClassId} {N : Nat} {f : Nat → Int32} (he : ce k n (V k n) = .inl (cA, N, .inl f)) (ht : tys[t0]? = some (cA, .boolean)) {i x y : Int32} (hy : vp_nar .boolean x = y) (hin : vp_in i N) (he' : ce k n (upd (V k n) i.toNatClampNeg y) = .inl (cA, N, .inl (upd f i.toNatClampNeg y))) (hdg : decode cc pc = .ok (.bastore, 1))
    (kk : ∀ (H1 : Heap) (locs1 : List Loc), mP D cl A ad ce ex (mu V k n i.toNatClampNeg y) H1 → va_S A H0 H1 locs1 → W p l e R s m args below meth c H1 locs1 cells slots Q (F0 m (pc + 1) ls rest)) : W p l e R s m args below meth c H locs cells slots Q (F0 m pc ls (.int x :: .int i :: .ref (ad k n) :: rest)) := by
  subst hy
  obtain ⟨os, hno, ho, hP, hD⟩ := hM
  obtain ⟨q, hq, hw⟩ := mw_get (ad := ad) (ce := ce) (V := V) ((ho k n).mp hx)
  rw [he] at hw
  refine va_zast hexec hb hK hP hD hS q t0 hw ht hin hdg (fun H1 locs1 hP1 hD1 hS1 => ?_)
  rw [← he', mw_set hno hq] at hP1 hD1
  exact kk H1 locs1 ⟨os, hno, ho, hP1, hD1⟩ hS1
/-- a reference into an array: to the object (k2, n2) of the world -/
theorem mm_aast (hexec : p.tables.exec = Jvm.exec) (hb : c.code = cc) (hK : va_K D cl tys s) (hM : mP D cl A ad ce ex V H) (hS : va_S A H0 H locs) (k n : Nat) (hx : ex k n) (t0 : Nat) {cA : ClassId} {r : vw_C} {N : Nat} {f : Nat → Option Nat} (he : ce k n (V k n) = .inl (cA, N, .inr (.inr (.inr (.inr f))))) (ht : tys[t0]? = some (cA, .object r.1)) (k2 n2 : Nat) (hx2 : ex k2 n2) {ci : Nat} {vs : List Value} (he2 : ce k2 n2 (V k2 n2) = .inr (ci, vs)) (hc : cl[ci]? = some r) {i : Int32} (x : Int32) (hin : vp_in i N) (he' : ce k n (upd (V k n) i.toNatClampNeg x) = .inl (cA, N, .inr (.inr (.inr (.inr (va_up f i.toNatClampNeg (some (ad k2 n2)))))))) (hdg : decode cc pc = .ok (.aastore, 1))
    (kk : ∀ (H1 : Heap) (locs1 : List Loc), mP D cl A ad ce ex (mu V k n i.toNatClampNeg x) H1 → va_S A H0 H1 locs1 → W p l e R s m args below meth c H1 locs1 cells slots Q (F0 m (pc + 1) ls rest)) : W p l e R s m args below meth c H locs cells slots Q (F0 m pc ls (.ref (ad k2 n2) :: .int i :: .ref (ad k n) :: rest)) := by
  obtain ⟨os, hno, ho, hP, hD⟩ := hM
  obtain ⟨q, hq, hw⟩ := mw_get (ad := ad) (ce := ce) (V := V) ((ho k n).mp hx)
  obtain ⟨q2, hq2, hw2⟩ := mw_get (ad := ad) (ce := ce) (V := V) ((ho k2 n2).mp hx2)
  rw [he] at hw
  rw [he2] at hw2
  refine va_astq hexec hb hK hP hD hS q t0 q2 ci hw ht hw2 hc hin hdg (fun H1 locs1 hP1 hD1 hS1 => ?_)
  rw [← he', mw_set hno hq] at hP1 hD1
  exact kk H1 locs1 ⟨os, hno, ho, hP1, hD1⟩ hS1
theorem mm_aastN (hexec : p.tables.exec = Jvm.exec) (hb : c.code = cc) (hK : va_K D cl tys s) (hM : mP D cl A ad ce ex V H) (hS : va_S A H0 H locs) (k n : Nat) (hx : ex k n) (t0 : Nat) {cA : ClassId} {C : String} {N : Nat} {f : Nat → Option Nat} (he : ce k n (V k n) = .inl (cA, N, .inr (.inr (.inr (.inr f))))) (ht : tys[t0]? = some (cA, .object C)) {i : Int32} (x : Int32) (hin : vp_in i N) (he' : ce k n (upd (V k n) i.toNatClampNeg x) = .inl (cA, N, .inr (.inr (.inr (.inr (va_up f i.toNatClampNeg none)))))) (hdg : decode cc pc = .ok (.aastore, 1))
    (kk : ∀ (H1 : Heap) (locs1 : List Loc), mP D cl A ad ce ex (mu V k n i.toNatClampNeg x) H1 → va_S A H0 H1 locs1 → W p l e R s m args below meth c H1 locs1 cells slots Q (F0 m (pc + 1) ls rest)) : W p l e R s m args below meth c H locs cells slots Q (F0 m pc ls (.null :: .int i :: .ref (ad k n) :: rest)) := by
  obtain ⟨os, hno, ho, hP, hD⟩ := hM
  obtain ⟨q, hq, hw⟩ := mw_get (ad := ad) (ce := ce) (V := V) ((ho k n).mp hx)
  rw [he] at hw
  refine va_astqN hexec hb hK hP hD hS q t0 hw ht hin hdg (fun H1 locs1 hP1 hD1 hS1 => ?_)
  rw [← he', mw_set hno hq] at hP1 hD1
  exact kk H1 locs1 ⟨os, hno, ho, hP1, hD1⟩ hS1
theorem mm_alen (hexec : p.tables.exec = Jvm.exec) (hb : c.code = cc) (hK : va_K D cl tys s) (hM : mP D cl A ad ce ex V H) (k n : Nat) (hx : ex k n) (t0 : Nat) {cA : ClassId} {x : vp_A} (he : ce k n (V k n) = .inl (cA, x)) {ty : FieldType} (ht : tys[t0]? = some (cA, ty)) {v : Int32} (hv : Int32.ofNat x.1 = v) (hdg : decode cc pc = .ok (.arraylength, 1))
    (kk : W p l e R s m args below meth c H locs cells slots Q (F0 m (pc + 1) ls (.int v :: rest))) : W p l e R s m args below meth c H locs cells slots Q (F0 m pc ls (.ref (ad k n) :: rest)) := by
  obtain ⟨os, hno, ho, hP, hD⟩ := hM
  obtain ⟨q, hq, hw⟩ := mw_get (ad := ad) (ce := ce) (V := V) ((ho k n).mp hx)
  rw [he] at hw
  exact va_alen hexec hb hK hP q t0 hw ht hv hdg kk
theorem mm_copyi (hexec : p.tables.exec = Jvm.exec) (hb : c.code = cc) (hml : c.maxLocals = ls.size) {own : String} {index : Nat} (hown : s.vm.findClass own = some m.cls) (hlink : (Cond.methodLink own index arraycopyName).before args s = true) (hnat : (Cond.native arraycopyName).before args s = true) (hstat : (Cond.static arraycopyName).before args s = true) (hini : (Cond.initialized "java/lang/System").before args s = true)
    (hK : va_K D cl tys s) (hM : mP D cl A ad ce ex V H) (hS : va_S A H0 H locs) (k n : Nat) (hx : ex k n) (k2 n2 : Nat) (hx2 : ex k2 n2) (t0 : Nat) {cA : ClassId} {N N2 : Nat} {f g : Nat → Int32} (he : ce k n (V k n) = .inl (cA, N, .inl f)) (he2 : ce k2 n2 (V k2 n2) = .inl (cA, N2, .inl g)) (ht : tys[t0]? = some (cA, .int))
    {sp dp z : Int32} (h1 : ¬ sp < 0) (h2 : ¬ dp < 0) (h3 : ¬ z < 0) (h4 : sp.toNatClampNeg + z.toNatClampNeg ≤ N) (h5 : dp.toNatClampNeg + z.toNatClampNeg ≤ N2) (v2 : Nat → Int32) (he' : ce k2 n2 v2 = .inl (cA, N2, .inl (va_cpy f g sp.toNatClampNeg dp.toNatClampNeg z.toNatClampNeg)))
    (hframes : 1 ≤ R.frames) (hlocals : (rest.map fun v => v.category).sum + (nativeFrameWords "java/lang/System" "arraycopy" 5 + 11) ≤ R.locals) (hdg : decode cc pc = .ok (.invokestatic index, 3))
    (kk : ∀ (H1 : Heap) (locs1 : List Loc), mP D cl A ad ce ex (mv V k2 n2 v2) H1 → va_S A H0 H1 locs1 → W p l e R s m args below meth c H1 locs1 cells slots Q (F0 m (pc + 3) ls rest)) : W p l e R s m args below meth c H locs cells slots Q (F0 m pc ls (.int z :: .int dp :: .ref (ad k2 n2) :: .int sp :: .ref (ad k n) :: rest)) := by
  obtain ⟨os, hno, ho, hP, hD⟩ := hM
  obtain ⟨q, hq, hw⟩ := mw_get (ad := ad) (ce := ce) (V := V) ((ho k n).mp hx)
  obtain ⟨q2, hq2, hw2⟩ := mw_get (ad := ad) (ce := ce) (V := V) ((ho k2 n2).mp hx2)
  rw [he] at hw
  rw [he2] at hw2
  refine va_copyi hexec hb hml hown hlink hnat hstat hini hK hP hD hS q q2 t0 t0 hw hw2 ht ht rfl h1 h2 h3 h4 h5 (fun _ _ => rfl) hframes hlocals hdg (fun H1 locs1 hP1 hD1 hS1 => ?_)
  rw [← he', mw_set hno hq2] at hP1 hD1
  exact kk H1 locs1 ⟨os, hno, ho, hP1, hD1⟩ hS1
/-! locals and branches of a reference that may be null -/
theorem mm_aload_n (hexec : p.tables.exec = Jvm.exec) (hb : c.code = cc) {k : Fin 4} {i : Nat} {r : Option Nat} (hdg : decode cc pc = .ok (.aload_n k, 1)) (hi : (k : Nat) = i) (hl : ls[i]? = some (.val (va_rf r)))
    (kk : W p l e R s m args below meth c H locs cells slots Q (F0 m (pc + 1) ls (va_rf r :: rest))) : W p l e R s m args below meth c H locs cells slots Q (F0 m pc ls rest) := by
  cases r with
  | none => exact lv_aload_nN hexec hb hdg hi hl kk
  | some a => exact lv_aload_n hexec hb hdg hi hl kk
theorem mm_aload (hexec : p.tables.exec = Jvm.exec) (hb : c.code = cc) {i : Nat} {r : Option Nat} (hdg : decode cc pc = .ok (.aload i, 2)) (hl : ls[i]? = some (.val (va_rf r)))
    (kk : W p l e R s m args below meth c H locs cells slots Q (F0 m (pc + 2) ls (va_rf r :: rest))) : W p l e R s m args below meth c H locs cells slots Q (F0 m pc ls rest) := by
  cases r with
  | none => exact lv_aloadN hexec hb hdg hl kk
  | some a => exact lv_aload hexec hb hdg hl kk
theorem mm_astore_n (hexec : p.tables.exec = Jvm.exec) (hb : c.code = cc) {k : Fin 4} {i nL : Nat} {r : Option Nat} {lv lv' : List (Nat × Value)} (hdg : decode cc pc = .ok (.astore_n k, 1)) (hi : (k : Nat) = i) (h : lv_has ls nL lv) (hn : i < nL) (hl : (i, va_rf r) :: lv.filter (fun q => !(q.1 == i) && !(q.1 + 1 == i && q.2.category == 2)) = lv')
    (kk : ∀ ls' : Array Slot, lv_has ls' nL lv' → W p l e R s m args below meth c H locs cells slots Q (F0 m (pc + 1) ls' rest)) : W p l e R s m args below meth c H locs cells slots Q (F0 m pc ls (va_rf r :: rest)) := by
  cases r with
  | none => exact lv_astore_nN hexec hb hdg hi h hn hl kk
  | some a => exact lv_astore_n hexec hb hdg hi h hn hl kk
theorem mm_astore (hexec : p.tables.exec = Jvm.exec) (hb : c.code = cc) {i nL : Nat} {r : Option Nat} {lv lv' : List (Nat × Value)} (hdg : decode cc pc = .ok (.astore i, 2)) (h : lv_has ls nL lv) (hn : i < nL) (hl : (i, va_rf r) :: lv.filter (fun q => !(q.1 == i) && !(q.1 + 1 == i && q.2.category == 2)) = lv')
    (kk : ∀ ls' : Array Slot, lv_has ls' nL lv' → W p l e R s m args below meth c H locs cells slots Q (F0 m (pc + 2) ls' rest)) : W p l e R s m args below meth c H locs cells slots Q (F0 m pc ls (va_rf r :: rest)) := by
  cases r with
  | none => exact lv_astoreN hexec hb hdg h hn hl kk
  | some a => exact lv_astore hexec hb hdg h hn hl kk
end MM
end
