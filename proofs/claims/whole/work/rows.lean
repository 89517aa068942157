section
-- ===== PART A: goes FIRST, ahead of the names: the tables' words, and 'selects' of the private methods out of them =====
/-- a private method of a class that the tables say can be made, by its rows of tables_1 -/
def lw_okq (q : MethodName × Nat) : Prop := (q.1.cls ≠ "java/lang/invoke/MethodHandle" ∧ q.1.cls ≠ "java/lang/invoke/VarHandle") ∧ Cond.instantiable q.1.cls q.2 ∈ tables_1 ∧ Cond.privateMethod q.1 ∈ tables_1 ∧ Cond.instanceMethod q.1 ∈ tables_1
theorem lw_p0 : lw_okq (⟨"DecreePool", "hasSeat", "(II)Z"⟩, 9) := ⟨⟨by decide +kernel, by decide +kernel⟩, List.mem_of_getElem? (i := 10) (by decide +kernel), List.mem_of_getElem? (i := 138) (by decide +kernel), List.mem_of_getElem? (i := 139) (by decide +kernel)⟩
theorem lw_p1 : lw_okq (⟨"DecreePool", "hasNode", "(I)Z"⟩, 9) := ⟨⟨by decide +kernel, by decide +kernel⟩, List.mem_of_getElem? (i := 10) (by decide +kernel), List.mem_of_getElem? (i := 142) (by decide +kernel), List.mem_of_getElem? (i := 143) (by decide +kernel)⟩
theorem lw_p2 : lw_okq (⟨"DecreePool", "hasSlot", "(I)Z"⟩, 9) := ⟨⟨by decide +kernel, by decide +kernel⟩, List.mem_of_getElem? (i := 10) (by decide +kernel), List.mem_of_getElem? (i := 146) (by decide +kernel), List.mem_of_getElem? (i := 147) (by decide +kernel)⟩
theorem lw_p3 : lw_okq (⟨"DecreePool", "isUp", "(I)Z"⟩, 9) := ⟨⟨by decide +kernel, by decide +kernel⟩, List.mem_of_getElem? (i := 10) (by decide +kernel), List.mem_of_getElem? (i := 150) (by decide +kernel), List.mem_of_getElem? (i := 151) (by decide +kernel)⟩
theorem lw_p4 : lw_okq (⟨"DecreePool", "seatOf", "(II)I"⟩, 9) := ⟨⟨by decide +kernel, by decide +kernel⟩, List.mem_of_getElem? (i := 10) (by decide +kernel), List.mem_of_getElem? (i := 154) (by decide +kernel), List.mem_of_getElem? (i := 155) (by decide +kernel)⟩
theorem lw_p5 : lw_okq (⟨"DecreePool", "sendToAll", "(IIIII)V"⟩, 9) := ⟨⟨by decide +kernel, by decide +kernel⟩, List.mem_of_getElem? (i := 10) (by decide +kernel), List.mem_of_getElem? (i := 170) (by decide +kernel), List.mem_of_getElem? (i := 171) (by decide +kernel)⟩
theorem lw_p6 : lw_okq (⟨"DecreePool$Pool", "leastEmpty", "()I"⟩, 3) := ⟨⟨by decide +kernel, by decide +kernel⟩, List.mem_of_getElem? (i := 21) (by decide +kernel), List.mem_of_getElem? (i := 178) (by decide +kernel), List.mem_of_getElem? (i := 179) (by decide +kernel)⟩
theorem lw_p7 : lw_okq (⟨"DecreePool", "isDeliverable", "(I)Z"⟩, 9) := ⟨⟨by decide +kernel, by decide +kernel⟩, List.mem_of_getElem? (i := 10) (by decide +kernel), List.mem_of_getElem? (i := 195) (by decide +kernel), List.mem_of_getElem? (i := 196) (by decide +kernel)⟩
theorem lw_p8 : lw_okq (⟨"DecreePool", "isAnsweredToAll", "(I)Z"⟩, 9) := ⟨⟨by decide +kernel, by decide +kernel⟩, List.mem_of_getElem? (i := 10) (by decide +kernel), List.mem_of_getElem? (i := 199) (by decide +kernel), List.mem_of_getElem? (i := 200) (by decide +kernel)⟩
theorem lw_p9 : lw_okq (⟨"DecreePool$Proposers", "awaits", "(II)Z"⟩, 6) := ⟨⟨by decide +kernel, by decide +kernel⟩, List.mem_of_getElem? (i := 38) (by decide +kernel), List.mem_of_getElem? (i := 208) (by decide +kernel), List.mem_of_getElem? (i := 209) (by decide +kernel)⟩
theorem lw_p10 : lw_okq (⟨"DecreePool", "handOver", "(I)I"⟩, 9) := ⟨⟨by decide +kernel, by decide +kernel⟩, List.mem_of_getElem? (i := 10) (by decide +kernel), List.mem_of_getElem? (i := 225) (by decide +kernel), List.mem_of_getElem? (i := 226) (by decide +kernel)⟩
theorem lw_p11 : lw_okq (⟨"DecreePool$Learners", "nodesHeardWith", "(II)I"⟩, 3) := ⟨⟨by decide +kernel, by decide +kernel⟩, List.mem_of_getElem? (i := 89) (by decide +kernel), List.mem_of_getElem? (i := 270) (by decide +kernel), List.mem_of_getElem? (i := 271) (by decide +kernel)⟩
theorem lw_p12 : lw_okq (⟨"DecreePool", "leastDeliverable", "()I"⟩, 9) := ⟨⟨by decide +kernel, by decide +kernel⟩, List.mem_of_getElem? (i := 10) (by decide +kernel), List.mem_of_getElem? (i := 284) (by decide +kernel), List.mem_of_getElem? (i := 285) (by decide +kernel)⟩
theorem lw_p13 : lw_okq (⟨"DecreePool$Acceptors", "acceptorsOf", "(II)I"⟩, 5) := ⟨⟨by decide +kernel, by decide +kernel⟩, List.mem_of_getElem? (i := 66) (by decide +kernel), List.mem_of_getElem? (i := 372) (by decide +kernel), List.mem_of_getElem? (i := 373) (by decide +kernel)⟩
theorem lw_p14 : lw_okq (⟨"DecreePool", "prefixLength", "(I)I"⟩, 9) := ⟨⟨by decide +kernel, by decide +kernel⟩, List.mem_of_getElem? (i := 10) (by decide +kernel), List.mem_of_getElem? (i := 381) (by decide +kernel), List.mem_of_getElem? (i := 382) (by decide +kernel)⟩
theorem lw_p15 : lw_okq (⟨"DecreePoolModel", "isNode", "(I)Z"⟩, 25) := ⟨⟨by decide +kernel, by decide +kernel⟩, List.mem_of_getElem? (i := 400) (by decide +kernel), List.mem_of_getElem? (i := 487) (by decide +kernel), List.mem_of_getElem? (i := 488) (by decide +kernel)⟩
def lw_privs_1 : List (MethodName × Nat) := [(⟨"DecreePool", "hasSeat", "(II)Z"⟩, 9), (⟨"DecreePool", "hasNode", "(I)Z"⟩, 9), (⟨"DecreePool", "hasSlot", "(I)Z"⟩, 9), (⟨"DecreePool", "isUp", "(I)Z"⟩, 9), (⟨"DecreePool", "seatOf", "(II)I"⟩, 9), (⟨"DecreePool", "sendToAll", "(IIIII)V"⟩, 9), (⟨"DecreePool$Pool", "leastEmpty", "()I"⟩, 3), (⟨"DecreePool", "isDeliverable", "(I)Z"⟩, 9), (⟨"DecreePool", "isAnsweredToAll", "(I)Z"⟩, 9), (⟨"DecreePool$Proposers", "awaits", "(II)Z"⟩, 6), (⟨"DecreePool", "handOver", "(I)I"⟩, 9), (⟨"DecreePool$Learners", "nodesHeardWith", "(II)I"⟩, 3), (⟨"DecreePool", "leastDeliverable", "()I"⟩, 9), (⟨"DecreePool$Acceptors", "acceptorsOf", "(II)I"⟩, 5), (⟨"DecreePool", "prefixLength", "(I)I"⟩, 9), (⟨"DecreePoolModel", "isNode", "(I)Z"⟩, 25)]
theorem lw_r1 : ∀ q ∈ lw_privs_1, lw_okq q := List.forall_mem_cons.mpr ⟨lw_p0, List.forall_mem_cons.mpr ⟨lw_p1, List.forall_mem_cons.mpr ⟨lw_p2, List.forall_mem_cons.mpr ⟨lw_p3, List.forall_mem_cons.mpr ⟨lw_p4, List.forall_mem_cons.mpr ⟨lw_p5, List.forall_mem_cons.mpr ⟨lw_p6, List.forall_mem_cons.mpr ⟨lw_p7, List.forall_mem_cons.mpr ⟨lw_p8, List.forall_mem_cons.mpr ⟨lw_p9, List.forall_mem_cons.mpr ⟨lw_p10, List.forall_mem_cons.mpr ⟨lw_p11, List.forall_mem_cons.mpr ⟨lw_p12, List.forall_mem_cons.mpr ⟨lw_p13, List.forall_mem_cons.mpr ⟨lw_p14, List.forall_mem_cons.mpr ⟨lw_p15, fun _ h => absurd h List.not_mem_nil⟩⟩⟩⟩⟩⟩⟩⟩⟩⟩⟩⟩⟩⟩⟩⟩
theorem lw_p16 : lw_okq (⟨"DecreePoolModel", "isSlot", "(I)Z"⟩, 25) := ⟨⟨by decide +kernel, by decide +kernel⟩, List.mem_of_getElem? (i := 400) (by decide +kernel), List.mem_of_getElem? (i := 491) (by decide +kernel), List.mem_of_getElem? (i := 492) (by decide +kernel)⟩
theorem lw_p17 : lw_okq (⟨"DecreePoolModel", "empty", "()I"⟩, 25) := ⟨⟨by decide +kernel, by decide +kernel⟩, List.mem_of_getElem? (i := 400) (by decide +kernel), List.mem_of_getElem? (i := 495) (by decide +kernel), List.mem_of_getElem? (i := 496) (by decide +kernel)⟩
theorem lw_p18 : lw_okq (⟨"DecreePoolModel", "sendAll", "(IIIII)V"⟩, 25) := ⟨⟨by decide +kernel, by decide +kernel⟩, List.mem_of_getElem? (i := 400) (by decide +kernel), List.mem_of_getElem? (i := 499) (by decide +kernel), List.mem_of_getElem? (i := 500) (by decide +kernel)⟩
theorem lw_p19 : lw_okq (⟨"DecreePoolModel", "send", "(IIIIIII)I"⟩, 25) := ⟨⟨by decide +kernel, by decide +kernel⟩, List.mem_of_getElem? (i := 400) (by decide +kernel), List.mem_of_getElem? (i := 503) (by decide +kernel), List.mem_of_getElem? (i := 504) (by decide +kernel)⟩
theorem lw_p20 : lw_okq (⟨"DecreePoolModel", "isMessage", "(I)Z"⟩, 25) := ⟨⟨by decide +kernel, by decide +kernel⟩, List.mem_of_getElem? (i := 400) (by decide +kernel), List.mem_of_getElem? (i := 511) (by decide +kernel), List.mem_of_getElem? (i := 512) (by decide +kernel)⟩
theorem lw_p21 : lw_okq (⟨"DecreePoolModel", "sends", "(I)I"⟩, 25) := ⟨⟨by decide +kernel, by decide +kernel⟩, List.mem_of_getElem? (i := 400) (by decide +kernel), List.mem_of_getElem? (i := 515) (by decide +kernel), List.mem_of_getElem? (i := 516) (by decide +kernel)⟩
theorem lw_p22 : lw_okq (⟨"DecreePoolModel", "isAwaited", "(I)Z"⟩, 25) := ⟨⟨by decide +kernel, by decide +kernel⟩, List.mem_of_getElem? (i := 400) (by decide +kernel), List.mem_of_getElem? (i := 519) (by decide +kernel), List.mem_of_getElem? (i := 520) (by decide +kernel)⟩
theorem lw_p23 : lw_okq (⟨"DecreePoolModel", "withPromise", "(I)I"⟩, 25) := ⟨⟨by decide +kernel, by decide +kernel⟩, List.mem_of_getElem? (i := 400) (by decide +kernel), List.mem_of_getElem? (i := 523) (by decide +kernel), List.mem_of_getElem? (i := 524) (by decide +kernel)⟩
theorem lw_p24 : lw_okq (⟨"DecreePoolModel", "isMajority", "(I)Z"⟩, 25) := ⟨⟨by decide +kernel, by decide +kernel⟩, List.mem_of_getElem? (i := 400) (by decide +kernel), List.mem_of_getElem? (i := 530) (by decide +kernel), List.mem_of_getElem? (i := 531) (by decide +kernel)⟩
theorem lw_p25 : lw_okq (⟨"DecreePoolModel", "take", "(II)V"⟩, 25) := ⟨⟨by decide +kernel, by decide +kernel⟩, List.mem_of_getElem? (i := 400) (by decide +kernel), List.mem_of_getElem? (i := 534) (by decide +kernel), List.mem_of_getElem? (i := 535) (by decide +kernel)⟩
theorem lw_p26 : lw_okq (⟨"DecreePoolModel", "promise", "(I)V"⟩, 25) := ⟨⟨by decide +kernel, by decide +kernel⟩, List.mem_of_getElem? (i := 400) (by decide +kernel), List.mem_of_getElem? (i := 538) (by decide +kernel), List.mem_of_getElem? (i := 539) (by decide +kernel)⟩
theorem lw_p27 : lw_okq (⟨"DecreePoolModel", "hear", "(I)V"⟩, 25) := ⟨⟨by decide +kernel, by decide +kernel⟩, List.mem_of_getElem? (i := 400) (by decide +kernel), List.mem_of_getElem? (i := 542) (by decide +kernel), List.mem_of_getElem? (i := 543) (by decide +kernel)⟩
theorem lw_p28 : lw_okq (⟨"DecreePoolModel", "learn", "(III)V"⟩, 25) := ⟨⟨by decide +kernel, by decide +kernel⟩, List.mem_of_getElem? (i := 400) (by decide +kernel), List.mem_of_getElem? (i := 546) (by decide +kernel), List.mem_of_getElem? (i := 547) (by decide +kernel)⟩
theorem lw_p29 : lw_okq (⟨"DecreePoolModel", "up", "()I"⟩, 25) := ⟨⟨by decide +kernel, by decide +kernel⟩, List.mem_of_getElem? (i := 400) (by decide +kernel), List.mem_of_getElem? (i := 567) (by decide +kernel), List.mem_of_getElem? (i := 568) (by decide +kernel)⟩
def lw_privs_2 : List (MethodName × Nat) := [(⟨"DecreePoolModel", "isSlot", "(I)Z"⟩, 25), (⟨"DecreePoolModel", "empty", "()I"⟩, 25), (⟨"DecreePoolModel", "sendAll", "(IIIII)V"⟩, 25), (⟨"DecreePoolModel", "send", "(IIIIIII)I"⟩, 25), (⟨"DecreePoolModel", "isMessage", "(I)Z"⟩, 25), (⟨"DecreePoolModel", "sends", "(I)I"⟩, 25), (⟨"DecreePoolModel", "isAwaited", "(I)Z"⟩, 25), (⟨"DecreePoolModel", "withPromise", "(I)I"⟩, 25), (⟨"DecreePoolModel", "isMajority", "(I)Z"⟩, 25), (⟨"DecreePoolModel", "take", "(II)V"⟩, 25), (⟨"DecreePoolModel", "promise", "(I)V"⟩, 25), (⟨"DecreePoolModel", "hear", "(I)V"⟩, 25), (⟨"DecreePoolModel", "learn", "(III)V"⟩, 25), (⟨"DecreePoolModel", "up", "()I"⟩, 25)]
theorem lw_r2 : ∀ q ∈ lw_privs_2, lw_okq q := List.forall_mem_cons.mpr ⟨lw_p16, List.forall_mem_cons.mpr ⟨lw_p17, List.forall_mem_cons.mpr ⟨lw_p18, List.forall_mem_cons.mpr ⟨lw_p19, List.forall_mem_cons.mpr ⟨lw_p20, List.forall_mem_cons.mpr ⟨lw_p21, List.forall_mem_cons.mpr ⟨lw_p22, List.forall_mem_cons.mpr ⟨lw_p23, List.forall_mem_cons.mpr ⟨lw_p24, List.forall_mem_cons.mpr ⟨lw_p25, List.forall_mem_cons.mpr ⟨lw_p26, List.forall_mem_cons.mpr ⟨lw_p27, List.forall_mem_cons.mpr ⟨lw_p28, List.forall_mem_cons.mpr ⟨lw_p29, fun _ h => absurd h List.not_mem_nil⟩⟩⟩⟩⟩⟩⟩⟩⟩⟩⟩⟩⟩⟩
def lw_privs : List (MethodName × Nat) := lw_privs_1 ++ (lw_privs_2)
def lw_tbl : List Cond := k2_sels lw_privs ++ tables_1
theorem lw_privs_ok : ∀ q ∈ lw_privs, lw_okq q := by
  show ∀ q ∈ lw_privs_1 ++ (lw_privs_2), lw_okq q
  exact List.forall_mem_append.mpr ⟨lw_r1, lw_r2⟩

abbrev RDecreePool : String := "DecreePool"
abbrev RPool : String := "DecreePool$Pool"
abbrev RProposers : String := "DecreePool$Proposers"
abbrev RAcceptors : String := "DecreePool$Acceptors"
abbrev RLearners : String := "DecreePool$Learners"
abbrev RModel : String := "DecreePoolModel"
abbrev RLaw : String := "DecreePoolLaw"
abbrev RInteger : String := "java/lang/Integer"
abbrev RArrays : String := "java/util/Arrays"
def TDecreePool : u_T := fun k => match k with
  | 0 => ("DecreePool", "nodes", "I", true)
  | 1 => ("DecreePool", "slots", "I", true)
  | 2 => ("DecreePool", "pool", "LDecreePool$Pool;", true)
  | 3 => ("DecreePool", "proposers", "LDecreePool$Proposers;", true)
  | 4 => ("DecreePool", "acceptors", "LDecreePool$Acceptors;", true)
  | 5 => ("DecreePool", "learners", "LDecreePool$Learners;", true)
  | 6 => ("DecreePool", "upBits", "I", false)
  | 7 => ("DecreePool", "deliveries", "I", false)
  | _ => ("DecreePool", "lost", "I", false)
def tyDecreePool : Nat → FieldType := fun k => match k with
  | 0 => .int
  | 1 => .int
  | 2 => .object "DecreePool$Pool"
  | 3 => .object "DecreePool$Proposers"
  | 4 => .object "DecreePool$Acceptors"
  | 5 => .object "DecreePool$Learners"
  | 6 => .int
  | 7 => .int
  | _ => .int
theorem nmDecreePool : ∀ a, a < 9 → ∀ b, b < 9 → a ≠ b → (TDecreePool a).2.1 ≠ (TDecreePool b).2.1 := by decide +kernel
theorem tyDecreePool_ok : ∀ k, k < 9 → parseFieldDescriptor (TDecreePool k).2.2.1 = some (tyDecreePool k) := by decide +kernel
def TPool : u_T := fun k => match k with
  | 0 => ("DecreePool$Pool", "places", "I", true)
  | 1 => ("DecreePool$Pool", "rows", "[I", true)
  | _ => ("DecreePool$Pool", "messages", "I", false)
def tyPool : Nat → FieldType := fun k => match k with
  | 0 => .int
  | 1 => .array .int
  | _ => .int
theorem nmPool : ∀ a, a < 3 → ∀ b, b < 3 → a ≠ b → (TPool a).2.1 ≠ (TPool b).2.1 := by decide +kernel
theorem tyPool_ok : ∀ k, k < 3 → parseFieldDescriptor (TPool k).2.2.1 = some (tyPool k) := by decide +kernel
def TProposers : u_T := fun k => match k with
  | 0 => ("DecreePool$Proposers", "nodes", "I", true)
  | 1 => ("DecreePool$Proposers", "phase", "[I", true)
  | 2 => ("DecreePool$Proposers", "lastBallot", "[I", true)
  | 3 => ("DecreePool$Proposers", "promisedBits", "[I", true)
  | 4 => ("DecreePool$Proposers", "bestBallot", "[I", true)
  | _ => ("DecreePool$Proposers", "value", "[I", true)
def tyProposers : Nat → FieldType := fun k => match k with
  | 0 => .int
  | 1 => .array .int
  | 2 => .array .int
  | 3 => .array .int
  | 4 => .array .int
  | _ => .array .int
theorem nmProposers : ∀ a, a < 6 → ∀ b, b < 6 → a ≠ b → (TProposers a).2.1 ≠ (TProposers b).2.1 := by decide +kernel
theorem tyProposers_ok : ∀ k, k < 6 → parseFieldDescriptor (TProposers k).2.2.1 = some (tyProposers k) := by decide +kernel
def TAcceptors : u_T := fun k => match k with
  | 0 => ("DecreePool$Acceptors", "nodes", "I", true)
  | 1 => ("DecreePool$Acceptors", "slots", "I", true)
  | 2 => ("DecreePool$Acceptors", "promisedBallot", "[I", true)
  | 3 => ("DecreePool$Acceptors", "acceptedBallot", "[I", true)
  | _ => ("DecreePool$Acceptors", "acceptedValue", "[I", true)
def tyAcceptors : Nat → FieldType := fun k => match k with
  | 0 => .int
  | 1 => .int
  | 2 => .array .int
  | 3 => .array .int
  | _ => .array .int
theorem nmAcceptors : ∀ a, a < 5 → ∀ b, b < 5 → a ≠ b → (TAcceptors a).2.1 ≠ (TAcceptors b).2.1 := by decide +kernel
theorem tyAcceptors_ok : ∀ k, k < 5 → parseFieldDescriptor (TAcceptors k).2.2.1 = some (tyAcceptors k) := by decide +kernel
def TLearners : u_T := fun k => match k with
  | 0 => ("DecreePool$Learners", "nodes", "I", true)
  | 1 => ("DecreePool$Learners", "heardBallot", "[I", true)
  | _ => ("DecreePool$Learners", "decree", "[I", true)
def tyLearners : Nat → FieldType := fun k => match k with
  | 0 => .int
  | 1 => .array .int
  | _ => .array .int
theorem nmLearners : ∀ a, a < 3 → ∀ b, b < 3 → a ≠ b → (TLearners a).2.1 ≠ (TLearners b).2.1 := by decide +kernel
theorem tyLearners_ok : ∀ k, k < 3 → parseFieldDescriptor (TLearners k).2.2.1 = some (tyLearners k) := by decide +kernel
def TModel : u_T := fun k => match k with
  | 0 => ("DecreePoolModel", "nodes", "I", false)
  | 1 => ("DecreePoolModel", "slots", "I", false)
  | 2 => ("DecreePoolModel", "places", "I", false)
  | 3 => ("DecreePoolModel", "down", "[Z", true)
  | 4 => ("DecreePoolModel", "kinds", "[I", true)
  | 5 => ("DecreePoolModel", "senders", "[I", true)
  | 6 => ("DecreePoolModel", "receivers", "[I", true)
  | 7 => ("DecreePoolModel", "slotOf", "[I", true)
  | 8 => ("DecreePoolModel", "ballots", "[I", true)
  | 9 => ("DecreePoolModel", "values", "[I", true)
  | 10 => ("DecreePoolModel", "olds", "[I", true)
  | 11 => ("DecreePoolModel", "last", "[I", true)
  | 12 => ("DecreePoolModel", "phases", "[I", true)
  | 13 => ("DecreePoolModel", "wishes", "[I", true)
  | 14 => ("DecreePoolModel", "promises", "[I", true)
  | 15 => ("DecreePoolModel", "best", "[I", true)
  | 16 => ("DecreePoolModel", "bestValue", "[I", true)
  | 17 => ("DecreePoolModel", "promised", "[I", true)
  | 18 => ("DecreePoolModel", "accepted", "[I", true)
  | 19 => ("DecreePoolModel", "acceptedValue", "[I", true)
  | 20 => ("DecreePoolModel", "heardBallot", "[I", true)
  | 21 => ("DecreePoolModel", "heardValue", "[I", true)
  | 22 => ("DecreePoolModel", "learned", "[I", true)
  | 23 => ("DecreePoolModel", "delivered", "I", false)
  | _ => ("DecreePoolModel", "lost", "I", false)
def tyModel : Nat → FieldType := fun k => match k with
  | 0 => .int
  | 1 => .int
  | 2 => .int
  | 3 => .array .boolean
  | 4 => .array .int
  | 5 => .array .int
  | 6 => .array .int
  | 7 => .array .int
  | 8 => .array .int
  | 9 => .array .int
  | 10 => .array .int
  | 11 => .array .int
  | 12 => .array .int
  | 13 => .array .int
  | 14 => .array .int
  | 15 => .array .int
  | 16 => .array .int
  | 17 => .array .int
  | 18 => .array .int
  | 19 => .array .int
  | 20 => .array .int
  | 21 => .array .int
  | 22 => .array .int
  | 23 => .int
  | _ => .int
theorem nmModel : ∀ a, a < 25 → ∀ b, b < 25 → a ≠ b → (TModel a).2.1 ≠ (TModel b).2.1 := by decide +kernel
theorem tyModel_ok : ∀ k, k < 25 → parseFieldDescriptor (TModel k).2.2.1 = some (tyModel k) := by decide +kernel
abbrev vwCl : List vw_C := [(RDecreePool, TDecreePool, 9), (RPool, TPool, 3), (RProposers, TProposers, 6), (RAcceptors, TAcceptors, 5), (RLearners, TLearners, 3), (RModel, TModel, 25)]
/-- the words that every method here starts with: the good ones of the tables -/
def WL : List Cond := lw_tbl.filter goodWord
theorem WL_t {w : Cond} (i : Nat) (h : tables_1[i]? = some w) (hg : goodWord w = true) : w ∈ WL := List.mem_filter.mpr ⟨List.mem_append_right _ (List.mem_of_getElem? h), hg⟩
theorem WL_s {q : MethodName × Nat} (h : q ∈ lw_privs) : Cond.selects q.1.cls q.1 q.1 ∈ WL := List.mem_filter.mpr ⟨List.mem_append_left _ (List.mem_map.mpr ⟨q, h, rfl⟩), rfl⟩
theorem WL_good {w : Cond} (h : w ∈ WL) : goodWord w = true := (List.mem_filter.mp h).2
theorem mc {c w : Cond} (h : w ∈ WL) : w ∈ c :: WL := List.mem_cons_of_mem _ h
theorem gC {c c2 : Cond} (h : c2 ∈ WL) : GoodIn (c :: WL) (c2 :: WL) := fun w hw => by
  have hm : w ∈ WL := (List.mem_cons.mp hw).elim (fun e => e ▸ h) id
  exact ⟨mc hm, good_of_word (WL_good hm)⟩
theorem gV {c c2 : Cond} {own C : String} {idx : Nat} {y : MethodName} (h1 : Cond.methodLink own idx y ∈ WL) (h2 : Cond.instanceMethod y ∈ WL) (h3 : Cond.selects C y y ∈ WL) (h4 : Cond.initialized C ∈ WL) (h : c2 ∈ WL) : GoodIn (c :: WL) (wsV own idx C y (c2 :: WL)) := fun w hw => by
  have hm : w ∈ WL := by
    rcases List.mem_append.mp hw with hw | hw
    · simp only [List.mem_cons, List.not_mem_nil, or_false] at hw
      rcases hw with rfl | rfl | rfl | rfl <;> assumption
    · exact (List.mem_cons.mp hw).elim (fun e => e ▸ h) id
  exact ⟨mc hm, good_of_word (WL_good hm)⟩
theorem gS {c c2 : Cond} {own : String} {idx : Nat} {y : MethodName} (h1 : Cond.methodLink own idx y ∈ WL) (h2 : Cond.static y ∈ WL) (h3 : Cond.initialized y.cls ∈ WL) (h : c2 ∈ WL) : GoodIn (c :: WL) (va_wsS own idx y (c2 :: WL)) := fun w hw => by
  have hm : w ∈ WL := by
    rcases List.mem_append.mp hw with hw | hw
    · simp only [List.mem_cons, List.not_mem_nil, or_false] at hw
      rcases hw with rfl | rfl | rfl <;> assumption
    · exact (List.mem_cons.mp hw).elim (fun e => e ▸ h) id
  exact ⟨mc hm, good_of_word (WL_good hm)⟩
abbrev nz1 : Cond := .methodLinkNest "DecreePool$Pool" 22 ⟨"DecreePool", "isWithin", "(III)Z"⟩ "DecreePool"
abbrev nz2 : Cond := .methodLinkNest "DecreePool$Proposers" 47 ⟨"DecreePool", "isMajority", "(II)Z"⟩ "DecreePool"
abbrev nz3 : Cond := .methodLinkNest "DecreePool$Learners" 35 ⟨"DecreePool", "isMajority", "(II)Z"⟩ "DecreePool"
abbrev nz4 : Cond := .methodLinkNest "DecreePool$Acceptors" 42 ⟨"DecreePool", "isMajority", "(II)Z"⟩ "DecreePool"
def NZ (U : State) : Prop := va_Nw nz1 U ∧ va_Nw nz2 U ∧ va_Nw nz3 U ∧ va_Nw nz4 U
theorem NZ.n1 {U : State} (h : NZ U) : va_Nw nz1 U := h.1
theorem NZ.n2 {U : State} (h : NZ U) : va_Nw nz2 U := h.2.1
theorem NZ.n3 {U : State} (h : NZ U) : va_Nw nz3 U := h.2.2.1
theorem NZ.n4 {U : State} (h : NZ U) : va_Nw nz4 U := h.2.2.2
theorem NZ.same {u U : State} (h : NZ u) (e : u.vm = U.vm) : NZ U := ⟨va_Nw.same rfl e h.1, va_Nw.same rfl e h.2.1, va_Nw.same rfl e h.2.2.1, va_Nw.same rfl e h.2.2.2⟩
theorem NZ.moved {s U : State} (h : NZ s) (hW : s.WarmedH U.vm) : NZ U := ⟨va_Nw.warmM hW h.1, va_Nw.warmM hW h.2.1, va_Nw.warmM hW h.2.2.1, va_Nw.warmM hW h.2.2.2⟩
abbrev cDecreePool_init : ByteArray := prog_1_method_1_code
abbrev yDecreePool_init : MethodName := ⟨"DecreePool", "<init>", "(III)V"⟩
def wsDecreePool_init : List Cond := .code yDecreePool_init cDecreePool_init 4 (Option.none : Option ClassFile.FieldType) :: WL
abbrev cDecreePool_isWithin : ByteArray := prog_1_method_19_code
abbrev yDecreePool_isWithin : MethodName := ⟨"DecreePool", "isWithin", "(III)Z"⟩
def wsDecreePool_isWithin : List Cond := .code yDecreePool_isWithin cDecreePool_isWithin 3 (Option.some .boolean) :: WL
abbrev cPool_init : ByteArray := prog_4_method_1_code
abbrev yPool_init : MethodName := ⟨"DecreePool$Pool", "<init>", "(I)V"⟩
def wsPool_init : List Cond := .code yPool_init cPool_init 2 (Option.none : Option ClassFile.FieldType) :: WL
abbrev cProposers_init : ByteArray := prog_5_method_1_code
abbrev yProposers_init : MethodName := ⟨"DecreePool$Proposers", "<init>", "(II)V"⟩
def wsProposers_init : List Cond := .code yProposers_init cProposers_init 4 (Option.none : Option ClassFile.FieldType) :: WL
abbrev cArrays_fill : ByteArray := prog_9_method_103_code
abbrev yArrays_fill : MethodName := ⟨"java/util/Arrays", "fill", "([II)V"⟩
def wsArrays_fill : List Cond := .code yArrays_fill cArrays_fill 4 (Option.none : Option ClassFile.FieldType) :: WL
abbrev cAcceptors_init : ByteArray := prog_2_method_1_code
abbrev yAcceptors_init : MethodName := ⟨"DecreePool$Acceptors", "<init>", "(II)V"⟩
def wsAcceptors_init : List Cond := .code yAcceptors_init cAcceptors_init 4 (Option.none : Option ClassFile.FieldType) :: WL
abbrev cLearners_init : ByteArray := prog_3_method_1_code
abbrev yLearners_init : MethodName := ⟨"DecreePool$Learners", "<init>", "(II)V"⟩
def wsLearners_init : List Cond := .code yLearners_init cLearners_init 4 (Option.none : Option ClassFile.FieldType) :: WL
abbrev cDecreePool_prepare : ByteArray := prog_1_method_2_code
abbrev yDecreePool_prepare : MethodName := ⟨"DecreePool", "prepare", "(IIII)I"⟩
def wsDecreePool_prepare : List Cond := .code yDecreePool_prepare cDecreePool_prepare 7 (Option.some .int) :: WL
abbrev cDecreePool_hasSeat : ByteArray := prog_1_method_23_code
abbrev yDecreePool_hasSeat : MethodName := ⟨"DecreePool", "hasSeat", "(II)Z"⟩
def wsDecreePool_hasSeat : List Cond := .code yDecreePool_hasSeat cDecreePool_hasSeat 3 (Option.some .boolean) :: WL
abbrev cDecreePool_hasNode : ByteArray := prog_1_method_21_code
abbrev yDecreePool_hasNode : MethodName := ⟨"DecreePool", "hasNode", "(I)Z"⟩
def wsDecreePool_hasNode : List Cond := .code yDecreePool_hasNode cDecreePool_hasNode 2 (Option.some .boolean) :: WL
abbrev cDecreePool_hasSlot : ByteArray := prog_1_method_22_code
abbrev yDecreePool_hasSlot : MethodName := ⟨"DecreePool", "hasSlot", "(I)Z"⟩
def wsDecreePool_hasSlot : List Cond := .code yDecreePool_hasSlot cDecreePool_hasSlot 2 (Option.some .boolean) :: WL
abbrev cDecreePool_isUp : ByteArray := prog_1_method_25_code
abbrev yDecreePool_isUp : MethodName := ⟨"DecreePool", "isUp", "(I)Z"⟩
def wsDecreePool_isUp : List Cond := .code yDecreePool_isUp cDecreePool_isUp 2 (Option.some .boolean) :: WL
abbrev cDecreePool_seatOf : ByteArray := prog_1_method_24_code
abbrev yDecreePool_seatOf : MethodName := ⟨"DecreePool", "seatOf", "(II)I"⟩
def wsDecreePool_seatOf : List Cond := .code yDecreePool_seatOf cDecreePool_seatOf 3 (Option.some .int) :: WL
abbrev cProposers_lastBallot : ByteArray := prog_5_method_3_code
abbrev yProposers_lastBallot : MethodName := ⟨"DecreePool$Proposers", "lastBallot", "(I)I"⟩
def wsProposers_lastBallot : List Cond := .code yProposers_lastBallot cProposers_lastBallot 2 (Option.some .int) :: WL
abbrev cPool_emptyPlaces : ByteArray := prog_4_method_4_code
abbrev yPool_emptyPlaces : MethodName := ⟨"DecreePool$Pool", "emptyPlaces", "()I"⟩
def wsPool_emptyPlaces : List Cond := .code yPool_emptyPlaces cPool_emptyPlaces 1 (Option.some .int) :: WL
abbrev cProposers_begin : ByteArray := prog_5_method_7_code
abbrev yProposers_begin : MethodName := ⟨"DecreePool$Proposers", "begin", "(III)V"⟩
def wsProposers_begin : List Cond := .code yProposers_begin cProposers_begin 4 (Option.none : Option ClassFile.FieldType) :: WL
abbrev cDecreePool_sendToAll : ByteArray := prog_1_method_27_code
abbrev yDecreePool_sendToAll : MethodName := ⟨"DecreePool", "sendToAll", "(IIIII)V"⟩
def wsDecreePool_sendToAll : List Cond := .code yDecreePool_sendToAll cDecreePool_sendToAll 7 (Option.none : Option ClassFile.FieldType) :: WL
abbrev cPool_send : ByteArray := prog_4_method_8_code
abbrev yPool_send : MethodName := ⟨"DecreePool$Pool", "send", "(IIIIIII)I"⟩
def wsPool_send : List Cond := .code yPool_send cPool_send 10 (Option.some .int) :: WL
abbrev cPool_leastEmpty : ByteArray := prog_4_method_10_code
abbrev yPool_leastEmpty : MethodName := ⟨"DecreePool$Pool", "leastEmpty", "()I"⟩
def wsPool_leastEmpty : List Cond := .code yPool_leastEmpty cPool_leastEmpty 2 (Option.some .int) :: WL
abbrev cPool_field : ByteArray := prog_4_method_6_code
abbrev yPool_field : MethodName := ⟨"DecreePool$Pool", "field", "(II)I"⟩
def wsPool_field : List Cond := .code yPool_field cPool_field 3 (Option.some .int) :: WL
abbrev cDecreePool_deliver : ByteArray := prog_1_method_3_code
abbrev yDecreePool_deliver : MethodName := ⟨"DecreePool", "deliver", "(I)I"⟩
def wsDecreePool_deliver : List Cond := .code yDecreePool_deliver cDecreePool_deliver 2 (Option.some .int) :: WL
abbrev cPool_holds : ByteArray := prog_4_method_5_code
abbrev yPool_holds : MethodName := ⟨"DecreePool$Pool", "holds", "(I)Z"⟩
def wsPool_holds : List Cond := .code yPool_holds cPool_holds 2 (Option.some .boolean) :: WL
abbrev cDecreePool_isDeliverable : ByteArray := prog_1_method_29_code
abbrev yDecreePool_isDeliverable : MethodName := ⟨"DecreePool", "isDeliverable", "(I)Z"⟩
def wsDecreePool_isDeliverable : List Cond := .code yDecreePool_isDeliverable cDecreePool_isDeliverable 2 (Option.some .boolean) :: WL
abbrev cDecreePool_isAnsweredToAll : ByteArray := prog_1_method_30_code
abbrev yDecreePool_isAnsweredToAll : MethodName := ⟨"DecreePool", "isAnsweredToAll", "(I)Z"⟩
def wsDecreePool_isAnsweredToAll : List Cond := .code yDecreePool_isAnsweredToAll cDecreePool_isAnsweredToAll 5 (Option.some .boolean) :: WL
abbrev cProposers_wouldWin : ByteArray := prog_5_method_9_code
abbrev yProposers_wouldWin : MethodName := ⟨"DecreePool$Proposers", "wouldWin", "(III)Z"⟩
def wsProposers_wouldWin : List Cond := .code yProposers_wouldWin cProposers_wouldWin 4 (Option.some .boolean) :: WL
abbrev cProposers_awaits : ByteArray := prog_5_method_11_code
abbrev yProposers_awaits : MethodName := ⟨"DecreePool$Proposers", "awaits", "(II)Z"⟩
def wsProposers_awaits : List Cond := .code yProposers_awaits cProposers_awaits 3 (Option.some .boolean) :: WL
abbrev cInteger_bitCount : ByteArray := prog_8_method_49_code
abbrev yInteger_bitCount : MethodName := ⟨"java/lang/Integer", "bitCount", "(I)I"⟩
def wsInteger_bitCount : List Cond := .code yInteger_bitCount cInteger_bitCount 1 (Option.some .int) :: WL
abbrev cDecreePool_isMajority : ByteArray := prog_1_method_20_code
abbrev yDecreePool_isMajority : MethodName := ⟨"DecreePool", "isMajority", "(II)Z"⟩
def wsDecreePool_isMajority : List Cond := .code yDecreePool_isMajority cDecreePool_isMajority 2 (Option.some .boolean) :: WL
abbrev cAcceptors_wouldAccept : ByteArray := prog_2_method_6_code
abbrev yAcceptors_wouldAccept : MethodName := ⟨"DecreePool$Acceptors", "wouldAccept", "(II)Z"⟩
def wsAcceptors_wouldAccept : List Cond := .code yAcceptors_wouldAccept cAcceptors_wouldAccept 3 (Option.some .boolean) :: WL
abbrev cDecreePool_handOver : ByteArray := prog_1_method_31_code
abbrev yDecreePool_handOver : MethodName := ⟨"DecreePool", "handOver", "(I)I"⟩
def wsDecreePool_handOver : List Cond := .code yDecreePool_handOver cDecreePool_handOver 10 (Option.some .int) :: WL
abbrev cPool_takeOut : ByteArray := prog_4_method_7_code
abbrev yPool_takeOut : MethodName := ⟨"DecreePool$Pool", "takeOut", "(I)V"⟩
def wsPool_takeOut : List Cond := .code yPool_takeOut cPool_takeOut 2 (Option.none : Option ClassFile.FieldType) :: WL
abbrev cAcceptors_promise : ByteArray := prog_2_method_5_code
abbrev yAcceptors_promise : MethodName := ⟨"DecreePool$Acceptors", "promise", "(II)Z"⟩
def wsAcceptors_promise : List Cond := .code yAcceptors_promise cAcceptors_promise 3 (Option.some .boolean) :: WL
abbrev cAcceptors_acceptedValue : ByteArray := prog_2_method_4_code
abbrev yAcceptors_acceptedValue : MethodName := ⟨"DecreePool$Acceptors", "acceptedValue", "(I)I"⟩
def wsAcceptors_acceptedValue : List Cond := .code yAcceptors_acceptedValue cAcceptors_acceptedValue 2 (Option.some .int) :: WL
abbrev cAcceptors_acceptedBallot : ByteArray := prog_2_method_3_code
abbrev yAcceptors_acceptedBallot : MethodName := ⟨"DecreePool$Acceptors", "acceptedBallot", "(I)I"⟩
def wsAcceptors_acceptedBallot : List Cond := .code yAcceptors_acceptedBallot cAcceptors_acceptedBallot 2 (Option.some .int) :: WL
abbrev cProposers_takePromise : ByteArray := prog_5_method_10_code
abbrev yProposers_takePromise : MethodName := ⟨"DecreePool$Proposers", "takePromise", "(IIIII)Z"⟩
def wsProposers_takePromise : List Cond := .code yProposers_takePromise cProposers_takePromise 6 (Option.some .boolean) :: WL
abbrev cProposers_promises : ByteArray := prog_5_method_4_code
abbrev yProposers_promises : MethodName := ⟨"DecreePool$Proposers", "promises", "(I)I"⟩
def wsProposers_promises : List Cond := .code yProposers_promises cProposers_promises 2 (Option.some .int) :: WL
abbrev cProposers_value : ByteArray := prog_5_method_6_code
abbrev yProposers_value : MethodName := ⟨"DecreePool$Proposers", "value", "(I)I"⟩
def wsProposers_value : List Cond := .code yProposers_value cProposers_value 2 (Option.some .int) :: WL
abbrev cAcceptors_accept : ByteArray := prog_2_method_7_code
abbrev yAcceptors_accept : MethodName := ⟨"DecreePool$Acceptors", "accept", "(III)Z"⟩
def wsAcceptors_accept : List Cond := .code yAcceptors_accept cAcceptors_accept 4 (Option.some .boolean) :: WL
abbrev cLearners_hear : ByteArray := prog_3_method_5_code
abbrev yLearners_hear : MethodName := ⟨"DecreePool$Learners", "hear", "(IIII)V"⟩
def wsLearners_hear : List Cond := .code yLearners_hear cLearners_hear 5 (Option.none : Option ClassFile.FieldType) :: WL
abbrev cLearners_ballotOf : ByteArray := prog_3_method_2_code
abbrev yLearners_ballotOf : MethodName := ⟨"DecreePool$Learners", "ballotOf", "(II)I"⟩
def wsLearners_ballotOf : List Cond := .code yLearners_ballotOf cLearners_ballotOf 3 (Option.some .int) :: WL
abbrev cLearners_nodesHeardWith : ByteArray := prog_3_method_7_code
abbrev yLearners_nodesHeardWith : MethodName := ⟨"DecreePool$Learners", "nodesHeardWith", "(II)I"⟩
def wsLearners_nodesHeardWith : List Cond := .code yLearners_nodesHeardWith cLearners_nodesHeardWith 5 (Option.some .int) :: WL
abbrev cLearners_learn : ByteArray := prog_3_method_6_code
abbrev yLearners_learn : MethodName := ⟨"DecreePool$Learners", "learn", "(II)V"⟩
def wsLearners_learn : List Cond := .code yLearners_learn cLearners_learn 3 (Option.none : Option ClassFile.FieldType) :: WL
abbrev cDecreePool_sweep : ByteArray := prog_1_method_4_code
abbrev yDecreePool_sweep : MethodName := ⟨"DecreePool", "sweep", "(I)I"⟩
def wsDecreePool_sweep : List Cond := .code yDecreePool_sweep cDecreePool_sweep 4 (Option.some .int) :: WL
abbrev cDecreePool_leastDeliverable : ByteArray := prog_1_method_28_code
abbrev yDecreePool_leastDeliverable : MethodName := ⟨"DecreePool", "leastDeliverable", "()I"⟩
def wsDecreePool_leastDeliverable : List Cond := .code yDecreePool_leastDeliverable cDecreePool_leastDeliverable 2 (Option.some .int) :: WL
abbrev cPool_places : ByteArray := prog_4_method_2_code
abbrev yPool_places : MethodName := ⟨"DecreePool$Pool", "places", "()I"⟩
def wsPool_places : List Cond := .code yPool_places cPool_places 1 (Option.some .int) :: WL
abbrev cDecreePool_drop : ByteArray := prog_1_method_5_code
abbrev yDecreePool_drop : MethodName := ⟨"DecreePool", "drop", "(I)I"⟩
def wsDecreePool_drop : List Cond := .code yDecreePool_drop cDecreePool_drop 3 (Option.some .int) :: WL
abbrev cDecreePool_duplicate : ByteArray := prog_1_method_6_code
abbrev yDecreePool_duplicate : MethodName := ⟨"DecreePool", "duplicate", "(I)I"⟩
def wsDecreePool_duplicate : List Cond := .code yDecreePool_duplicate cDecreePool_duplicate 3 (Option.some .int) :: WL
abbrev cPool_sendCopy : ByteArray := prog_4_method_9_code
abbrev yPool_sendCopy : MethodName := ⟨"DecreePool$Pool", "sendCopy", "(I)I"⟩
def wsPool_sendCopy : List Cond := .code yPool_sendCopy cPool_sendCopy 2 (Option.some .int) :: WL
abbrev cDecreePool_crash : ByteArray := prog_1_method_7_code
abbrev yDecreePool_crash : MethodName := ⟨"DecreePool", "crash", "(I)I"⟩
def wsDecreePool_crash : List Cond := .code yDecreePool_crash cDecreePool_crash 2 (Option.some .int) :: WL
abbrev cDecreePool_restart : ByteArray := prog_1_method_8_code
abbrev yDecreePool_restart : MethodName := ⟨"DecreePool", "restart", "(I)I"⟩
def wsDecreePool_restart : List Cond := .code yDecreePool_restart cDecreePool_restart 4 (Option.some .int) :: WL
abbrev cProposers_comeBack : ByteArray := prog_5_method_8_code
abbrev yProposers_comeBack : MethodName := ⟨"DecreePool$Proposers", "comeBack", "(I)V"⟩
def wsProposers_comeBack : List Cond := .code yProposers_comeBack cProposers_comeBack 2 (Option.none : Option ClassFile.FieldType) :: WL
abbrev cLearners_comeBack : ByteArray := prog_3_method_4_code
abbrev yLearners_comeBack : MethodName := ⟨"DecreePool$Learners", "comeBack", "(I)V"⟩
def wsLearners_comeBack : List Cond := .code yLearners_comeBack cLearners_comeBack 3 (Option.none : Option ClassFile.FieldType) :: WL
abbrev cDecreePool_tell : ByteArray := prog_1_method_9_code
abbrev yDecreePool_tell : MethodName := ⟨"DecreePool", "tell", "(II)I"⟩
def wsDecreePool_tell : List Cond := .code yDecreePool_tell cDecreePool_tell 4 (Option.some .int) :: WL
abbrev cLearners_decree : ByteArray := prog_3_method_3_code
abbrev yLearners_decree : MethodName := ⟨"DecreePool$Learners", "decree", "(I)I"⟩
def wsLearners_decree : List Cond := .code yLearners_decree cLearners_decree 2 (Option.some .int) :: WL
abbrev cDecreePool_learned : ByteArray := prog_1_method_10_code
abbrev yDecreePool_learned : MethodName := ⟨"DecreePool", "learned", "(II)I"⟩
def wsDecreePool_learned : List Cond := .code yDecreePool_learned cDecreePool_learned 3 (Option.some .int) :: WL
abbrev cDecreePool_acceptor : ByteArray := prog_1_method_11_code
abbrev yDecreePool_acceptor : MethodName := ⟨"DecreePool", "acceptor", "(III)I"⟩
def wsDecreePool_acceptor : List Cond := .code yDecreePool_acceptor cDecreePool_acceptor 5 (Option.some .int) :: WL
abbrev cAcceptors_promisedBallot : ByteArray := prog_2_method_2_code
abbrev yAcceptors_promisedBallot : MethodName := ⟨"DecreePool$Acceptors", "promisedBallot", "(I)I"⟩
def wsAcceptors_promisedBallot : List Cond := .code yAcceptors_promisedBallot cAcceptors_promisedBallot 2 (Option.some .int) :: WL
abbrev cDecreePool_proposer : ByteArray := prog_1_method_12_code
abbrev yDecreePool_proposer : MethodName := ⟨"DecreePool", "proposer", "(III)I"⟩
def wsDecreePool_proposer : List Cond := .code yDecreePool_proposer cDecreePool_proposer 5 (Option.some .int) :: WL
abbrev cProposers_phase : ByteArray := prog_5_method_2_code
abbrev yProposers_phase : MethodName := ⟨"DecreePool$Proposers", "phase", "(I)I"⟩
def wsProposers_phase : List Cond := .code yProposers_phase cProposers_phase 2 (Option.some .int) :: WL
abbrev cProposers_bestBallot : ByteArray := prog_5_method_5_code
abbrev yProposers_bestBallot : MethodName := ⟨"DecreePool$Proposers", "bestBallot", "(I)I"⟩
def wsProposers_bestBallot : List Cond := .code yProposers_bestBallot cProposers_bestBallot 2 (Option.some .int) :: WL
abbrev cDecreePool_heard : ByteArray := prog_1_method_13_code
abbrev yDecreePool_heard : MethodName := ⟨"DecreePool", "heard", "(III)I"⟩
def wsDecreePool_heard : List Cond := .code yDecreePool_heard cDecreePool_heard 4 (Option.some .int) :: WL
abbrev cDecreePool_message : ByteArray := prog_1_method_14_code
abbrev yDecreePool_message : MethodName := ⟨"DecreePool", "message", "(II)I"⟩
def wsDecreePool_message : List Cond := .code yDecreePool_message cDecreePool_message 3 (Option.some .int) :: WL
abbrev cDecreePool_chosen : ByteArray := prog_1_method_15_code
abbrev yDecreePool_chosen : MethodName := ⟨"DecreePool", "chosen", "(I)I"⟩
def wsDecreePool_chosen : List Cond := .code yDecreePool_chosen cDecreePool_chosen 2 (Option.some .int) :: WL
abbrev cAcceptors_majorityValue : ByteArray := prog_2_method_8_code
abbrev yAcceptors_majorityValue : MethodName := ⟨"DecreePool$Acceptors", "majorityValue", "(I)I"⟩
def wsAcceptors_majorityValue : List Cond := .code yAcceptors_majorityValue cAcceptors_majorityValue 4 (Option.some .int) :: WL
abbrev cAcceptors_acceptorsOf : ByteArray := prog_2_method_9_code
abbrev yAcceptors_acceptorsOf : MethodName := ⟨"DecreePool$Acceptors", "acceptorsOf", "(II)I"⟩
def wsAcceptors_acceptorsOf : List Cond := .code yAcceptors_acceptorsOf cAcceptors_acceptorsOf 5 (Option.some .int) :: WL
abbrev cDecreePool_pfx : ByteArray := prog_1_method_16_code
abbrev yDecreePool_pfx : MethodName := ⟨"DecreePool", "prefix", "(I)I"⟩
def wsDecreePool_pfx : List Cond := .code yDecreePool_pfx cDecreePool_pfx 2 (Option.some .int) :: WL
abbrev cDecreePool_prefixLength : ByteArray := prog_1_method_26_code
abbrev yDecreePool_prefixLength : MethodName := ⟨"DecreePool", "prefixLength", "(I)I"⟩
def wsDecreePool_prefixLength : List Cond := .code yDecreePool_prefixLength cDecreePool_prefixLength 3 (Option.some .int) :: WL
abbrev cDecreePool_applied : ByteArray := prog_1_method_17_code
abbrev yDecreePool_applied : MethodName := ⟨"DecreePool", "applied", "(I)J"⟩
def wsDecreePool_applied : List Cond := .code yDecreePool_applied cDecreePool_applied 7 (Option.some .long) :: WL
abbrev cDecreePool_count : ByteArray := prog_1_method_18_code
abbrev yDecreePool_count : MethodName := ⟨"DecreePool", "count", "(I)I"⟩
def wsDecreePool_count : List Cond := .code yDecreePool_count cDecreePool_count 2 (Option.some .int) :: WL
abbrev cPool_messages : ByteArray := prog_4_method_3_code
abbrev yPool_messages : MethodName := ⟨"DecreePool$Pool", "messages", "()I"⟩
def wsPool_messages : List Cond := .code yPool_messages cPool_messages 1 (Option.some .int) :: WL
abbrev cLaw_cell : ByteArray := method_2_code
abbrev yLaw_cell : MethodName := ⟨"DecreePoolLaw", "cell", "([II)I"⟩
def wsLaw_cell : List Cond := .code yLaw_cell cLaw_cell 2 (Option.some .int) :: WL
abbrev cModel_init : ByteArray := prog_7_method_1_code
abbrev yModel_init : MethodName := ⟨"DecreePoolModel", "<init>", "(III)V"⟩
def wsModel_init : List Cond := .code yModel_init cModel_init 5 (Option.none : Option ClassFile.FieldType) :: WL
abbrev cModel_prepare : ByteArray := prog_7_method_9_code
abbrev yModel_prepare : MethodName := ⟨"DecreePoolModel", "prepare", "(IIII)I"⟩
def wsModel_prepare : List Cond := .code yModel_prepare cModel_prepare 7 (Option.some .int) :: WL
abbrev cModel_isNode : ByteArray := prog_7_method_2_code
abbrev yModel_isNode : MethodName := ⟨"DecreePoolModel", "isNode", "(I)Z"⟩
def wsModel_isNode : List Cond := .code yModel_isNode cModel_isNode 2 (Option.some .boolean) :: WL
abbrev cModel_isSlot : ByteArray := prog_7_method_3_code
abbrev yModel_isSlot : MethodName := ⟨"DecreePoolModel", "isSlot", "(I)Z"⟩
def wsModel_isSlot : List Cond := .code yModel_isSlot cModel_isSlot 2 (Option.some .boolean) :: WL
abbrev cModel_empty : ByteArray := prog_7_method_6_code
abbrev yModel_empty : MethodName := ⟨"DecreePoolModel", "empty", "()I"⟩
def wsModel_empty : List Cond := .code yModel_empty cModel_empty 3 (Option.some .int) :: WL
abbrev cModel_sendAll : ByteArray := prog_7_method_8_code
abbrev yModel_sendAll : MethodName := ⟨"DecreePoolModel", "sendAll", "(IIIII)V"⟩
def wsModel_sendAll : List Cond := .code yModel_sendAll cModel_sendAll 8 (Option.none : Option ClassFile.FieldType) :: WL
abbrev cModel_send : ByteArray := prog_7_method_7_code
abbrev yModel_send : MethodName := ⟨"DecreePoolModel", "send", "(IIIIIII)I"⟩
def wsModel_send : List Cond := .code yModel_send cModel_send 9 (Option.some .int) :: WL
abbrev cModel_deliver : ByteArray := prog_7_method_18_code
abbrev yModel_deliver : MethodName := ⟨"DecreePoolModel", "deliver", "(I)I"⟩
def wsModel_deliver : List Cond := .code yModel_deliver cModel_deliver 4 (Option.some .int) :: WL
abbrev cModel_isMessage : ByteArray := prog_7_method_4_code
abbrev yModel_isMessage : MethodName := ⟨"DecreePoolModel", "isMessage", "(I)Z"⟩
def wsModel_isMessage : List Cond := .code yModel_isMessage cModel_isMessage 2 (Option.some .boolean) :: WL
abbrev cModel_sends : ByteArray := prog_7_method_13_code
abbrev yModel_sends : MethodName := ⟨"DecreePoolModel", "sends", "(I)I"⟩
def wsModel_sends : List Cond := .code yModel_sends cModel_sends 3 (Option.some .int) :: WL
abbrev cModel_isAwaited : ByteArray := prog_7_method_11_code
abbrev yModel_isAwaited : MethodName := ⟨"DecreePoolModel", "isAwaited", "(I)Z"⟩
def wsModel_isAwaited : List Cond := .code yModel_isAwaited cModel_isAwaited 3 (Option.some .boolean) :: WL
abbrev cModel_withPromise : ByteArray := prog_7_method_12_code
abbrev yModel_withPromise : MethodName := ⟨"DecreePoolModel", "withPromise", "(I)I"⟩
def wsModel_withPromise : List Cond := .code yModel_withPromise cModel_withPromise 2 (Option.some .int) :: WL
abbrev cModel_bits : ByteArray := prog_7_method_10_code
abbrev yModel_bits : MethodName := ⟨"DecreePoolModel", "bits", "(I)I"⟩
def wsModel_bits : List Cond := .code yModel_bits cModel_bits 3 (Option.some .int) :: WL
abbrev cModel_isMajority : ByteArray := prog_7_method_5_code
abbrev yModel_isMajority : MethodName := ⟨"DecreePoolModel", "isMajority", "(I)Z"⟩
def wsModel_isMajority : List Cond := .code yModel_isMajority cModel_isMajority 2 (Option.some .boolean) :: WL
abbrev cModel_take : ByteArray := prog_7_method_17_code
abbrev yModel_take : MethodName := ⟨"DecreePoolModel", "take", "(II)V"⟩
def wsModel_take : List Cond := .code yModel_take cModel_take 9 (Option.none : Option ClassFile.FieldType) :: WL
abbrev cModel_promise : ByteArray := prog_7_method_14_code
abbrev yModel_promise : MethodName := ⟨"DecreePoolModel", "promise", "(I)V"⟩
def wsModel_promise : List Cond := .code yModel_promise cModel_promise 3 (Option.none : Option ClassFile.FieldType) :: WL
abbrev cModel_hear : ByteArray := prog_7_method_15_code
abbrev yModel_hear : MethodName := ⟨"DecreePoolModel", "hear", "(I)V"⟩
def wsModel_hear : List Cond := .code yModel_hear cModel_hear 6 (Option.none : Option ClassFile.FieldType) :: WL
abbrev cModel_learn : ByteArray := prog_7_method_16_code
abbrev yModel_learn : MethodName := ⟨"DecreePoolModel", "learn", "(III)V"⟩
def wsModel_learn : List Cond := .code yModel_learn cModel_learn 5 (Option.none : Option ClassFile.FieldType) :: WL
abbrev cModel_sweep : ByteArray := prog_7_method_19_code
abbrev yModel_sweep : MethodName := ⟨"DecreePoolModel", "sweep", "(I)I"⟩
def wsModel_sweep : List Cond := .code yModel_sweep cModel_sweep 4 (Option.some .int) :: WL
abbrev cModel_drop : ByteArray := prog_7_method_20_code
abbrev yModel_drop : MethodName := ⟨"DecreePoolModel", "drop", "(I)I"⟩
def wsModel_drop : List Cond := .code yModel_drop cModel_drop 3 (Option.some .int) :: WL
abbrev cModel_duplicate : ByteArray := prog_7_method_21_code
abbrev yModel_duplicate : MethodName := ⟨"DecreePoolModel", "duplicate", "(I)I"⟩
def wsModel_duplicate : List Cond := .code yModel_duplicate cModel_duplicate 2 (Option.some .int) :: WL
abbrev cModel_crash : ByteArray := prog_7_method_23_code
abbrev yModel_crash : MethodName := ⟨"DecreePoolModel", "crash", "(I)I"⟩
def wsModel_crash : List Cond := .code yModel_crash cModel_crash 2 (Option.some .int) :: WL
abbrev cModel_up : ByteArray := prog_7_method_22_code
abbrev yModel_up : MethodName := ⟨"DecreePoolModel", "up", "()I"⟩
def wsModel_up : List Cond := .code yModel_up cModel_up 3 (Option.some .int) :: WL
abbrev cModel_restart : ByteArray := prog_7_method_24_code
abbrev yModel_restart : MethodName := ⟨"DecreePoolModel", "restart", "(I)I"⟩
def wsModel_restart : List Cond := .code yModel_restart cModel_restart 4 (Option.some .int) :: WL
abbrev cModel_tell : ByteArray := prog_7_method_25_code
abbrev yModel_tell : MethodName := ⟨"DecreePoolModel", "tell", "(II)I"⟩
def wsModel_tell : List Cond := .code yModel_tell cModel_tell 3 (Option.some .int) :: WL
abbrev cModel_learned : ByteArray := prog_7_method_26_code
abbrev yModel_learned : MethodName := ⟨"DecreePoolModel", "learned", "(II)I"⟩
def wsModel_learned : List Cond := .code yModel_learned cModel_learned 3 (Option.some .int) :: WL
abbrev cModel_acceptor : ByteArray := prog_7_method_27_code
abbrev yModel_acceptor : MethodName := ⟨"DecreePoolModel", "acceptor", "(III)I"⟩
def wsModel_acceptor : List Cond := .code yModel_acceptor cModel_acceptor 5 (Option.some .int) :: WL
abbrev cModel_proposer : ByteArray := prog_7_method_28_code
abbrev yModel_proposer : MethodName := ⟨"DecreePoolModel", "proposer", "(III)I"⟩
def wsModel_proposer : List Cond := .code yModel_proposer cModel_proposer 6 (Option.some .int) :: WL
abbrev cModel_heard : ByteArray := prog_7_method_29_code
abbrev yModel_heard : MethodName := ⟨"DecreePoolModel", "heard", "(III)I"⟩
def wsModel_heard : List Cond := .code yModel_heard cModel_heard 4 (Option.some .int) :: WL
abbrev cModel_message : ByteArray := prog_7_method_30_code
abbrev yModel_message : MethodName := ⟨"DecreePoolModel", "message", "(II)I"⟩
def wsModel_message : List Cond := .code yModel_message cModel_message 3 (Option.some .int) :: WL
abbrev cModel_chosen : ByteArray := prog_7_method_31_code
abbrev yModel_chosen : MethodName := ⟨"DecreePoolModel", "chosen", "(I)I"⟩
def wsModel_chosen : List Cond := .code yModel_chosen cModel_chosen 6 (Option.some .int) :: WL
abbrev cModel_pfx : ByteArray := prog_7_method_32_code
abbrev yModel_pfx : MethodName := ⟨"DecreePoolModel", "prefix", "(I)I"⟩
def wsModel_pfx : List Cond := .code yModel_pfx cModel_pfx 3 (Option.some .int) :: WL
abbrev cModel_applied : ByteArray := prog_7_method_33_code
abbrev yModel_applied : MethodName := ⟨"DecreePoolModel", "applied", "(I)J"⟩
def wsModel_applied : List Cond := .code yModel_applied cModel_applied 7 (Option.some .long) :: WL
abbrev cModel_count : ByteArray := prog_7_method_34_code
abbrev yModel_count : MethodName := ⟨"DecreePoolModel", "count", "(I)I"⟩
def wsModel_count : List Cond := .code yModel_count cModel_count 4 (Option.some .int) :: WL
end
section
theorem wd0 : Cond.initialized "DecreePoolLaw" ∈ WL := WL_t 0 (by decide +kernel) rfl
theorem wd1 : Cond.initialized "DecreePool" ∈ WL := WL_t 1 (by decide +kernel) rfl
theorem wd2 : Cond.initialized "DecreePool$Pool" ∈ WL := WL_t 2 (by decide +kernel) rfl
theorem wd3 : Cond.initialized "DecreePool$Proposers" ∈ WL := WL_t 3 (by decide +kernel) rfl
theorem wd4 : Cond.initialized "java/util/Arrays" ∈ WL := WL_t 4 (by decide +kernel) rfl
theorem wd5 : Cond.initialized "DecreePool$Acceptors" ∈ WL := WL_t 5 (by decide +kernel) rfl
theorem wd6 : Cond.initialized "DecreePool$Learners" ∈ WL := WL_t 6 (by decide +kernel) rfl
theorem wd7 : Cond.initialized "DecreePoolModel" ∈ WL := WL_t 7 (by decide +kernel) rfl
theorem wd8 : Cond.initialized "java/lang/Integer" ∈ WL := WL_t 8 (by decide +kernel) rfl
theorem wd9 : Cond.classLink "DecreePoolLaw" 7 "DecreePool" ∈ WL := WL_t 9 (by decide +kernel) rfl
theorem wd10 : Cond.instantiable "DecreePool" 9 ∈ WL := WL_t 10 (by decide +kernel) rfl
theorem wd11 : Cond.methodLink "DecreePoolLaw" 15 ⟨"DecreePool", "<init>", "(III)V"⟩ ∈ WL := WL_t 11 (by decide +kernel) rfl
theorem wd12 : Cond.instanceMethod ⟨"DecreePool", "<init>", "(III)V"⟩ ∈ WL := WL_t 12 (by decide +kernel) rfl
theorem wd13 : Cond.code ⟨"DecreePool", "<init>", "(III)V"⟩ prog_1_method_1_code 4 (Option.none : Option ClassFile.FieldType) ∈ WL := WL_t 13 (by decide +kernel) rfl
theorem wd14 : Cond.methodLink "DecreePool" 1 ⟨"java/lang/Object", "<init>", "()V"⟩ ∈ WL := WL_t 14 (by decide +kernel) rfl
theorem wd15 : Cond.instanceMethod ⟨"java/lang/Object", "<init>", "()V"⟩ ∈ WL := WL_t 15 (by decide +kernel) rfl
theorem wd16 : Cond.code ⟨"java/lang/Object", "<init>", "()V"⟩ object_method_1_code 1 (Option.none : Option ClassFile.FieldType) ∈ WL := WL_t 16 (by decide +kernel) rfl
theorem wd17 : Cond.methodLink "DecreePool" 7 ⟨"DecreePool", "isWithin", "(III)Z"⟩ ∈ WL := WL_t 17 (by decide +kernel) rfl
theorem wd18 : Cond.static ⟨"DecreePool", "isWithin", "(III)Z"⟩ ∈ WL := WL_t 18 (by decide +kernel) rfl
theorem wd19 : Cond.code ⟨"DecreePool", "isWithin", "(III)Z"⟩ prog_1_method_19_code 3 (Option.some .boolean) ∈ WL := WL_t 19 (by decide +kernel) rfl
theorem wd20 : Cond.classLink "DecreePool" 20 "DecreePool$Pool" ∈ WL := WL_t 20 (by decide +kernel) rfl
theorem wd21 : Cond.instantiable "DecreePool$Pool" 3 ∈ WL := WL_t 21 (by decide +kernel) rfl
theorem wd22 : Cond.methodLink "DecreePool" 22 ⟨"DecreePool$Pool", "<init>", "(I)V"⟩ ∈ WL := WL_t 22 (by decide +kernel) rfl
theorem wd23 : Cond.instanceMethod ⟨"DecreePool$Pool", "<init>", "(I)V"⟩ ∈ WL := WL_t 23 (by decide +kernel) rfl
theorem wd24 : Cond.code ⟨"DecreePool$Pool", "<init>", "(I)V"⟩ prog_4_method_1_code 2 (Option.none : Option ClassFile.FieldType) ∈ WL := WL_t 24 (by decide +kernel) rfl
theorem wd25 : Cond.methodLink "DecreePool$Pool" 3 ⟨"java/lang/Object", "<init>", "()V"⟩ ∈ WL := WL_t 25 (by decide +kernel) rfl
theorem wd26 : Cond.fieldLink "DecreePool$Pool" 9 "DecreePool$Pool" "places" "I" ∈ WL := WL_t 26 (by decide +kernel) rfl
theorem wd27 : Cond.fieldLink "DecreePool$Pool" 15 "DecreePool$Pool" "rows" "[I" ∈ WL := WL_t 27 (by decide +kernel) rfl
theorem wd28 : Cond.fieldLink "DecreePool$Pool" 19 "DecreePool$Pool" "messages" "I" ∈ WL := WL_t 28 (by decide +kernel) rfl
theorem wd29 : Cond.laysFinal "DecreePool$Pool" "DecreePool$Pool" "places" "I" ∈ WL := WL_t 29 (by decide +kernel) rfl
theorem wd31 : Cond.laysFinal "DecreePool$Pool" "DecreePool$Pool" "rows" "[I" ∈ WL := WL_t 31 (by decide +kernel) rfl
theorem wd33 : Cond.lays "DecreePool$Pool" "DecreePool$Pool" "messages" "I" ∈ WL := WL_t 33 (by decide +kernel) rfl
theorem wd36 : Cond.arrayClass .int ∈ WL := WL_t 36 (by decide +kernel) rfl
theorem wd37 : Cond.classLink "DecreePool" 29 "DecreePool$Proposers" ∈ WL := WL_t 37 (by decide +kernel) rfl
theorem wd38 : Cond.instantiable "DecreePool$Proposers" 6 ∈ WL := WL_t 38 (by decide +kernel) rfl
theorem wd39 : Cond.methodLink "DecreePool" 31 ⟨"DecreePool$Proposers", "<init>", "(II)V"⟩ ∈ WL := WL_t 39 (by decide +kernel) rfl
theorem wd40 : Cond.instanceMethod ⟨"DecreePool$Proposers", "<init>", "(II)V"⟩ ∈ WL := WL_t 40 (by decide +kernel) rfl
theorem wd41 : Cond.code ⟨"DecreePool$Proposers", "<init>", "(II)V"⟩ prog_5_method_1_code 4 (Option.none : Option ClassFile.FieldType) ∈ WL := WL_t 41 (by decide +kernel) rfl
theorem wd42 : Cond.methodLink "DecreePool$Proposers" 3 ⟨"java/lang/Object", "<init>", "()V"⟩ ∈ WL := WL_t 42 (by decide +kernel) rfl
theorem wd43 : Cond.methodLink "DecreePool$Proposers" 31 ⟨"java/util/Arrays", "fill", "([II)V"⟩ ∈ WL := WL_t 43 (by decide +kernel) rfl
theorem wd44 : Cond.static ⟨"java/util/Arrays", "fill", "([II)V"⟩ ∈ WL := WL_t 44 (by decide +kernel) rfl
theorem wd45 : Cond.code ⟨"java/util/Arrays", "fill", "([II)V"⟩ prog_9_method_103_code 4 (Option.none : Option ClassFile.FieldType) ∈ WL := WL_t 45 (by decide +kernel) rfl
theorem wd46 : Cond.fieldLink "DecreePool$Proposers" 9 "DecreePool$Proposers" "nodes" "I" ∈ WL := WL_t 46 (by decide +kernel) rfl
theorem wd47 : Cond.fieldLink "DecreePool$Proposers" 15 "DecreePool$Proposers" "phase" "[I" ∈ WL := WL_t 47 (by decide +kernel) rfl
theorem wd48 : Cond.fieldLink "DecreePool$Proposers" 19 "DecreePool$Proposers" "lastBallot" "[I" ∈ WL := WL_t 48 (by decide +kernel) rfl
theorem wd49 : Cond.fieldLink "DecreePool$Proposers" 22 "DecreePool$Proposers" "promisedBits" "[I" ∈ WL := WL_t 49 (by decide +kernel) rfl
theorem wd50 : Cond.fieldLink "DecreePool$Proposers" 25 "DecreePool$Proposers" "bestBallot" "[I" ∈ WL := WL_t 50 (by decide +kernel) rfl
theorem wd51 : Cond.fieldLink "DecreePool$Proposers" 28 "DecreePool$Proposers" "value" "[I" ∈ WL := WL_t 51 (by decide +kernel) rfl
theorem wd52 : Cond.laysFinal "DecreePool$Proposers" "DecreePool$Proposers" "nodes" "I" ∈ WL := WL_t 52 (by decide +kernel) rfl
theorem wd54 : Cond.laysFinal "DecreePool$Proposers" "DecreePool$Proposers" "phase" "[I" ∈ WL := WL_t 54 (by decide +kernel) rfl
theorem wd56 : Cond.laysFinal "DecreePool$Proposers" "DecreePool$Proposers" "lastBallot" "[I" ∈ WL := WL_t 56 (by decide +kernel) rfl
theorem wd58 : Cond.laysFinal "DecreePool$Proposers" "DecreePool$Proposers" "promisedBits" "[I" ∈ WL := WL_t 58 (by decide +kernel) rfl
theorem wd60 : Cond.laysFinal "DecreePool$Proposers" "DecreePool$Proposers" "bestBallot" "[I" ∈ WL := WL_t 60 (by decide +kernel) rfl
theorem wd62 : Cond.laysFinal "DecreePool$Proposers" "DecreePool$Proposers" "value" "[I" ∈ WL := WL_t 62 (by decide +kernel) rfl
theorem wd65 : Cond.classLink "DecreePool" 38 "DecreePool$Acceptors" ∈ WL := WL_t 65 (by decide +kernel) rfl
theorem wd66 : Cond.instantiable "DecreePool$Acceptors" 5 ∈ WL := WL_t 66 (by decide +kernel) rfl
theorem wd67 : Cond.methodLink "DecreePool" 40 ⟨"DecreePool$Acceptors", "<init>", "(II)V"⟩ ∈ WL := WL_t 67 (by decide +kernel) rfl
theorem wd68 : Cond.instanceMethod ⟨"DecreePool$Acceptors", "<init>", "(II)V"⟩ ∈ WL := WL_t 68 (by decide +kernel) rfl
theorem wd69 : Cond.code ⟨"DecreePool$Acceptors", "<init>", "(II)V"⟩ prog_2_method_1_code 4 (Option.none : Option ClassFile.FieldType) ∈ WL := WL_t 69 (by decide +kernel) rfl
theorem wd70 : Cond.methodLink "DecreePool$Acceptors" 3 ⟨"java/lang/Object", "<init>", "()V"⟩ ∈ WL := WL_t 70 (by decide +kernel) rfl
theorem wd71 : Cond.methodLink "DecreePool$Acceptors" 28 ⟨"java/util/Arrays", "fill", "([II)V"⟩ ∈ WL := WL_t 71 (by decide +kernel) rfl
theorem wd72 : Cond.fieldLink "DecreePool$Acceptors" 9 "DecreePool$Acceptors" "nodes" "I" ∈ WL := WL_t 72 (by decide +kernel) rfl
theorem wd73 : Cond.fieldLink "DecreePool$Acceptors" 15 "DecreePool$Acceptors" "slots" "I" ∈ WL := WL_t 73 (by decide +kernel) rfl
theorem wd74 : Cond.fieldLink "DecreePool$Acceptors" 18 "DecreePool$Acceptors" "promisedBallot" "[I" ∈ WL := WL_t 74 (by decide +kernel) rfl
theorem wd75 : Cond.fieldLink "DecreePool$Acceptors" 22 "DecreePool$Acceptors" "acceptedBallot" "[I" ∈ WL := WL_t 75 (by decide +kernel) rfl
theorem wd76 : Cond.fieldLink "DecreePool$Acceptors" 25 "DecreePool$Acceptors" "acceptedValue" "[I" ∈ WL := WL_t 76 (by decide +kernel) rfl
theorem wd77 : Cond.laysFinal "DecreePool$Acceptors" "DecreePool$Acceptors" "nodes" "I" ∈ WL := WL_t 77 (by decide +kernel) rfl
theorem wd79 : Cond.laysFinal "DecreePool$Acceptors" "DecreePool$Acceptors" "slots" "I" ∈ WL := WL_t 79 (by decide +kernel) rfl
theorem wd81 : Cond.laysFinal "DecreePool$Acceptors" "DecreePool$Acceptors" "promisedBallot" "[I" ∈ WL := WL_t 81 (by decide +kernel) rfl
theorem wd83 : Cond.laysFinal "DecreePool$Acceptors" "DecreePool$Acceptors" "acceptedBallot" "[I" ∈ WL := WL_t 83 (by decide +kernel) rfl
theorem wd85 : Cond.laysFinal "DecreePool$Acceptors" "DecreePool$Acceptors" "acceptedValue" "[I" ∈ WL := WL_t 85 (by decide +kernel) rfl
theorem wd88 : Cond.classLink "DecreePool" 45 "DecreePool$Learners" ∈ WL := WL_t 88 (by decide +kernel) rfl
theorem wd89 : Cond.instantiable "DecreePool$Learners" 3 ∈ WL := WL_t 89 (by decide +kernel) rfl
theorem wd90 : Cond.methodLink "DecreePool" 47 ⟨"DecreePool$Learners", "<init>", "(II)V"⟩ ∈ WL := WL_t 90 (by decide +kernel) rfl
theorem wd91 : Cond.instanceMethod ⟨"DecreePool$Learners", "<init>", "(II)V"⟩ ∈ WL := WL_t 91 (by decide +kernel) rfl
theorem wd92 : Cond.code ⟨"DecreePool$Learners", "<init>", "(II)V"⟩ prog_3_method_1_code 4 (Option.none : Option ClassFile.FieldType) ∈ WL := WL_t 92 (by decide +kernel) rfl
theorem wd93 : Cond.methodLink "DecreePool$Learners" 3 ⟨"java/lang/Object", "<init>", "()V"⟩ ∈ WL := WL_t 93 (by decide +kernel) rfl
theorem wd94 : Cond.methodLink "DecreePool$Learners" 22 ⟨"java/util/Arrays", "fill", "([II)V"⟩ ∈ WL := WL_t 94 (by decide +kernel) rfl
theorem wd95 : Cond.fieldLink "DecreePool$Learners" 9 "DecreePool$Learners" "nodes" "I" ∈ WL := WL_t 95 (by decide +kernel) rfl
theorem wd96 : Cond.fieldLink "DecreePool$Learners" 15 "DecreePool$Learners" "heardBallot" "[I" ∈ WL := WL_t 96 (by decide +kernel) rfl
theorem wd97 : Cond.fieldLink "DecreePool$Learners" 19 "DecreePool$Learners" "decree" "[I" ∈ WL := WL_t 97 (by decide +kernel) rfl
theorem wd98 : Cond.laysFinal "DecreePool$Learners" "DecreePool$Learners" "nodes" "I" ∈ WL := WL_t 98 (by decide +kernel) rfl
theorem wd100 : Cond.laysFinal "DecreePool$Learners" "DecreePool$Learners" "heardBallot" "[I" ∈ WL := WL_t 100 (by decide +kernel) rfl
theorem wd102 : Cond.laysFinal "DecreePool$Learners" "DecreePool$Learners" "decree" "[I" ∈ WL := WL_t 102 (by decide +kernel) rfl
theorem wd105 : Cond.fieldLink "DecreePool" 13 "DecreePool" "nodes" "I" ∈ WL := WL_t 105 (by decide +kernel) rfl
theorem wd106 : Cond.fieldLink "DecreePool" 17 "DecreePool" "slots" "I" ∈ WL := WL_t 106 (by decide +kernel) rfl
theorem wd107 : Cond.fieldLink "DecreePool" 25 "DecreePool" "pool" "LDecreePool$Pool;" ∈ WL := WL_t 107 (by decide +kernel) rfl
theorem wd108 : Cond.fieldLink "DecreePool" 34 "DecreePool" "proposers" "LDecreePool$Proposers;" ∈ WL := WL_t 108 (by decide +kernel) rfl
theorem wd109 : Cond.fieldLink "DecreePool" 41 "DecreePool" "acceptors" "LDecreePool$Acceptors;" ∈ WL := WL_t 109 (by decide +kernel) rfl
theorem wd110 : Cond.fieldLink "DecreePool" 48 "DecreePool" "learners" "LDecreePool$Learners;" ∈ WL := WL_t 110 (by decide +kernel) rfl
theorem wd111 : Cond.fieldLink "DecreePool" 52 "DecreePool" "upBits" "I" ∈ WL := WL_t 111 (by decide +kernel) rfl
theorem wd112 : Cond.fieldLink "DecreePool" 55 "DecreePool" "deliveries" "I" ∈ WL := WL_t 112 (by decide +kernel) rfl
theorem wd113 : Cond.fieldLink "DecreePool" 58 "DecreePool" "lost" "I" ∈ WL := WL_t 113 (by decide +kernel) rfl
theorem wd114 : Cond.laysFinal "DecreePool" "DecreePool" "nodes" "I" ∈ WL := WL_t 114 (by decide +kernel) rfl
theorem wd116 : Cond.laysFinal "DecreePool" "DecreePool" "slots" "I" ∈ WL := WL_t 116 (by decide +kernel) rfl
theorem wd118 : Cond.laysFinal "DecreePool" "DecreePool" "pool" "LDecreePool$Pool;" ∈ WL := WL_t 118 (by decide +kernel) rfl
theorem wd120 : Cond.laysFinal "DecreePool" "DecreePool" "proposers" "LDecreePool$Proposers;" ∈ WL := WL_t 120 (by decide +kernel) rfl
theorem wd122 : Cond.laysFinal "DecreePool" "DecreePool" "acceptors" "LDecreePool$Acceptors;" ∈ WL := WL_t 122 (by decide +kernel) rfl
theorem wd124 : Cond.laysFinal "DecreePool" "DecreePool" "learners" "LDecreePool$Learners;" ∈ WL := WL_t 124 (by decide +kernel) rfl
theorem wd126 : Cond.lays "DecreePool" "DecreePool" "upBits" "I" ∈ WL := WL_t 126 (by decide +kernel) rfl
theorem wd128 : Cond.lays "DecreePool" "DecreePool" "deliveries" "I" ∈ WL := WL_t 128 (by decide +kernel) rfl
theorem wd130 : Cond.lays "DecreePool" "DecreePool" "lost" "I" ∈ WL := WL_t 130 (by decide +kernel) rfl
theorem wd133 : Cond.methodLink "DecreePoolLaw" 21 ⟨"DecreePool", "prepare", "(IIII)I"⟩ ∈ WL := WL_t 133 (by decide +kernel) rfl
theorem wd134 : Cond.instanceMethod ⟨"DecreePool", "prepare", "(IIII)I"⟩ ∈ WL := WL_t 134 (by decide +kernel) rfl
theorem wd135 : Cond.selects "DecreePool" ⟨"DecreePool", "prepare", "(IIII)I"⟩ ⟨"DecreePool", "prepare", "(IIII)I"⟩ ∈ WL := WL_t 135 (by decide +kernel) rfl
theorem wd136 : Cond.code ⟨"DecreePool", "prepare", "(IIII)I"⟩ prog_1_method_2_code 7 (Option.some .int) ∈ WL := WL_t 136 (by decide +kernel) rfl
theorem wd137 : Cond.methodLink "DecreePool" 61 ⟨"DecreePool", "hasSeat", "(II)Z"⟩ ∈ WL := WL_t 137 (by decide +kernel) rfl
theorem wd139 : Cond.instanceMethod ⟨"DecreePool", "hasSeat", "(II)Z"⟩ ∈ WL := WL_t 139 (by decide +kernel) rfl
theorem wd140 : Cond.code ⟨"DecreePool", "hasSeat", "(II)Z"⟩ prog_1_method_23_code 3 (Option.some .boolean) ∈ WL := WL_t 140 (by decide +kernel) rfl
theorem wd141 : Cond.methodLink "DecreePool" 110 ⟨"DecreePool", "hasNode", "(I)Z"⟩ ∈ WL := WL_t 141 (by decide +kernel) rfl
theorem wd143 : Cond.instanceMethod ⟨"DecreePool", "hasNode", "(I)Z"⟩ ∈ WL := WL_t 143 (by decide +kernel) rfl
theorem wd144 : Cond.code ⟨"DecreePool", "hasNode", "(I)Z"⟩ prog_1_method_21_code 2 (Option.some .boolean) ∈ WL := WL_t 144 (by decide +kernel) rfl
theorem wd145 : Cond.methodLink "DecreePool" 149 ⟨"DecreePool", "hasSlot", "(I)Z"⟩ ∈ WL := WL_t 145 (by decide +kernel) rfl
theorem wd147 : Cond.instanceMethod ⟨"DecreePool", "hasSlot", "(I)Z"⟩ ∈ WL := WL_t 147 (by decide +kernel) rfl
theorem wd148 : Cond.code ⟨"DecreePool", "hasSlot", "(I)Z"⟩ prog_1_method_22_code 2 (Option.some .boolean) ∈ WL := WL_t 148 (by decide +kernel) rfl
theorem wd149 : Cond.methodLink "DecreePool" 65 ⟨"DecreePool", "isUp", "(I)Z"⟩ ∈ WL := WL_t 149 (by decide +kernel) rfl
theorem wd151 : Cond.instanceMethod ⟨"DecreePool", "isUp", "(I)Z"⟩ ∈ WL := WL_t 151 (by decide +kernel) rfl
theorem wd152 : Cond.code ⟨"DecreePool", "isUp", "(I)Z"⟩ prog_1_method_25_code 2 (Option.some .boolean) ∈ WL := WL_t 152 (by decide +kernel) rfl
theorem wd153 : Cond.methodLink "DecreePool" 69 ⟨"DecreePool", "seatOf", "(II)I"⟩ ∈ WL := WL_t 153 (by decide +kernel) rfl
theorem wd155 : Cond.instanceMethod ⟨"DecreePool", "seatOf", "(II)I"⟩ ∈ WL := WL_t 155 (by decide +kernel) rfl
theorem wd156 : Cond.code ⟨"DecreePool", "seatOf", "(II)I"⟩ prog_1_method_24_code 3 (Option.some .int) ∈ WL := WL_t 156 (by decide +kernel) rfl
theorem wd157 : Cond.methodLink "DecreePool" 73 ⟨"DecreePool$Proposers", "lastBallot", "(I)I"⟩ ∈ WL := WL_t 157 (by decide +kernel) rfl
theorem wd158 : Cond.instanceMethod ⟨"DecreePool$Proposers", "lastBallot", "(I)I"⟩ ∈ WL := WL_t 158 (by decide +kernel) rfl
theorem wd159 : Cond.selects "DecreePool$Proposers" ⟨"DecreePool$Proposers", "lastBallot", "(I)I"⟩ ⟨"DecreePool$Proposers", "lastBallot", "(I)I"⟩ ∈ WL := WL_t 159 (by decide +kernel) rfl
theorem wd160 : Cond.code ⟨"DecreePool$Proposers", "lastBallot", "(I)I"⟩ prog_5_method_3_code 2 (Option.some .int) ∈ WL := WL_t 160 (by decide +kernel) rfl
theorem wd161 : Cond.methodLink "DecreePool" 77 ⟨"DecreePool$Pool", "emptyPlaces", "()I"⟩ ∈ WL := WL_t 161 (by decide +kernel) rfl
theorem wd162 : Cond.instanceMethod ⟨"DecreePool$Pool", "emptyPlaces", "()I"⟩ ∈ WL := WL_t 162 (by decide +kernel) rfl
theorem wd163 : Cond.selects "DecreePool$Pool" ⟨"DecreePool$Pool", "emptyPlaces", "()I"⟩ ⟨"DecreePool$Pool", "emptyPlaces", "()I"⟩ ∈ WL := WL_t 163 (by decide +kernel) rfl
theorem wd164 : Cond.code ⟨"DecreePool$Pool", "emptyPlaces", "()I"⟩ prog_4_method_4_code 1 (Option.some .int) ∈ WL := WL_t 164 (by decide +kernel) rfl
theorem wd165 : Cond.methodLink "DecreePool" 81 ⟨"DecreePool$Proposers", "begin", "(III)V"⟩ ∈ WL := WL_t 165 (by decide +kernel) rfl
theorem wd166 : Cond.instanceMethod ⟨"DecreePool$Proposers", "begin", "(III)V"⟩ ∈ WL := WL_t 166 (by decide +kernel) rfl
theorem wd167 : Cond.selects "DecreePool$Proposers" ⟨"DecreePool$Proposers", "begin", "(III)V"⟩ ⟨"DecreePool$Proposers", "begin", "(III)V"⟩ ∈ WL := WL_t 167 (by decide +kernel) rfl
theorem wd168 : Cond.code ⟨"DecreePool$Proposers", "begin", "(III)V"⟩ prog_5_method_7_code 4 (Option.none : Option ClassFile.FieldType) ∈ WL := WL_t 168 (by decide +kernel) rfl
theorem wd169 : Cond.methodLink "DecreePool" 85 ⟨"DecreePool", "sendToAll", "(IIIII)V"⟩ ∈ WL := WL_t 169 (by decide +kernel) rfl
theorem wd171 : Cond.instanceMethod ⟨"DecreePool", "sendToAll", "(IIIII)V"⟩ ∈ WL := WL_t 171 (by decide +kernel) rfl
theorem wd172 : Cond.code ⟨"DecreePool", "sendToAll", "(IIIII)V"⟩ prog_1_method_27_code 7 (Option.none : Option ClassFile.FieldType) ∈ WL := WL_t 172 (by decide +kernel) rfl
theorem wd173 : Cond.methodLink "DecreePool" 164 ⟨"DecreePool$Pool", "send", "(IIIIIII)I"⟩ ∈ WL := WL_t 173 (by decide +kernel) rfl
theorem wd174 : Cond.instanceMethod ⟨"DecreePool$Pool", "send", "(IIIIIII)I"⟩ ∈ WL := WL_t 174 (by decide +kernel) rfl
theorem wd175 : Cond.selects "DecreePool$Pool" ⟨"DecreePool$Pool", "send", "(IIIIIII)I"⟩ ⟨"DecreePool$Pool", "send", "(IIIIIII)I"⟩ ∈ WL := WL_t 175 (by decide +kernel) rfl
theorem wd176 : Cond.code ⟨"DecreePool$Pool", "send", "(IIIIIII)I"⟩ prog_4_method_8_code 10 (Option.some .int) ∈ WL := WL_t 176 (by decide +kernel) rfl
theorem wd177 : Cond.methodLink "DecreePool$Pool" 30 ⟨"DecreePool$Pool", "leastEmpty", "()I"⟩ ∈ WL := WL_t 177 (by decide +kernel) rfl
theorem wd179 : Cond.instanceMethod ⟨"DecreePool$Pool", "leastEmpty", "()I"⟩ ∈ WL := WL_t 179 (by decide +kernel) rfl
theorem wd180 : Cond.code ⟨"DecreePool$Pool", "leastEmpty", "()I"⟩ prog_4_method_10_code 2 (Option.some .int) ∈ WL := WL_t 180 (by decide +kernel) rfl
theorem wd181 : Cond.methodLink "DecreePool$Pool" 26 ⟨"DecreePool$Pool", "field", "(II)I"⟩ ∈ WL := WL_t 181 (by decide +kernel) rfl
theorem wd182 : Cond.instanceMethod ⟨"DecreePool$Pool", "field", "(II)I"⟩ ∈ WL := WL_t 182 (by decide +kernel) rfl
theorem wd183 : Cond.selects "DecreePool$Pool" ⟨"DecreePool$Pool", "field", "(II)I"⟩ ⟨"DecreePool$Pool", "field", "(II)I"⟩ ∈ WL := WL_t 183 (by decide +kernel) rfl
theorem wd184 : Cond.code ⟨"DecreePool$Pool", "field", "(II)I"⟩ prog_4_method_6_code 3 (Option.some .int) ∈ WL := WL_t 184 (by decide +kernel) rfl
theorem wd185 : Cond.methodLink "DecreePoolLaw" 26 ⟨"DecreePool", "deliver", "(I)I"⟩ ∈ WL := WL_t 185 (by decide +kernel) rfl
theorem wd186 : Cond.instanceMethod ⟨"DecreePool", "deliver", "(I)I"⟩ ∈ WL := WL_t 186 (by decide +kernel) rfl
theorem wd187 : Cond.selects "DecreePool" ⟨"DecreePool", "deliver", "(I)I"⟩ ⟨"DecreePool", "deliver", "(I)I"⟩ ∈ WL := WL_t 187 (by decide +kernel) rfl
theorem wd188 : Cond.code ⟨"DecreePool", "deliver", "(I)I"⟩ prog_1_method_3_code 2 (Option.some .int) ∈ WL := WL_t 188 (by decide +kernel) rfl
theorem wd189 : Cond.methodLink "DecreePool" 89 ⟨"DecreePool$Pool", "holds", "(I)Z"⟩ ∈ WL := WL_t 189 (by decide +kernel) rfl
theorem wd190 : Cond.instanceMethod ⟨"DecreePool$Pool", "holds", "(I)Z"⟩ ∈ WL := WL_t 190 (by decide +kernel) rfl
theorem wd191 : Cond.selects "DecreePool$Pool" ⟨"DecreePool$Pool", "holds", "(I)Z"⟩ ⟨"DecreePool$Pool", "holds", "(I)Z"⟩ ∈ WL := WL_t 191 (by decide +kernel) rfl
theorem wd192 : Cond.code ⟨"DecreePool$Pool", "holds", "(I)Z"⟩ prog_4_method_5_code 2 (Option.some .boolean) ∈ WL := WL_t 192 (by decide +kernel) rfl
theorem wd194 : Cond.methodLink "DecreePool" 92 ⟨"DecreePool", "isDeliverable", "(I)Z"⟩ ∈ WL := WL_t 194 (by decide +kernel) rfl
theorem wd196 : Cond.instanceMethod ⟨"DecreePool", "isDeliverable", "(I)Z"⟩ ∈ WL := WL_t 196 (by decide +kernel) rfl
theorem wd197 : Cond.code ⟨"DecreePool", "isDeliverable", "(I)Z"⟩ prog_1_method_29_code 2 (Option.some .boolean) ∈ WL := WL_t 197 (by decide +kernel) rfl
theorem wd198 : Cond.methodLink "DecreePool" 168 ⟨"DecreePool", "isAnsweredToAll", "(I)Z"⟩ ∈ WL := WL_t 198 (by decide +kernel) rfl
theorem wd200 : Cond.instanceMethod ⟨"DecreePool", "isAnsweredToAll", "(I)Z"⟩ ∈ WL := WL_t 200 (by decide +kernel) rfl
theorem wd201 : Cond.code ⟨"DecreePool", "isAnsweredToAll", "(I)Z"⟩ prog_1_method_30_code 5 (Option.some .boolean) ∈ WL := WL_t 201 (by decide +kernel) rfl
theorem wd202 : Cond.methodLink "DecreePool" 101 ⟨"DecreePool$Pool", "field", "(II)I"⟩ ∈ WL := WL_t 202 (by decide +kernel) rfl
theorem wd203 : Cond.methodLink "DecreePool" 171 ⟨"DecreePool$Proposers", "wouldWin", "(III)Z"⟩ ∈ WL := WL_t 203 (by decide +kernel) rfl
theorem wd204 : Cond.instanceMethod ⟨"DecreePool$Proposers", "wouldWin", "(III)Z"⟩ ∈ WL := WL_t 204 (by decide +kernel) rfl
theorem wd205 : Cond.selects "DecreePool$Proposers" ⟨"DecreePool$Proposers", "wouldWin", "(III)Z"⟩ ⟨"DecreePool$Proposers", "wouldWin", "(III)Z"⟩ ∈ WL := WL_t 205 (by decide +kernel) rfl
theorem wd206 : Cond.code ⟨"DecreePool$Proposers", "wouldWin", "(III)Z"⟩ prog_5_method_9_code 4 (Option.some .boolean) ∈ WL := WL_t 206 (by decide +kernel) rfl
theorem wd207 : Cond.methodLink "DecreePool$Proposers" 43 ⟨"DecreePool$Proposers", "awaits", "(II)Z"⟩ ∈ WL := WL_t 207 (by decide +kernel) rfl
theorem wd209 : Cond.instanceMethod ⟨"DecreePool$Proposers", "awaits", "(II)Z"⟩ ∈ WL := WL_t 209 (by decide +kernel) rfl
theorem wd210 : Cond.code ⟨"DecreePool$Proposers", "awaits", "(II)Z"⟩ prog_5_method_11_code 3 (Option.some .boolean) ∈ WL := WL_t 210 (by decide +kernel) rfl
theorem wd211 : Cond.methodLink "DecreePool$Proposers" 37 ⟨"java/lang/Integer", "bitCount", "(I)I"⟩ ∈ WL := WL_t 211 (by decide +kernel) rfl
theorem wd212 : Cond.static ⟨"java/lang/Integer", "bitCount", "(I)I"⟩ ∈ WL := WL_t 212 (by decide +kernel) rfl
theorem wd213 : Cond.code ⟨"java/lang/Integer", "bitCount", "(I)I"⟩ prog_8_method_49_code 1 (Option.some .int) ∈ WL := WL_t 213 (by decide +kernel) rfl
theorem wd214 : Cond.constant "java/lang/Integer" 265 1431655765 ∈ WL := WL_t 214 (by decide +kernel) rfl
theorem wd215 : Cond.constant "java/lang/Integer" 266 858993459 ∈ WL := WL_t 215 (by decide +kernel) rfl
theorem wd216 : Cond.constant "java/lang/Integer" 267 252645135 ∈ WL := WL_t 216 (by decide +kernel) rfl
theorem wd218 : Cond.static ⟨"DecreePool", "isMajority", "(II)Z"⟩ ∈ WL := WL_t 218 (by decide +kernel) rfl
theorem wd219 : Cond.code ⟨"DecreePool", "isMajority", "(II)Z"⟩ prog_1_method_20_code 2 (Option.some .boolean) ∈ WL := WL_t 219 (by decide +kernel) rfl
theorem wd220 : Cond.methodLink "DecreePool" 174 ⟨"DecreePool$Acceptors", "wouldAccept", "(II)Z"⟩ ∈ WL := WL_t 220 (by decide +kernel) rfl
theorem wd221 : Cond.instanceMethod ⟨"DecreePool$Acceptors", "wouldAccept", "(II)Z"⟩ ∈ WL := WL_t 221 (by decide +kernel) rfl
theorem wd222 : Cond.selects "DecreePool$Acceptors" ⟨"DecreePool$Acceptors", "wouldAccept", "(II)Z"⟩ ⟨"DecreePool$Acceptors", "wouldAccept", "(II)Z"⟩ ∈ WL := WL_t 222 (by decide +kernel) rfl
theorem wd223 : Cond.code ⟨"DecreePool$Acceptors", "wouldAccept", "(II)Z"⟩ prog_2_method_6_code 3 (Option.some .boolean) ∈ WL := WL_t 223 (by decide +kernel) rfl
theorem wd224 : Cond.methodLink "DecreePool" 95 ⟨"DecreePool", "handOver", "(I)I"⟩ ∈ WL := WL_t 224 (by decide +kernel) rfl
theorem wd226 : Cond.instanceMethod ⟨"DecreePool", "handOver", "(I)I"⟩ ∈ WL := WL_t 226 (by decide +kernel) rfl
theorem wd227 : Cond.code ⟨"DecreePool", "handOver", "(I)I"⟩ prog_1_method_31_code 10 (Option.some .int) ∈ WL := WL_t 227 (by decide +kernel) rfl
theorem wd228 : Cond.methodLink "DecreePool" 104 ⟨"DecreePool$Pool", "takeOut", "(I)V"⟩ ∈ WL := WL_t 228 (by decide +kernel) rfl
theorem wd229 : Cond.instanceMethod ⟨"DecreePool$Pool", "takeOut", "(I)V"⟩ ∈ WL := WL_t 229 (by decide +kernel) rfl
theorem wd230 : Cond.selects "DecreePool$Pool" ⟨"DecreePool$Pool", "takeOut", "(I)V"⟩ ⟨"DecreePool$Pool", "takeOut", "(I)V"⟩ ∈ WL := WL_t 230 (by decide +kernel) rfl
theorem wd231 : Cond.code ⟨"DecreePool$Pool", "takeOut", "(I)V"⟩ prog_4_method_7_code 2 (Option.none : Option ClassFile.FieldType) ∈ WL := WL_t 231 (by decide +kernel) rfl
theorem wd232 : Cond.methodLink "DecreePool" 177 ⟨"DecreePool$Acceptors", "promise", "(II)Z"⟩ ∈ WL := WL_t 232 (by decide +kernel) rfl
theorem wd233 : Cond.instanceMethod ⟨"DecreePool$Acceptors", "promise", "(II)Z"⟩ ∈ WL := WL_t 233 (by decide +kernel) rfl
theorem wd234 : Cond.selects "DecreePool$Acceptors" ⟨"DecreePool$Acceptors", "promise", "(II)Z"⟩ ⟨"DecreePool$Acceptors", "promise", "(II)Z"⟩ ∈ WL := WL_t 234 (by decide +kernel) rfl
theorem wd235 : Cond.code ⟨"DecreePool$Acceptors", "promise", "(II)Z"⟩ prog_2_method_5_code 3 (Option.some .boolean) ∈ WL := WL_t 235 (by decide +kernel) rfl
theorem wd236 : Cond.methodLink "DecreePool" 131 ⟨"DecreePool$Acceptors", "acceptedValue", "(I)I"⟩ ∈ WL := WL_t 236 (by decide +kernel) rfl
theorem wd237 : Cond.instanceMethod ⟨"DecreePool$Acceptors", "acceptedValue", "(I)I"⟩ ∈ WL := WL_t 237 (by decide +kernel) rfl
theorem wd238 : Cond.selects "DecreePool$Acceptors" ⟨"DecreePool$Acceptors", "acceptedValue", "(I)I"⟩ ⟨"DecreePool$Acceptors", "acceptedValue", "(I)I"⟩ ∈ WL := WL_t 238 (by decide +kernel) rfl
theorem wd239 : Cond.code ⟨"DecreePool$Acceptors", "acceptedValue", "(I)I"⟩ prog_2_method_4_code 2 (Option.some .int) ∈ WL := WL_t 239 (by decide +kernel) rfl
theorem wd240 : Cond.methodLink "DecreePool" 128 ⟨"DecreePool$Acceptors", "acceptedBallot", "(I)I"⟩ ∈ WL := WL_t 240 (by decide +kernel) rfl
theorem wd241 : Cond.instanceMethod ⟨"DecreePool$Acceptors", "acceptedBallot", "(I)I"⟩ ∈ WL := WL_t 241 (by decide +kernel) rfl
theorem wd242 : Cond.selects "DecreePool$Acceptors" ⟨"DecreePool$Acceptors", "acceptedBallot", "(I)I"⟩ ⟨"DecreePool$Acceptors", "acceptedBallot", "(I)I"⟩ ∈ WL := WL_t 242 (by decide +kernel) rfl
theorem wd243 : Cond.code ⟨"DecreePool$Acceptors", "acceptedBallot", "(I)I"⟩ prog_2_method_3_code 2 (Option.some .int) ∈ WL := WL_t 243 (by decide +kernel) rfl
theorem wd244 : Cond.methodLink "DecreePool" 180 ⟨"DecreePool$Proposers", "takePromise", "(IIIII)Z"⟩ ∈ WL := WL_t 244 (by decide +kernel) rfl
theorem wd245 : Cond.instanceMethod ⟨"DecreePool$Proposers", "takePromise", "(IIIII)Z"⟩ ∈ WL := WL_t 245 (by decide +kernel) rfl
theorem wd246 : Cond.selects "DecreePool$Proposers" ⟨"DecreePool$Proposers", "takePromise", "(IIIII)Z"⟩ ⟨"DecreePool$Proposers", "takePromise", "(IIIII)Z"⟩ ∈ WL := WL_t 246 (by decide +kernel) rfl
theorem wd247 : Cond.code ⟨"DecreePool$Proposers", "takePromise", "(IIIII)Z"⟩ prog_5_method_10_code 6 (Option.some .boolean) ∈ WL := WL_t 247 (by decide +kernel) rfl
theorem wd248 : Cond.methodLink "DecreePool$Proposers" 50 ⟨"DecreePool$Proposers", "promises", "(I)I"⟩ ∈ WL := WL_t 248 (by decide +kernel) rfl
theorem wd249 : Cond.instanceMethod ⟨"DecreePool$Proposers", "promises", "(I)I"⟩ ∈ WL := WL_t 249 (by decide +kernel) rfl
theorem wd250 : Cond.selects "DecreePool$Proposers" ⟨"DecreePool$Proposers", "promises", "(I)I"⟩ ⟨"DecreePool$Proposers", "promises", "(I)I"⟩ ∈ WL := WL_t 250 (by decide +kernel) rfl
theorem wd251 : Cond.code ⟨"DecreePool$Proposers", "promises", "(I)I"⟩ prog_5_method_4_code 2 (Option.some .int) ∈ WL := WL_t 251 (by decide +kernel) rfl
theorem wd252 : Cond.methodLink "DecreePool" 143 ⟨"DecreePool$Proposers", "value", "(I)I"⟩ ∈ WL := WL_t 252 (by decide +kernel) rfl
theorem wd253 : Cond.instanceMethod ⟨"DecreePool$Proposers", "value", "(I)I"⟩ ∈ WL := WL_t 253 (by decide +kernel) rfl
theorem wd254 : Cond.selects "DecreePool$Proposers" ⟨"DecreePool$Proposers", "value", "(I)I"⟩ ⟨"DecreePool$Proposers", "value", "(I)I"⟩ ∈ WL := WL_t 254 (by decide +kernel) rfl
theorem wd255 : Cond.code ⟨"DecreePool$Proposers", "value", "(I)I"⟩ prog_5_method_6_code 2 (Option.some .int) ∈ WL := WL_t 255 (by decide +kernel) rfl
theorem wd256 : Cond.methodLink "DecreePool" 184 ⟨"DecreePool$Acceptors", "accept", "(III)Z"⟩ ∈ WL := WL_t 256 (by decide +kernel) rfl
theorem wd257 : Cond.instanceMethod ⟨"DecreePool$Acceptors", "accept", "(III)Z"⟩ ∈ WL := WL_t 257 (by decide +kernel) rfl
theorem wd258 : Cond.selects "DecreePool$Acceptors" ⟨"DecreePool$Acceptors", "accept", "(III)Z"⟩ ⟨"DecreePool$Acceptors", "accept", "(III)Z"⟩ ∈ WL := WL_t 258 (by decide +kernel) rfl
theorem wd259 : Cond.code ⟨"DecreePool$Acceptors", "accept", "(III)Z"⟩ prog_2_method_7_code 4 (Option.some .boolean) ∈ WL := WL_t 259 (by decide +kernel) rfl
theorem wd260 : Cond.methodLink "DecreePool$Acceptors" 34 ⟨"DecreePool$Acceptors", "wouldAccept", "(II)Z"⟩ ∈ WL := WL_t 260 (by decide +kernel) rfl
theorem wd261 : Cond.methodLink "DecreePool" 187 ⟨"DecreePool$Learners", "hear", "(IIII)V"⟩ ∈ WL := WL_t 261 (by decide +kernel) rfl
theorem wd262 : Cond.instanceMethod ⟨"DecreePool$Learners", "hear", "(IIII)V"⟩ ∈ WL := WL_t 262 (by decide +kernel) rfl
theorem wd263 : Cond.selects "DecreePool$Learners" ⟨"DecreePool$Learners", "hear", "(IIII)V"⟩ ⟨"DecreePool$Learners", "hear", "(IIII)V"⟩ ∈ WL := WL_t 263 (by decide +kernel) rfl
theorem wd264 : Cond.code ⟨"DecreePool$Learners", "hear", "(IIII)V"⟩ prog_3_method_5_code 5 (Option.none : Option ClassFile.FieldType) ∈ WL := WL_t 264 (by decide +kernel) rfl
theorem wd265 : Cond.methodLink "DecreePool$Learners" 28 ⟨"DecreePool$Learners", "ballotOf", "(II)I"⟩ ∈ WL := WL_t 265 (by decide +kernel) rfl
theorem wd266 : Cond.instanceMethod ⟨"DecreePool$Learners", "ballotOf", "(II)I"⟩ ∈ WL := WL_t 266 (by decide +kernel) rfl
theorem wd267 : Cond.selects "DecreePool$Learners" ⟨"DecreePool$Learners", "ballotOf", "(II)I"⟩ ⟨"DecreePool$Learners", "ballotOf", "(II)I"⟩ ∈ WL := WL_t 267 (by decide +kernel) rfl
theorem wd268 : Cond.code ⟨"DecreePool$Learners", "ballotOf", "(II)I"⟩ prog_3_method_2_code 3 (Option.some .int) ∈ WL := WL_t 268 (by decide +kernel) rfl
theorem wd269 : Cond.methodLink "DecreePool$Learners" 32 ⟨"DecreePool$Learners", "nodesHeardWith", "(II)I"⟩ ∈ WL := WL_t 269 (by decide +kernel) rfl
theorem wd271 : Cond.instanceMethod ⟨"DecreePool$Learners", "nodesHeardWith", "(II)I"⟩ ∈ WL := WL_t 271 (by decide +kernel) rfl
theorem wd272 : Cond.code ⟨"DecreePool$Learners", "nodesHeardWith", "(II)I"⟩ prog_3_method_7_code 5 (Option.some .int) ∈ WL := WL_t 272 (by decide +kernel) rfl
theorem wd274 : Cond.methodLink "DecreePool$Learners" 39 ⟨"DecreePool$Learners", "learn", "(II)V"⟩ ∈ WL := WL_t 274 (by decide +kernel) rfl
theorem wd275 : Cond.instanceMethod ⟨"DecreePool$Learners", "learn", "(II)V"⟩ ∈ WL := WL_t 275 (by decide +kernel) rfl
theorem wd276 : Cond.selects "DecreePool$Learners" ⟨"DecreePool$Learners", "learn", "(II)V"⟩ ⟨"DecreePool$Learners", "learn", "(II)V"⟩ ∈ WL := WL_t 276 (by decide +kernel) rfl
theorem wd277 : Cond.code ⟨"DecreePool$Learners", "learn", "(II)V"⟩ prog_3_method_6_code 3 (Option.none : Option ClassFile.FieldType) ∈ WL := WL_t 277 (by decide +kernel) rfl
theorem wd278 : Cond.methodLink "DecreePool" 191 ⟨"DecreePool$Learners", "learn", "(II)V"⟩ ∈ WL := WL_t 278 (by decide +kernel) rfl
theorem wd279 : Cond.methodLink "DecreePoolLaw" 31 ⟨"DecreePool", "sweep", "(I)I"⟩ ∈ WL := WL_t 279 (by decide +kernel) rfl
theorem wd280 : Cond.instanceMethod ⟨"DecreePool", "sweep", "(I)I"⟩ ∈ WL := WL_t 280 (by decide +kernel) rfl
theorem wd281 : Cond.selects "DecreePool" ⟨"DecreePool", "sweep", "(I)I"⟩ ⟨"DecreePool", "sweep", "(I)I"⟩ ∈ WL := WL_t 281 (by decide +kernel) rfl
theorem wd282 : Cond.code ⟨"DecreePool", "sweep", "(I)I"⟩ prog_1_method_4_code 4 (Option.some .int) ∈ WL := WL_t 282 (by decide +kernel) rfl
theorem wd283 : Cond.methodLink "DecreePool" 98 ⟨"DecreePool", "leastDeliverable", "()I"⟩ ∈ WL := WL_t 283 (by decide +kernel) rfl
theorem wd285 : Cond.instanceMethod ⟨"DecreePool", "leastDeliverable", "()I"⟩ ∈ WL := WL_t 285 (by decide +kernel) rfl
theorem wd286 : Cond.code ⟨"DecreePool", "leastDeliverable", "()I"⟩ prog_1_method_28_code 2 (Option.some .int) ∈ WL := WL_t 286 (by decide +kernel) rfl
theorem wd287 : Cond.methodLink "DecreePool" 161 ⟨"DecreePool$Pool", "places", "()I"⟩ ∈ WL := WL_t 287 (by decide +kernel) rfl
theorem wd288 : Cond.instanceMethod ⟨"DecreePool$Pool", "places", "()I"⟩ ∈ WL := WL_t 288 (by decide +kernel) rfl
theorem wd289 : Cond.selects "DecreePool$Pool" ⟨"DecreePool$Pool", "places", "()I"⟩ ⟨"DecreePool$Pool", "places", "()I"⟩ ∈ WL := WL_t 289 (by decide +kernel) rfl
theorem wd290 : Cond.code ⟨"DecreePool$Pool", "places", "()I"⟩ prog_4_method_2_code 1 (Option.some .int) ∈ WL := WL_t 290 (by decide +kernel) rfl
theorem wd291 : Cond.methodLink "DecreePoolLaw" 35 ⟨"DecreePool", "drop", "(I)I"⟩ ∈ WL := WL_t 291 (by decide +kernel) rfl
theorem wd292 : Cond.instanceMethod ⟨"DecreePool", "drop", "(I)I"⟩ ∈ WL := WL_t 292 (by decide +kernel) rfl
theorem wd293 : Cond.selects "DecreePool" ⟨"DecreePool", "drop", "(I)I"⟩ ⟨"DecreePool", "drop", "(I)I"⟩ ∈ WL := WL_t 293 (by decide +kernel) rfl
theorem wd294 : Cond.code ⟨"DecreePool", "drop", "(I)I"⟩ prog_1_method_5_code 3 (Option.some .int) ∈ WL := WL_t 294 (by decide +kernel) rfl
theorem wd295 : Cond.methodLink "DecreePoolLaw" 39 ⟨"DecreePool", "duplicate", "(I)I"⟩ ∈ WL := WL_t 295 (by decide +kernel) rfl
theorem wd296 : Cond.instanceMethod ⟨"DecreePool", "duplicate", "(I)I"⟩ ∈ WL := WL_t 296 (by decide +kernel) rfl
theorem wd297 : Cond.selects "DecreePool" ⟨"DecreePool", "duplicate", "(I)I"⟩ ⟨"DecreePool", "duplicate", "(I)I"⟩ ∈ WL := WL_t 297 (by decide +kernel) rfl
theorem wd298 : Cond.code ⟨"DecreePool", "duplicate", "(I)I"⟩ prog_1_method_6_code 3 (Option.some .int) ∈ WL := WL_t 298 (by decide +kernel) rfl
theorem wd299 : Cond.methodLink "DecreePool" 107 ⟨"DecreePool$Pool", "sendCopy", "(I)I"⟩ ∈ WL := WL_t 299 (by decide +kernel) rfl
theorem wd300 : Cond.instanceMethod ⟨"DecreePool$Pool", "sendCopy", "(I)I"⟩ ∈ WL := WL_t 300 (by decide +kernel) rfl
theorem wd301 : Cond.selects "DecreePool$Pool" ⟨"DecreePool$Pool", "sendCopy", "(I)I"⟩ ⟨"DecreePool$Pool", "sendCopy", "(I)I"⟩ ∈ WL := WL_t 301 (by decide +kernel) rfl
theorem wd302 : Cond.code ⟨"DecreePool$Pool", "sendCopy", "(I)I"⟩ prog_4_method_9_code 2 (Option.some .int) ∈ WL := WL_t 302 (by decide +kernel) rfl
theorem wd303 : Cond.methodLink "DecreePool$Pool" 34 ⟨"DecreePool$Pool", "send", "(IIIIIII)I"⟩ ∈ WL := WL_t 303 (by decide +kernel) rfl
theorem wd304 : Cond.methodLink "DecreePoolLaw" 43 ⟨"DecreePool", "crash", "(I)I"⟩ ∈ WL := WL_t 304 (by decide +kernel) rfl
theorem wd305 : Cond.instanceMethod ⟨"DecreePool", "crash", "(I)I"⟩ ∈ WL := WL_t 305 (by decide +kernel) rfl
theorem wd306 : Cond.selects "DecreePool" ⟨"DecreePool", "crash", "(I)I"⟩ ⟨"DecreePool", "crash", "(I)I"⟩ ∈ WL := WL_t 306 (by decide +kernel) rfl
theorem wd307 : Cond.code ⟨"DecreePool", "crash", "(I)I"⟩ prog_1_method_7_code 2 (Option.some .int) ∈ WL := WL_t 307 (by decide +kernel) rfl
theorem wd308 : Cond.methodLink "DecreePool" 113 ⟨"java/lang/Integer", "bitCount", "(I)I"⟩ ∈ WL := WL_t 308 (by decide +kernel) rfl
theorem wd309 : Cond.methodLink "DecreePoolLaw" 47 ⟨"DecreePool", "restart", "(I)I"⟩ ∈ WL := WL_t 309 (by decide +kernel) rfl
theorem wd310 : Cond.instanceMethod ⟨"DecreePool", "restart", "(I)I"⟩ ∈ WL := WL_t 310 (by decide +kernel) rfl
theorem wd311 : Cond.selects "DecreePool" ⟨"DecreePool", "restart", "(I)I"⟩ ⟨"DecreePool", "restart", "(I)I"⟩ ∈ WL := WL_t 311 (by decide +kernel) rfl
theorem wd312 : Cond.code ⟨"DecreePool", "restart", "(I)I"⟩ prog_1_method_8_code 4 (Option.some .int) ∈ WL := WL_t 312 (by decide +kernel) rfl
theorem wd313 : Cond.methodLink "DecreePool" 118 ⟨"DecreePool$Proposers", "comeBack", "(I)V"⟩ ∈ WL := WL_t 313 (by decide +kernel) rfl
theorem wd314 : Cond.instanceMethod ⟨"DecreePool$Proposers", "comeBack", "(I)V"⟩ ∈ WL := WL_t 314 (by decide +kernel) rfl
theorem wd315 : Cond.selects "DecreePool$Proposers" ⟨"DecreePool$Proposers", "comeBack", "(I)V"⟩ ⟨"DecreePool$Proposers", "comeBack", "(I)V"⟩ ∈ WL := WL_t 315 (by decide +kernel) rfl
theorem wd316 : Cond.code ⟨"DecreePool$Proposers", "comeBack", "(I)V"⟩ prog_5_method_8_code 2 (Option.none : Option ClassFile.FieldType) ∈ WL := WL_t 316 (by decide +kernel) rfl
theorem wd317 : Cond.methodLink "DecreePool" 121 ⟨"DecreePool$Learners", "comeBack", "(I)V"⟩ ∈ WL := WL_t 317 (by decide +kernel) rfl
theorem wd318 : Cond.instanceMethod ⟨"DecreePool$Learners", "comeBack", "(I)V"⟩ ∈ WL := WL_t 318 (by decide +kernel) rfl
theorem wd319 : Cond.selects "DecreePool$Learners" ⟨"DecreePool$Learners", "comeBack", "(I)V"⟩ ⟨"DecreePool$Learners", "comeBack", "(I)V"⟩ ∈ WL := WL_t 319 (by decide +kernel) rfl
theorem wd320 : Cond.code ⟨"DecreePool$Learners", "comeBack", "(I)V"⟩ prog_3_method_4_code 3 (Option.none : Option ClassFile.FieldType) ∈ WL := WL_t 320 (by decide +kernel) rfl
theorem wd321 : Cond.methodLink "DecreePoolLaw" 51 ⟨"DecreePool", "tell", "(II)I"⟩ ∈ WL := WL_t 321 (by decide +kernel) rfl
theorem wd322 : Cond.instanceMethod ⟨"DecreePool", "tell", "(II)I"⟩ ∈ WL := WL_t 322 (by decide +kernel) rfl
theorem wd323 : Cond.selects "DecreePool" ⟨"DecreePool", "tell", "(II)I"⟩ ⟨"DecreePool", "tell", "(II)I"⟩ ∈ WL := WL_t 323 (by decide +kernel) rfl
theorem wd324 : Cond.code ⟨"DecreePool", "tell", "(II)I"⟩ prog_1_method_9_code 4 (Option.some .int) ∈ WL := WL_t 324 (by decide +kernel) rfl
theorem wd325 : Cond.methodLink "DecreePool" 122 ⟨"DecreePool$Learners", "decree", "(I)I"⟩ ∈ WL := WL_t 325 (by decide +kernel) rfl
theorem wd326 : Cond.instanceMethod ⟨"DecreePool$Learners", "decree", "(I)I"⟩ ∈ WL := WL_t 326 (by decide +kernel) rfl
theorem wd327 : Cond.selects "DecreePool$Learners" ⟨"DecreePool$Learners", "decree", "(I)I"⟩ ⟨"DecreePool$Learners", "decree", "(I)I"⟩ ∈ WL := WL_t 327 (by decide +kernel) rfl
theorem wd328 : Cond.code ⟨"DecreePool$Learners", "decree", "(I)I"⟩ prog_3_method_3_code 2 (Option.some .int) ∈ WL := WL_t 328 (by decide +kernel) rfl
theorem wd329 : Cond.methodLink "DecreePoolLaw" 56 ⟨"DecreePool", "learned", "(II)I"⟩ ∈ WL := WL_t 329 (by decide +kernel) rfl
theorem wd330 : Cond.instanceMethod ⟨"DecreePool", "learned", "(II)I"⟩ ∈ WL := WL_t 330 (by decide +kernel) rfl
theorem wd331 : Cond.selects "DecreePool" ⟨"DecreePool", "learned", "(II)I"⟩ ⟨"DecreePool", "learned", "(II)I"⟩ ∈ WL := WL_t 331 (by decide +kernel) rfl
theorem wd332 : Cond.code ⟨"DecreePool", "learned", "(II)I"⟩ prog_1_method_10_code 3 (Option.some .int) ∈ WL := WL_t 332 (by decide +kernel) rfl
theorem wd333 : Cond.methodLink "DecreePoolLaw" 60 ⟨"DecreePool", "acceptor", "(III)I"⟩ ∈ WL := WL_t 333 (by decide +kernel) rfl
theorem wd334 : Cond.instanceMethod ⟨"DecreePool", "acceptor", "(III)I"⟩ ∈ WL := WL_t 334 (by decide +kernel) rfl
theorem wd335 : Cond.selects "DecreePool" ⟨"DecreePool", "acceptor", "(III)I"⟩ ⟨"DecreePool", "acceptor", "(III)I"⟩ ∈ WL := WL_t 335 (by decide +kernel) rfl
theorem wd336 : Cond.code ⟨"DecreePool", "acceptor", "(III)I"⟩ prog_1_method_11_code 5 (Option.some .int) ∈ WL := WL_t 336 (by decide +kernel) rfl
theorem wd337 : Cond.methodLink "DecreePool" 125 ⟨"DecreePool$Acceptors", "promisedBallot", "(I)I"⟩ ∈ WL := WL_t 337 (by decide +kernel) rfl
theorem wd338 : Cond.instanceMethod ⟨"DecreePool$Acceptors", "promisedBallot", "(I)I"⟩ ∈ WL := WL_t 338 (by decide +kernel) rfl
theorem wd339 : Cond.selects "DecreePool$Acceptors" ⟨"DecreePool$Acceptors", "promisedBallot", "(I)I"⟩ ⟨"DecreePool$Acceptors", "promisedBallot", "(I)I"⟩ ∈ WL := WL_t 339 (by decide +kernel) rfl
theorem wd340 : Cond.code ⟨"DecreePool$Acceptors", "promisedBallot", "(I)I"⟩ prog_2_method_2_code 2 (Option.some .int) ∈ WL := WL_t 340 (by decide +kernel) rfl
theorem wd341 : Cond.methodLink "DecreePoolLaw" 65 ⟨"DecreePool", "proposer", "(III)I"⟩ ∈ WL := WL_t 341 (by decide +kernel) rfl
theorem wd342 : Cond.instanceMethod ⟨"DecreePool", "proposer", "(III)I"⟩ ∈ WL := WL_t 342 (by decide +kernel) rfl
theorem wd343 : Cond.selects "DecreePool" ⟨"DecreePool", "proposer", "(III)I"⟩ ⟨"DecreePool", "proposer", "(III)I"⟩ ∈ WL := WL_t 343 (by decide +kernel) rfl
theorem wd344 : Cond.code ⟨"DecreePool", "proposer", "(III)I"⟩ prog_1_method_12_code 5 (Option.some .int) ∈ WL := WL_t 344 (by decide +kernel) rfl
theorem wd345 : Cond.methodLink "DecreePool" 134 ⟨"DecreePool$Proposers", "phase", "(I)I"⟩ ∈ WL := WL_t 345 (by decide +kernel) rfl
theorem wd346 : Cond.instanceMethod ⟨"DecreePool$Proposers", "phase", "(I)I"⟩ ∈ WL := WL_t 346 (by decide +kernel) rfl
theorem wd347 : Cond.selects "DecreePool$Proposers" ⟨"DecreePool$Proposers", "phase", "(I)I"⟩ ⟨"DecreePool$Proposers", "phase", "(I)I"⟩ ∈ WL := WL_t 347 (by decide +kernel) rfl
theorem wd348 : Cond.code ⟨"DecreePool$Proposers", "phase", "(I)I"⟩ prog_5_method_2_code 2 (Option.some .int) ∈ WL := WL_t 348 (by decide +kernel) rfl
theorem wd349 : Cond.methodLink "DecreePool" 137 ⟨"DecreePool$Proposers", "promises", "(I)I"⟩ ∈ WL := WL_t 349 (by decide +kernel) rfl
theorem wd350 : Cond.methodLink "DecreePool" 140 ⟨"DecreePool$Proposers", "bestBallot", "(I)I"⟩ ∈ WL := WL_t 350 (by decide +kernel) rfl
theorem wd351 : Cond.instanceMethod ⟨"DecreePool$Proposers", "bestBallot", "(I)I"⟩ ∈ WL := WL_t 351 (by decide +kernel) rfl
theorem wd352 : Cond.selects "DecreePool$Proposers" ⟨"DecreePool$Proposers", "bestBallot", "(I)I"⟩ ⟨"DecreePool$Proposers", "bestBallot", "(I)I"⟩ ∈ WL := WL_t 352 (by decide +kernel) rfl
theorem wd353 : Cond.code ⟨"DecreePool$Proposers", "bestBallot", "(I)I"⟩ prog_5_method_5_code 2 (Option.some .int) ∈ WL := WL_t 353 (by decide +kernel) rfl
theorem wd354 : Cond.methodLink "DecreePoolLaw" 69 ⟨"DecreePool", "heard", "(III)I"⟩ ∈ WL := WL_t 354 (by decide +kernel) rfl
theorem wd355 : Cond.instanceMethod ⟨"DecreePool", "heard", "(III)I"⟩ ∈ WL := WL_t 355 (by decide +kernel) rfl
theorem wd356 : Cond.selects "DecreePool" ⟨"DecreePool", "heard", "(III)I"⟩ ⟨"DecreePool", "heard", "(III)I"⟩ ∈ WL := WL_t 356 (by decide +kernel) rfl
theorem wd357 : Cond.code ⟨"DecreePool", "heard", "(III)I"⟩ prog_1_method_13_code 4 (Option.some .int) ∈ WL := WL_t 357 (by decide +kernel) rfl
theorem wd358 : Cond.methodLink "DecreePool" 146 ⟨"DecreePool$Learners", "ballotOf", "(II)I"⟩ ∈ WL := WL_t 358 (by decide +kernel) rfl
theorem wd359 : Cond.methodLink "DecreePoolLaw" 73 ⟨"DecreePool", "message", "(II)I"⟩ ∈ WL := WL_t 359 (by decide +kernel) rfl
theorem wd360 : Cond.instanceMethod ⟨"DecreePool", "message", "(II)I"⟩ ∈ WL := WL_t 360 (by decide +kernel) rfl
theorem wd361 : Cond.selects "DecreePool" ⟨"DecreePool", "message", "(II)I"⟩ ⟨"DecreePool", "message", "(II)I"⟩ ∈ WL := WL_t 361 (by decide +kernel) rfl
theorem wd362 : Cond.code ⟨"DecreePool", "message", "(II)I"⟩ prog_1_method_14_code 3 (Option.some .int) ∈ WL := WL_t 362 (by decide +kernel) rfl
theorem wd363 : Cond.methodLink "DecreePoolLaw" 77 ⟨"DecreePool", "chosen", "(I)I"⟩ ∈ WL := WL_t 363 (by decide +kernel) rfl
theorem wd364 : Cond.instanceMethod ⟨"DecreePool", "chosen", "(I)I"⟩ ∈ WL := WL_t 364 (by decide +kernel) rfl
theorem wd365 : Cond.selects "DecreePool" ⟨"DecreePool", "chosen", "(I)I"⟩ ⟨"DecreePool", "chosen", "(I)I"⟩ ∈ WL := WL_t 365 (by decide +kernel) rfl
theorem wd366 : Cond.code ⟨"DecreePool", "chosen", "(I)I"⟩ prog_1_method_15_code 2 (Option.some .int) ∈ WL := WL_t 366 (by decide +kernel) rfl
theorem wd367 : Cond.methodLink "DecreePool" 152 ⟨"DecreePool$Acceptors", "majorityValue", "(I)I"⟩ ∈ WL := WL_t 367 (by decide +kernel) rfl
theorem wd368 : Cond.instanceMethod ⟨"DecreePool$Acceptors", "majorityValue", "(I)I"⟩ ∈ WL := WL_t 368 (by decide +kernel) rfl
theorem wd369 : Cond.selects "DecreePool$Acceptors" ⟨"DecreePool$Acceptors", "majorityValue", "(I)I"⟩ ⟨"DecreePool$Acceptors", "majorityValue", "(I)I"⟩ ∈ WL := WL_t 369 (by decide +kernel) rfl
theorem wd370 : Cond.code ⟨"DecreePool$Acceptors", "majorityValue", "(I)I"⟩ prog_2_method_8_code 4 (Option.some .int) ∈ WL := WL_t 370 (by decide +kernel) rfl
theorem wd371 : Cond.methodLink "DecreePool$Acceptors" 38 ⟨"DecreePool$Acceptors", "acceptorsOf", "(II)I"⟩ ∈ WL := WL_t 371 (by decide +kernel) rfl
theorem wd373 : Cond.instanceMethod ⟨"DecreePool$Acceptors", "acceptorsOf", "(II)I"⟩ ∈ WL := WL_t 373 (by decide +kernel) rfl
theorem wd374 : Cond.code ⟨"DecreePool$Acceptors", "acceptorsOf", "(II)I"⟩ prog_2_method_9_code 5 (Option.some .int) ∈ WL := WL_t 374 (by decide +kernel) rfl
theorem wd376 : Cond.methodLink "DecreePoolLaw" 81 ⟨"DecreePool", "prefix", "(I)I"⟩ ∈ WL := WL_t 376 (by decide +kernel) rfl
theorem wd377 : Cond.instanceMethod ⟨"DecreePool", "prefix", "(I)I"⟩ ∈ WL := WL_t 377 (by decide +kernel) rfl
theorem wd378 : Cond.selects "DecreePool" ⟨"DecreePool", "prefix", "(I)I"⟩ ⟨"DecreePool", "prefix", "(I)I"⟩ ∈ WL := WL_t 378 (by decide +kernel) rfl
theorem wd379 : Cond.code ⟨"DecreePool", "prefix", "(I)I"⟩ prog_1_method_16_code 2 (Option.some .int) ∈ WL := WL_t 379 (by decide +kernel) rfl
theorem wd380 : Cond.methodLink "DecreePool" 155 ⟨"DecreePool", "prefixLength", "(I)I"⟩ ∈ WL := WL_t 380 (by decide +kernel) rfl
theorem wd382 : Cond.instanceMethod ⟨"DecreePool", "prefixLength", "(I)I"⟩ ∈ WL := WL_t 382 (by decide +kernel) rfl
theorem wd383 : Cond.code ⟨"DecreePool", "prefixLength", "(I)I"⟩ prog_1_method_26_code 3 (Option.some .int) ∈ WL := WL_t 383 (by decide +kernel) rfl
theorem wd384 : Cond.methodLink "DecreePoolLaw" 85 ⟨"DecreePool", "applied", "(I)J"⟩ ∈ WL := WL_t 384 (by decide +kernel) rfl
theorem wd385 : Cond.instanceMethod ⟨"DecreePool", "applied", "(I)J"⟩ ∈ WL := WL_t 385 (by decide +kernel) rfl
theorem wd386 : Cond.selects "DecreePool" ⟨"DecreePool", "applied", "(I)J"⟩ ⟨"DecreePool", "applied", "(I)J"⟩ ∈ WL := WL_t 386 (by decide +kernel) rfl
theorem wd387 : Cond.code ⟨"DecreePool", "applied", "(I)J"⟩ prog_1_method_17_code 7 (Option.some .long) ∈ WL := WL_t 387 (by decide +kernel) rfl
theorem wd388 : Cond.methodLink "DecreePoolLaw" 90 ⟨"DecreePool", "count", "(I)I"⟩ ∈ WL := WL_t 388 (by decide +kernel) rfl
theorem wd389 : Cond.instanceMethod ⟨"DecreePool", "count", "(I)I"⟩ ∈ WL := WL_t 389 (by decide +kernel) rfl
theorem wd390 : Cond.selects "DecreePool" ⟨"DecreePool", "count", "(I)I"⟩ ⟨"DecreePool", "count", "(I)I"⟩ ∈ WL := WL_t 390 (by decide +kernel) rfl
theorem wd391 : Cond.code ⟨"DecreePool", "count", "(I)I"⟩ prog_1_method_18_code 2 (Option.some .int) ∈ WL := WL_t 391 (by decide +kernel) rfl
theorem wd392 : Cond.methodLink "DecreePool" 158 ⟨"DecreePool$Pool", "messages", "()I"⟩ ∈ WL := WL_t 392 (by decide +kernel) rfl
theorem wd393 : Cond.instanceMethod ⟨"DecreePool$Pool", "messages", "()I"⟩ ∈ WL := WL_t 393 (by decide +kernel) rfl
theorem wd394 : Cond.selects "DecreePool$Pool" ⟨"DecreePool$Pool", "messages", "()I"⟩ ⟨"DecreePool$Pool", "messages", "()I"⟩ ∈ WL := WL_t 394 (by decide +kernel) rfl
theorem wd395 : Cond.code ⟨"DecreePool$Pool", "messages", "()I"⟩ prog_4_method_3_code 1 (Option.some .int) ∈ WL := WL_t 395 (by decide +kernel) rfl
theorem wd396 : Cond.methodLink "DecreePoolLaw" 9 ⟨"DecreePoolLaw", "cell", "([II)I"⟩ ∈ WL := WL_t 396 (by decide +kernel) rfl
theorem wd397 : Cond.static ⟨"DecreePoolLaw", "cell", "([II)I"⟩ ∈ WL := WL_t 397 (by decide +kernel) rfl
theorem wd398 : Cond.code ⟨"DecreePoolLaw", "cell", "([II)I"⟩ method_2_code 2 (Option.some .int) ∈ WL := WL_t 398 (by decide +kernel) rfl
theorem wd399 : Cond.classLink "DecreePoolLaw" 18 "DecreePoolModel" ∈ WL := WL_t 399 (by decide +kernel) rfl
theorem wd400 : Cond.instantiable "DecreePoolModel" 25 ∈ WL := WL_t 400 (by decide +kernel) rfl
theorem wd401 : Cond.methodLink "DecreePoolLaw" 20 ⟨"DecreePoolModel", "<init>", "(III)V"⟩ ∈ WL := WL_t 401 (by decide +kernel) rfl
theorem wd402 : Cond.instanceMethod ⟨"DecreePoolModel", "<init>", "(III)V"⟩ ∈ WL := WL_t 402 (by decide +kernel) rfl
theorem wd403 : Cond.code ⟨"DecreePoolModel", "<init>", "(III)V"⟩ prog_7_method_1_code 5 (Option.none : Option ClassFile.FieldType) ∈ WL := WL_t 403 (by decide +kernel) rfl
theorem wd404 : Cond.methodLink "DecreePoolModel" 1 ⟨"java/lang/Object", "<init>", "()V"⟩ ∈ WL := WL_t 404 (by decide +kernel) rfl
theorem wd405 : Cond.fieldLink "DecreePoolModel" 71 "DecreePoolModel" "nodes" "I" ∈ WL := WL_t 405 (by decide +kernel) rfl
theorem wd406 : Cond.fieldLink "DecreePoolModel" 75 "DecreePoolModel" "slots" "I" ∈ WL := WL_t 406 (by decide +kernel) rfl
theorem wd407 : Cond.fieldLink "DecreePoolModel" 78 "DecreePoolModel" "places" "I" ∈ WL := WL_t 407 (by decide +kernel) rfl
theorem wd408 : Cond.fieldLink "DecreePoolModel" 7 "DecreePoolModel" "down" "[Z" ∈ WL := WL_t 408 (by decide +kernel) rfl
theorem wd409 : Cond.fieldLink "DecreePoolModel" 13 "DecreePoolModel" "kinds" "[I" ∈ WL := WL_t 409 (by decide +kernel) rfl
theorem wd410 : Cond.fieldLink "DecreePoolModel" 17 "DecreePoolModel" "senders" "[I" ∈ WL := WL_t 410 (by decide +kernel) rfl
theorem wd411 : Cond.fieldLink "DecreePoolModel" 20 "DecreePoolModel" "receivers" "[I" ∈ WL := WL_t 411 (by decide +kernel) rfl
theorem wd412 : Cond.fieldLink "DecreePoolModel" 23 "DecreePoolModel" "slotOf" "[I" ∈ WL := WL_t 412 (by decide +kernel) rfl
theorem wd413 : Cond.fieldLink "DecreePoolModel" 26 "DecreePoolModel" "ballots" "[I" ∈ WL := WL_t 413 (by decide +kernel) rfl
theorem wd414 : Cond.fieldLink "DecreePoolModel" 29 "DecreePoolModel" "values" "[I" ∈ WL := WL_t 414 (by decide +kernel) rfl
theorem wd415 : Cond.fieldLink "DecreePoolModel" 32 "DecreePoolModel" "olds" "[I" ∈ WL := WL_t 415 (by decide +kernel) rfl
theorem wd416 : Cond.fieldLink "DecreePoolModel" 35 "DecreePoolModel" "last" "[I" ∈ WL := WL_t 416 (by decide +kernel) rfl
theorem wd417 : Cond.fieldLink "DecreePoolModel" 38 "DecreePoolModel" "phases" "[I" ∈ WL := WL_t 417 (by decide +kernel) rfl
theorem wd418 : Cond.fieldLink "DecreePoolModel" 41 "DecreePoolModel" "wishes" "[I" ∈ WL := WL_t 418 (by decide +kernel) rfl
theorem wd419 : Cond.fieldLink "DecreePoolModel" 44 "DecreePoolModel" "promises" "[I" ∈ WL := WL_t 419 (by decide +kernel) rfl
theorem wd420 : Cond.fieldLink "DecreePoolModel" 47 "DecreePoolModel" "best" "[I" ∈ WL := WL_t 420 (by decide +kernel) rfl
theorem wd421 : Cond.fieldLink "DecreePoolModel" 50 "DecreePoolModel" "bestValue" "[I" ∈ WL := WL_t 421 (by decide +kernel) rfl
theorem wd422 : Cond.fieldLink "DecreePoolModel" 53 "DecreePoolModel" "promised" "[I" ∈ WL := WL_t 422 (by decide +kernel) rfl
theorem wd423 : Cond.fieldLink "DecreePoolModel" 56 "DecreePoolModel" "accepted" "[I" ∈ WL := WL_t 423 (by decide +kernel) rfl
theorem wd424 : Cond.fieldLink "DecreePoolModel" 59 "DecreePoolModel" "acceptedValue" "[I" ∈ WL := WL_t 424 (by decide +kernel) rfl
theorem wd425 : Cond.fieldLink "DecreePoolModel" 62 "DecreePoolModel" "heardBallot" "[I" ∈ WL := WL_t 425 (by decide +kernel) rfl
theorem wd426 : Cond.fieldLink "DecreePoolModel" 65 "DecreePoolModel" "heardValue" "[I" ∈ WL := WL_t 426 (by decide +kernel) rfl
theorem wd427 : Cond.fieldLink "DecreePoolModel" 68 "DecreePoolModel" "learned" "[I" ∈ WL := WL_t 427 (by decide +kernel) rfl
theorem wd428 : Cond.fieldLink "DecreePoolModel" 130 "DecreePoolModel" "delivered" "I" ∈ WL := WL_t 428 (by decide +kernel) rfl
theorem wd429 : Cond.fieldLink "DecreePoolModel" 133 "DecreePoolModel" "lost" "I" ∈ WL := WL_t 429 (by decide +kernel) rfl
theorem wd430 : Cond.lays "DecreePoolModel" "DecreePoolModel" "nodes" "I" ∈ WL := WL_t 430 (by decide +kernel) rfl
theorem wd432 : Cond.lays "DecreePoolModel" "DecreePoolModel" "slots" "I" ∈ WL := WL_t 432 (by decide +kernel) rfl
theorem wd434 : Cond.lays "DecreePoolModel" "DecreePoolModel" "places" "I" ∈ WL := WL_t 434 (by decide +kernel) rfl
theorem wd436 : Cond.laysFinal "DecreePoolModel" "DecreePoolModel" "down" "[Z" ∈ WL := WL_t 436 (by decide +kernel) rfl
theorem wd438 : Cond.laysFinal "DecreePoolModel" "DecreePoolModel" "kinds" "[I" ∈ WL := WL_t 438 (by decide +kernel) rfl
theorem wd440 : Cond.laysFinal "DecreePoolModel" "DecreePoolModel" "senders" "[I" ∈ WL := WL_t 440 (by decide +kernel) rfl
theorem wd442 : Cond.laysFinal "DecreePoolModel" "DecreePoolModel" "receivers" "[I" ∈ WL := WL_t 442 (by decide +kernel) rfl
theorem wd444 : Cond.laysFinal "DecreePoolModel" "DecreePoolModel" "slotOf" "[I" ∈ WL := WL_t 444 (by decide +kernel) rfl
theorem wd446 : Cond.laysFinal "DecreePoolModel" "DecreePoolModel" "ballots" "[I" ∈ WL := WL_t 446 (by decide +kernel) rfl
theorem wd448 : Cond.laysFinal "DecreePoolModel" "DecreePoolModel" "values" "[I" ∈ WL := WL_t 448 (by decide +kernel) rfl
theorem wd450 : Cond.laysFinal "DecreePoolModel" "DecreePoolModel" "olds" "[I" ∈ WL := WL_t 450 (by decide +kernel) rfl
theorem wd452 : Cond.laysFinal "DecreePoolModel" "DecreePoolModel" "last" "[I" ∈ WL := WL_t 452 (by decide +kernel) rfl
theorem wd454 : Cond.laysFinal "DecreePoolModel" "DecreePoolModel" "phases" "[I" ∈ WL := WL_t 454 (by decide +kernel) rfl
theorem wd456 : Cond.laysFinal "DecreePoolModel" "DecreePoolModel" "wishes" "[I" ∈ WL := WL_t 456 (by decide +kernel) rfl
theorem wd458 : Cond.laysFinal "DecreePoolModel" "DecreePoolModel" "promises" "[I" ∈ WL := WL_t 458 (by decide +kernel) rfl
theorem wd460 : Cond.laysFinal "DecreePoolModel" "DecreePoolModel" "best" "[I" ∈ WL := WL_t 460 (by decide +kernel) rfl
theorem wd462 : Cond.laysFinal "DecreePoolModel" "DecreePoolModel" "bestValue" "[I" ∈ WL := WL_t 462 (by decide +kernel) rfl
theorem wd464 : Cond.laysFinal "DecreePoolModel" "DecreePoolModel" "promised" "[I" ∈ WL := WL_t 464 (by decide +kernel) rfl
theorem wd466 : Cond.laysFinal "DecreePoolModel" "DecreePoolModel" "accepted" "[I" ∈ WL := WL_t 466 (by decide +kernel) rfl
theorem wd468 : Cond.laysFinal "DecreePoolModel" "DecreePoolModel" "acceptedValue" "[I" ∈ WL := WL_t 468 (by decide +kernel) rfl
theorem wd470 : Cond.laysFinal "DecreePoolModel" "DecreePoolModel" "heardBallot" "[I" ∈ WL := WL_t 470 (by decide +kernel) rfl
theorem wd472 : Cond.laysFinal "DecreePoolModel" "DecreePoolModel" "heardValue" "[I" ∈ WL := WL_t 472 (by decide +kernel) rfl
theorem wd474 : Cond.laysFinal "DecreePoolModel" "DecreePoolModel" "learned" "[I" ∈ WL := WL_t 474 (by decide +kernel) rfl
theorem wd476 : Cond.lays "DecreePoolModel" "DecreePoolModel" "delivered" "I" ∈ WL := WL_t 476 (by decide +kernel) rfl
theorem wd478 : Cond.lays "DecreePoolModel" "DecreePoolModel" "lost" "I" ∈ WL := WL_t 478 (by decide +kernel) rfl
theorem wd481 : Cond.arrayClass .boolean ∈ WL := WL_t 481 (by decide +kernel) rfl
theorem wd482 : Cond.methodLink "DecreePoolLaw" 25 ⟨"DecreePoolModel", "prepare", "(IIII)I"⟩ ∈ WL := WL_t 482 (by decide +kernel) rfl
theorem wd483 : Cond.instanceMethod ⟨"DecreePoolModel", "prepare", "(IIII)I"⟩ ∈ WL := WL_t 483 (by decide +kernel) rfl
theorem wd484 : Cond.selects "DecreePoolModel" ⟨"DecreePoolModel", "prepare", "(IIII)I"⟩ ⟨"DecreePoolModel", "prepare", "(IIII)I"⟩ ∈ WL := WL_t 484 (by decide +kernel) rfl
theorem wd485 : Cond.code ⟨"DecreePoolModel", "prepare", "(IIII)I"⟩ prog_7_method_9_code 7 (Option.some .int) ∈ WL := WL_t 485 (by decide +kernel) rfl
theorem wd486 : Cond.methodLink "DecreePoolModel" 85 ⟨"DecreePoolModel", "isNode", "(I)Z"⟩ ∈ WL := WL_t 486 (by decide +kernel) rfl
theorem wd488 : Cond.instanceMethod ⟨"DecreePoolModel", "isNode", "(I)Z"⟩ ∈ WL := WL_t 488 (by decide +kernel) rfl
theorem wd489 : Cond.code ⟨"DecreePoolModel", "isNode", "(I)Z"⟩ prog_7_method_2_code 2 (Option.some .boolean) ∈ WL := WL_t 489 (by decide +kernel) rfl
theorem wd490 : Cond.methodLink "DecreePoolModel" 89 ⟨"DecreePoolModel", "isSlot", "(I)Z"⟩ ∈ WL := WL_t 490 (by decide +kernel) rfl
theorem wd492 : Cond.instanceMethod ⟨"DecreePoolModel", "isSlot", "(I)Z"⟩ ∈ WL := WL_t 492 (by decide +kernel) rfl
theorem wd493 : Cond.code ⟨"DecreePoolModel", "isSlot", "(I)Z"⟩ prog_7_method_3_code 2 (Option.some .boolean) ∈ WL := WL_t 493 (by decide +kernel) rfl
theorem wd494 : Cond.methodLink "DecreePoolModel" 92 ⟨"DecreePoolModel", "empty", "()I"⟩ ∈ WL := WL_t 494 (by decide +kernel) rfl
theorem wd496 : Cond.instanceMethod ⟨"DecreePoolModel", "empty", "()I"⟩ ∈ WL := WL_t 496 (by decide +kernel) rfl
theorem wd497 : Cond.code ⟨"DecreePoolModel", "empty", "()I"⟩ prog_7_method_6_code 3 (Option.some .int) ∈ WL := WL_t 497 (by decide +kernel) rfl
theorem wd498 : Cond.methodLink "DecreePoolModel" 96 ⟨"DecreePoolModel", "sendAll", "(IIIII)V"⟩ ∈ WL := WL_t 498 (by decide +kernel) rfl
theorem wd500 : Cond.instanceMethod ⟨"DecreePoolModel", "sendAll", "(IIIII)V"⟩ ∈ WL := WL_t 500 (by decide +kernel) rfl
theorem wd501 : Cond.code ⟨"DecreePoolModel", "sendAll", "(IIIII)V"⟩ prog_7_method_8_code 8 (Option.none : Option ClassFile.FieldType) ∈ WL := WL_t 501 (by decide +kernel) rfl
theorem wd502 : Cond.methodLink "DecreePoolModel" 81 ⟨"DecreePoolModel", "send", "(IIIIIII)I"⟩ ∈ WL := WL_t 502 (by decide +kernel) rfl
theorem wd504 : Cond.instanceMethod ⟨"DecreePoolModel", "send", "(IIIIIII)I"⟩ ∈ WL := WL_t 504 (by decide +kernel) rfl
theorem wd505 : Cond.code ⟨"DecreePoolModel", "send", "(IIIIIII)I"⟩ prog_7_method_7_code 9 (Option.some .int) ∈ WL := WL_t 505 (by decide +kernel) rfl
theorem wd506 : Cond.methodLink "DecreePoolLaw" 30 ⟨"DecreePoolModel", "deliver", "(I)I"⟩ ∈ WL := WL_t 506 (by decide +kernel) rfl
theorem wd507 : Cond.instanceMethod ⟨"DecreePoolModel", "deliver", "(I)I"⟩ ∈ WL := WL_t 507 (by decide +kernel) rfl
theorem wd508 : Cond.selects "DecreePoolModel" ⟨"DecreePoolModel", "deliver", "(I)I"⟩ ⟨"DecreePoolModel", "deliver", "(I)I"⟩ ∈ WL := WL_t 508 (by decide +kernel) rfl
theorem wd509 : Cond.code ⟨"DecreePoolModel", "deliver", "(I)I"⟩ prog_7_method_18_code 4 (Option.some .int) ∈ WL := WL_t 509 (by decide +kernel) rfl
theorem wd510 : Cond.methodLink "DecreePoolModel" 124 ⟨"DecreePoolModel", "isMessage", "(I)Z"⟩ ∈ WL := WL_t 510 (by decide +kernel) rfl
theorem wd512 : Cond.instanceMethod ⟨"DecreePoolModel", "isMessage", "(I)Z"⟩ ∈ WL := WL_t 512 (by decide +kernel) rfl
theorem wd513 : Cond.code ⟨"DecreePoolModel", "isMessage", "(I)Z"⟩ prog_7_method_4_code 2 (Option.some .boolean) ∈ WL := WL_t 513 (by decide +kernel) rfl
theorem wd514 : Cond.methodLink "DecreePoolModel" 127 ⟨"DecreePoolModel", "sends", "(I)I"⟩ ∈ WL := WL_t 514 (by decide +kernel) rfl
theorem wd516 : Cond.instanceMethod ⟨"DecreePoolModel", "sends", "(I)I"⟩ ∈ WL := WL_t 516 (by decide +kernel) rfl
theorem wd517 : Cond.code ⟨"DecreePoolModel", "sends", "(I)I"⟩ prog_7_method_13_code 3 (Option.some .int) ∈ WL := WL_t 517 (by decide +kernel) rfl
theorem wd518 : Cond.methodLink "DecreePoolModel" 100 ⟨"DecreePoolModel", "isAwaited", "(I)Z"⟩ ∈ WL := WL_t 518 (by decide +kernel) rfl
theorem wd520 : Cond.instanceMethod ⟨"DecreePoolModel", "isAwaited", "(I)Z"⟩ ∈ WL := WL_t 520 (by decide +kernel) rfl
theorem wd521 : Cond.code ⟨"DecreePoolModel", "isAwaited", "(I)Z"⟩ prog_7_method_11_code 3 (Option.some .boolean) ∈ WL := WL_t 521 (by decide +kernel) rfl
theorem wd522 : Cond.methodLink "DecreePoolModel" 103 ⟨"DecreePoolModel", "withPromise", "(I)I"⟩ ∈ WL := WL_t 522 (by decide +kernel) rfl
theorem wd524 : Cond.instanceMethod ⟨"DecreePoolModel", "withPromise", "(I)I"⟩ ∈ WL := WL_t 524 (by decide +kernel) rfl
theorem wd525 : Cond.code ⟨"DecreePoolModel", "withPromise", "(I)I"⟩ prog_7_method_12_code 2 (Option.some .int) ∈ WL := WL_t 525 (by decide +kernel) rfl
theorem wd526 : Cond.methodLink "DecreePoolModel" 107 ⟨"DecreePoolModel", "bits", "(I)I"⟩ ∈ WL := WL_t 526 (by decide +kernel) rfl
theorem wd527 : Cond.static ⟨"DecreePoolModel", "bits", "(I)I"⟩ ∈ WL := WL_t 527 (by decide +kernel) rfl
theorem wd528 : Cond.code ⟨"DecreePoolModel", "bits", "(I)I"⟩ prog_7_method_10_code 3 (Option.some .int) ∈ WL := WL_t 528 (by decide +kernel) rfl
theorem wd529 : Cond.methodLink "DecreePoolModel" 110 ⟨"DecreePoolModel", "isMajority", "(I)Z"⟩ ∈ WL := WL_t 529 (by decide +kernel) rfl
theorem wd531 : Cond.instanceMethod ⟨"DecreePoolModel", "isMajority", "(I)Z"⟩ ∈ WL := WL_t 531 (by decide +kernel) rfl
theorem wd532 : Cond.code ⟨"DecreePoolModel", "isMajority", "(I)Z"⟩ prog_7_method_5_code 2 (Option.some .boolean) ∈ WL := WL_t 532 (by decide +kernel) rfl
theorem wd533 : Cond.methodLink "DecreePoolModel" 136 ⟨"DecreePoolModel", "take", "(II)V"⟩ ∈ WL := WL_t 533 (by decide +kernel) rfl
theorem wd535 : Cond.instanceMethod ⟨"DecreePoolModel", "take", "(II)V"⟩ ∈ WL := WL_t 535 (by decide +kernel) rfl
theorem wd536 : Cond.code ⟨"DecreePoolModel", "take", "(II)V"⟩ prog_7_method_17_code 9 (Option.none : Option ClassFile.FieldType) ∈ WL := WL_t 536 (by decide +kernel) rfl
theorem wd537 : Cond.methodLink "DecreePoolModel" 117 ⟨"DecreePoolModel", "promise", "(I)V"⟩ ∈ WL := WL_t 537 (by decide +kernel) rfl
theorem wd539 : Cond.instanceMethod ⟨"DecreePoolModel", "promise", "(I)V"⟩ ∈ WL := WL_t 539 (by decide +kernel) rfl
theorem wd540 : Cond.code ⟨"DecreePoolModel", "promise", "(I)V"⟩ prog_7_method_14_code 3 (Option.none : Option ClassFile.FieldType) ∈ WL := WL_t 540 (by decide +kernel) rfl
theorem wd541 : Cond.methodLink "DecreePoolModel" 121 ⟨"DecreePoolModel", "hear", "(I)V"⟩ ∈ WL := WL_t 541 (by decide +kernel) rfl
theorem wd543 : Cond.instanceMethod ⟨"DecreePoolModel", "hear", "(I)V"⟩ ∈ WL := WL_t 543 (by decide +kernel) rfl
theorem wd544 : Cond.code ⟨"DecreePoolModel", "hear", "(I)V"⟩ prog_7_method_15_code 6 (Option.none : Option ClassFile.FieldType) ∈ WL := WL_t 544 (by decide +kernel) rfl
theorem wd545 : Cond.methodLink "DecreePoolModel" 113 ⟨"DecreePoolModel", "learn", "(III)V"⟩ ∈ WL := WL_t 545 (by decide +kernel) rfl
theorem wd547 : Cond.instanceMethod ⟨"DecreePoolModel", "learn", "(III)V"⟩ ∈ WL := WL_t 547 (by decide +kernel) rfl
theorem wd548 : Cond.code ⟨"DecreePoolModel", "learn", "(III)V"⟩ prog_7_method_16_code 5 (Option.none : Option ClassFile.FieldType) ∈ WL := WL_t 548 (by decide +kernel) rfl
theorem wd549 : Cond.methodLink "DecreePoolLaw" 34 ⟨"DecreePoolModel", "sweep", "(I)I"⟩ ∈ WL := WL_t 549 (by decide +kernel) rfl
theorem wd550 : Cond.instanceMethod ⟨"DecreePoolModel", "sweep", "(I)I"⟩ ∈ WL := WL_t 550 (by decide +kernel) rfl
theorem wd551 : Cond.selects "DecreePoolModel" ⟨"DecreePoolModel", "sweep", "(I)I"⟩ ⟨"DecreePoolModel", "sweep", "(I)I"⟩ ∈ WL := WL_t 551 (by decide +kernel) rfl
theorem wd552 : Cond.code ⟨"DecreePoolModel", "sweep", "(I)I"⟩ prog_7_method_19_code 4 (Option.some .int) ∈ WL := WL_t 552 (by decide +kernel) rfl
theorem wd553 : Cond.methodLink "DecreePoolModel" 140 ⟨"DecreePoolModel", "deliver", "(I)I"⟩ ∈ WL := WL_t 553 (by decide +kernel) rfl
theorem wd554 : Cond.methodLink "DecreePoolLaw" 38 ⟨"DecreePoolModel", "drop", "(I)I"⟩ ∈ WL := WL_t 554 (by decide +kernel) rfl
theorem wd555 : Cond.instanceMethod ⟨"DecreePoolModel", "drop", "(I)I"⟩ ∈ WL := WL_t 555 (by decide +kernel) rfl
theorem wd556 : Cond.selects "DecreePoolModel" ⟨"DecreePoolModel", "drop", "(I)I"⟩ ⟨"DecreePoolModel", "drop", "(I)I"⟩ ∈ WL := WL_t 556 (by decide +kernel) rfl
theorem wd557 : Cond.code ⟨"DecreePoolModel", "drop", "(I)I"⟩ prog_7_method_20_code 3 (Option.some .int) ∈ WL := WL_t 557 (by decide +kernel) rfl
theorem wd558 : Cond.methodLink "DecreePoolLaw" 42 ⟨"DecreePoolModel", "duplicate", "(I)I"⟩ ∈ WL := WL_t 558 (by decide +kernel) rfl
theorem wd559 : Cond.instanceMethod ⟨"DecreePoolModel", "duplicate", "(I)I"⟩ ∈ WL := WL_t 559 (by decide +kernel) rfl
theorem wd560 : Cond.selects "DecreePoolModel" ⟨"DecreePoolModel", "duplicate", "(I)I"⟩ ⟨"DecreePoolModel", "duplicate", "(I)I"⟩ ∈ WL := WL_t 560 (by decide +kernel) rfl
theorem wd561 : Cond.code ⟨"DecreePoolModel", "duplicate", "(I)I"⟩ prog_7_method_21_code 2 (Option.some .int) ∈ WL := WL_t 561 (by decide +kernel) rfl
theorem wd562 : Cond.methodLink "DecreePoolLaw" 46 ⟨"DecreePoolModel", "crash", "(I)I"⟩ ∈ WL := WL_t 562 (by decide +kernel) rfl
theorem wd563 : Cond.instanceMethod ⟨"DecreePoolModel", "crash", "(I)I"⟩ ∈ WL := WL_t 563 (by decide +kernel) rfl
theorem wd564 : Cond.selects "DecreePoolModel" ⟨"DecreePoolModel", "crash", "(I)I"⟩ ⟨"DecreePoolModel", "crash", "(I)I"⟩ ∈ WL := WL_t 564 (by decide +kernel) rfl
theorem wd565 : Cond.code ⟨"DecreePoolModel", "crash", "(I)I"⟩ prog_7_method_23_code 2 (Option.some .int) ∈ WL := WL_t 565 (by decide +kernel) rfl
theorem wd566 : Cond.methodLink "DecreePoolModel" 143 ⟨"DecreePoolModel", "up", "()I"⟩ ∈ WL := WL_t 566 (by decide +kernel) rfl
theorem wd568 : Cond.instanceMethod ⟨"DecreePoolModel", "up", "()I"⟩ ∈ WL := WL_t 568 (by decide +kernel) rfl
theorem wd569 : Cond.code ⟨"DecreePoolModel", "up", "()I"⟩ prog_7_method_22_code 3 (Option.some .int) ∈ WL := WL_t 569 (by decide +kernel) rfl
theorem wd570 : Cond.methodLink "DecreePoolLaw" 50 ⟨"DecreePoolModel", "restart", "(I)I"⟩ ∈ WL := WL_t 570 (by decide +kernel) rfl
theorem wd571 : Cond.instanceMethod ⟨"DecreePoolModel", "restart", "(I)I"⟩ ∈ WL := WL_t 571 (by decide +kernel) rfl
theorem wd572 : Cond.selects "DecreePoolModel" ⟨"DecreePoolModel", "restart", "(I)I"⟩ ⟨"DecreePoolModel", "restart", "(I)I"⟩ ∈ WL := WL_t 572 (by decide +kernel) rfl
theorem wd573 : Cond.code ⟨"DecreePoolModel", "restart", "(I)I"⟩ prog_7_method_24_code 4 (Option.some .int) ∈ WL := WL_t 573 (by decide +kernel) rfl
theorem wd574 : Cond.methodLink "DecreePoolLaw" 55 ⟨"DecreePoolModel", "tell", "(II)I"⟩ ∈ WL := WL_t 574 (by decide +kernel) rfl
theorem wd575 : Cond.instanceMethod ⟨"DecreePoolModel", "tell", "(II)I"⟩ ∈ WL := WL_t 575 (by decide +kernel) rfl
theorem wd576 : Cond.selects "DecreePoolModel" ⟨"DecreePoolModel", "tell", "(II)I"⟩ ⟨"DecreePoolModel", "tell", "(II)I"⟩ ∈ WL := WL_t 576 (by decide +kernel) rfl
theorem wd577 : Cond.code ⟨"DecreePoolModel", "tell", "(II)I"⟩ prog_7_method_25_code 3 (Option.some .int) ∈ WL := WL_t 577 (by decide +kernel) rfl
theorem wd578 : Cond.methodLink "DecreePoolLaw" 59 ⟨"DecreePoolModel", "learned", "(II)I"⟩ ∈ WL := WL_t 578 (by decide +kernel) rfl
theorem wd579 : Cond.instanceMethod ⟨"DecreePoolModel", "learned", "(II)I"⟩ ∈ WL := WL_t 579 (by decide +kernel) rfl
theorem wd580 : Cond.selects "DecreePoolModel" ⟨"DecreePoolModel", "learned", "(II)I"⟩ ⟨"DecreePoolModel", "learned", "(II)I"⟩ ∈ WL := WL_t 580 (by decide +kernel) rfl
theorem wd581 : Cond.code ⟨"DecreePoolModel", "learned", "(II)I"⟩ prog_7_method_26_code 3 (Option.some .int) ∈ WL := WL_t 581 (by decide +kernel) rfl
theorem wd582 : Cond.methodLink "DecreePoolLaw" 64 ⟨"DecreePoolModel", "acceptor", "(III)I"⟩ ∈ WL := WL_t 582 (by decide +kernel) rfl
theorem wd583 : Cond.instanceMethod ⟨"DecreePoolModel", "acceptor", "(III)I"⟩ ∈ WL := WL_t 583 (by decide +kernel) rfl
theorem wd584 : Cond.selects "DecreePoolModel" ⟨"DecreePoolModel", "acceptor", "(III)I"⟩ ⟨"DecreePoolModel", "acceptor", "(III)I"⟩ ∈ WL := WL_t 584 (by decide +kernel) rfl
theorem wd585 : Cond.code ⟨"DecreePoolModel", "acceptor", "(III)I"⟩ prog_7_method_27_code 5 (Option.some .int) ∈ WL := WL_t 585 (by decide +kernel) rfl
theorem wd586 : Cond.methodLink "DecreePoolLaw" 68 ⟨"DecreePoolModel", "proposer", "(III)I"⟩ ∈ WL := WL_t 586 (by decide +kernel) rfl
theorem wd587 : Cond.instanceMethod ⟨"DecreePoolModel", "proposer", "(III)I"⟩ ∈ WL := WL_t 587 (by decide +kernel) rfl
theorem wd588 : Cond.selects "DecreePoolModel" ⟨"DecreePoolModel", "proposer", "(III)I"⟩ ⟨"DecreePoolModel", "proposer", "(III)I"⟩ ∈ WL := WL_t 588 (by decide +kernel) rfl
theorem wd589 : Cond.code ⟨"DecreePoolModel", "proposer", "(III)I"⟩ prog_7_method_28_code 6 (Option.some .int) ∈ WL := WL_t 589 (by decide +kernel) rfl
theorem wd590 : Cond.methodLink "DecreePoolLaw" 72 ⟨"DecreePoolModel", "heard", "(III)I"⟩ ∈ WL := WL_t 590 (by decide +kernel) rfl
theorem wd591 : Cond.instanceMethod ⟨"DecreePoolModel", "heard", "(III)I"⟩ ∈ WL := WL_t 591 (by decide +kernel) rfl
theorem wd592 : Cond.selects "DecreePoolModel" ⟨"DecreePoolModel", "heard", "(III)I"⟩ ⟨"DecreePoolModel", "heard", "(III)I"⟩ ∈ WL := WL_t 592 (by decide +kernel) rfl
theorem wd593 : Cond.code ⟨"DecreePoolModel", "heard", "(III)I"⟩ prog_7_method_29_code 4 (Option.some .int) ∈ WL := WL_t 593 (by decide +kernel) rfl
theorem wd594 : Cond.methodLink "DecreePoolLaw" 76 ⟨"DecreePoolModel", "message", "(II)I"⟩ ∈ WL := WL_t 594 (by decide +kernel) rfl
theorem wd595 : Cond.instanceMethod ⟨"DecreePoolModel", "message", "(II)I"⟩ ∈ WL := WL_t 595 (by decide +kernel) rfl
theorem wd596 : Cond.selects "DecreePoolModel" ⟨"DecreePoolModel", "message", "(II)I"⟩ ⟨"DecreePoolModel", "message", "(II)I"⟩ ∈ WL := WL_t 596 (by decide +kernel) rfl
theorem wd597 : Cond.code ⟨"DecreePoolModel", "message", "(II)I"⟩ prog_7_method_30_code 3 (Option.some .int) ∈ WL := WL_t 597 (by decide +kernel) rfl
theorem wd598 : Cond.methodLink "DecreePoolLaw" 80 ⟨"DecreePoolModel", "chosen", "(I)I"⟩ ∈ WL := WL_t 598 (by decide +kernel) rfl
theorem wd599 : Cond.instanceMethod ⟨"DecreePoolModel", "chosen", "(I)I"⟩ ∈ WL := WL_t 599 (by decide +kernel) rfl
theorem wd600 : Cond.selects "DecreePoolModel" ⟨"DecreePoolModel", "chosen", "(I)I"⟩ ⟨"DecreePoolModel", "chosen", "(I)I"⟩ ∈ WL := WL_t 600 (by decide +kernel) rfl
theorem wd601 : Cond.code ⟨"DecreePoolModel", "chosen", "(I)I"⟩ prog_7_method_31_code 6 (Option.some .int) ∈ WL := WL_t 601 (by decide +kernel) rfl
theorem wd602 : Cond.methodLink "DecreePoolLaw" 84 ⟨"DecreePoolModel", "prefix", "(I)I"⟩ ∈ WL := WL_t 602 (by decide +kernel) rfl
theorem wd603 : Cond.instanceMethod ⟨"DecreePoolModel", "prefix", "(I)I"⟩ ∈ WL := WL_t 603 (by decide +kernel) rfl
theorem wd604 : Cond.selects "DecreePoolModel" ⟨"DecreePoolModel", "prefix", "(I)I"⟩ ⟨"DecreePoolModel", "prefix", "(I)I"⟩ ∈ WL := WL_t 604 (by decide +kernel) rfl
theorem wd605 : Cond.code ⟨"DecreePoolModel", "prefix", "(I)I"⟩ prog_7_method_32_code 3 (Option.some .int) ∈ WL := WL_t 605 (by decide +kernel) rfl
theorem wd606 : Cond.methodLink "DecreePoolLaw" 89 ⟨"DecreePoolModel", "applied", "(I)J"⟩ ∈ WL := WL_t 606 (by decide +kernel) rfl
theorem wd607 : Cond.instanceMethod ⟨"DecreePoolModel", "applied", "(I)J"⟩ ∈ WL := WL_t 607 (by decide +kernel) rfl
theorem wd608 : Cond.selects "DecreePoolModel" ⟨"DecreePoolModel", "applied", "(I)J"⟩ ⟨"DecreePoolModel", "applied", "(I)J"⟩ ∈ WL := WL_t 608 (by decide +kernel) rfl
theorem wd609 : Cond.code ⟨"DecreePoolModel", "applied", "(I)J"⟩ prog_7_method_33_code 7 (Option.some .long) ∈ WL := WL_t 609 (by decide +kernel) rfl
theorem wd610 : Cond.methodLink "DecreePoolModel" 146 ⟨"DecreePoolModel", "prefix", "(I)I"⟩ ∈ WL := WL_t 610 (by decide +kernel) rfl
theorem wd611 : Cond.constantLong "DecreePoolModel" 149 2 ∈ WL := WL_t 611 (by decide +kernel) rfl
theorem wd612 : Cond.methodLink "DecreePoolLaw" 93 ⟨"DecreePoolModel", "count", "(I)I"⟩ ∈ WL := WL_t 612 (by decide +kernel) rfl
theorem wd613 : Cond.instanceMethod ⟨"DecreePoolModel", "count", "(I)I"⟩ ∈ WL := WL_t 613 (by decide +kernel) rfl
theorem wd614 : Cond.selects "DecreePoolModel" ⟨"DecreePoolModel", "count", "(I)I"⟩ ⟨"DecreePoolModel", "count", "(I)I"⟩ ∈ WL := WL_t 614 (by decide +kernel) rfl
theorem wd615 : Cond.code ⟨"DecreePoolModel", "count", "(I)I"⟩ prog_7_method_34_code 4 (Option.some .int) ∈ WL := WL_t 615 (by decide +kernel) rfl
theorem uDecreePool_in : ∀ w ∈ u_ws RDecreePool TDecreePool 9, w ∈ WL := by
  intro w hw
  obtain ⟨j, hj, rfl⟩ := List.mem_map.mp hw
  have hj := List.mem_range.mp hj
  rcases (show j = 0 ∨ j = 1 ∨ j = 2 ∨ j = 3 ∨ j = 4 ∨ j = 5 ∨ j = 6 ∨ j = 7 ∨ j = 8 by omega) with rfl | rfl | rfl | rfl | rfl | rfl | rfl | rfl | rfl
  · exact wd114
  · exact wd116
  · exact wd118
  · exact wd120
  · exact wd122
  · exact wd124
  · exact wd126
  · exact wd128
  · exact wd130
theorem uPool_in : ∀ w ∈ u_ws RPool TPool 3, w ∈ WL := by
  intro w hw
  obtain ⟨j, hj, rfl⟩ := List.mem_map.mp hw
  have hj := List.mem_range.mp hj
  rcases (show j = 0 ∨ j = 1 ∨ j = 2 by omega) with rfl | rfl | rfl
  · exact wd29
  · exact wd31
  · exact wd33
theorem uProposers_in : ∀ w ∈ u_ws RProposers TProposers 6, w ∈ WL := by
  intro w hw
  obtain ⟨j, hj, rfl⟩ := List.mem_map.mp hw
  have hj := List.mem_range.mp hj
  rcases (show j = 0 ∨ j = 1 ∨ j = 2 ∨ j = 3 ∨ j = 4 ∨ j = 5 by omega) with rfl | rfl | rfl | rfl | rfl | rfl
  · exact wd52
  · exact wd54
  · exact wd56
  · exact wd58
  · exact wd60
  · exact wd62
theorem uAcceptors_in : ∀ w ∈ u_ws RAcceptors TAcceptors 5, w ∈ WL := by
  intro w hw
  obtain ⟨j, hj, rfl⟩ := List.mem_map.mp hw
  have hj := List.mem_range.mp hj
  rcases (show j = 0 ∨ j = 1 ∨ j = 2 ∨ j = 3 ∨ j = 4 by omega) with rfl | rfl | rfl | rfl | rfl
  · exact wd77
  · exact wd79
  · exact wd81
  · exact wd83
  · exact wd85
theorem uLearners_in : ∀ w ∈ u_ws RLearners TLearners 3, w ∈ WL := by
  intro w hw
  obtain ⟨j, hj, rfl⟩ := List.mem_map.mp hw
  have hj := List.mem_range.mp hj
  rcases (show j = 0 ∨ j = 1 ∨ j = 2 by omega) with rfl | rfl | rfl
  · exact wd98
  · exact wd100
  · exact wd102
theorem uModel_in : ∀ w ∈ u_ws RModel TModel 25, w ∈ WL := by
  intro w hw
  obtain ⟨j, hj, rfl⟩ := List.mem_map.mp hw
  have hj := List.mem_range.mp hj
  rcases (show j = 0 ∨ j = 1 ∨ j = 2 ∨ j = 3 ∨ j = 4 ∨ j = 5 ∨ j = 6 ∨ j = 7 ∨ j = 8 ∨ j = 9 ∨ j = 10 ∨ j = 11 ∨ j = 12 ∨ j = 13 ∨ j = 14 ∨ j = 15 ∨ j = 16 ∨ j = 17 ∨ j = 18 ∨ j = 19 ∨ j = 20 ∨ j = 21 ∨ j = 22 ∨ j = 23 ∨ j = 24 by omega) with rfl | rfl | rfl | rfl | rfl | rfl | rfl | rfl | rfl | rfl | rfl | rfl | rfl | rfl | rfl | rfl | rfl | rfl | rfl | rfl | rfl | rfl | rfl | rfl | rfl
  · exact wd430
  · exact wd432
  · exact wd434
  · exact wd436
  · exact wd438
  · exact wd440
  · exact wd442
  · exact wd444
  · exact wd446
  · exact wd448
  · exact wd450
  · exact wd452
  · exact wd454
  · exact wd456
  · exact wd458
  · exact wd460
  · exact wd462
  · exact wd464
  · exact wd466
  · exact wd468
  · exact wd470
  · exact wd472
  · exact wd474
  · exact wd476
  · exact wd478
theorem sl_DecreePool_hasSeat : Cond.selects "DecreePool" ⟨"DecreePool", "hasSeat", "(II)Z"⟩ ⟨"DecreePool", "hasSeat", "(II)Z"⟩ ∈ WL := WL_s (q := (⟨"DecreePool", "hasSeat", "(II)Z"⟩, 9)) (List.mem_append_left _ (List.mem_of_getElem? (i := 0) rfl))
theorem sl_DecreePool_hasNode : Cond.selects "DecreePool" ⟨"DecreePool", "hasNode", "(I)Z"⟩ ⟨"DecreePool", "hasNode", "(I)Z"⟩ ∈ WL := WL_s (q := (⟨"DecreePool", "hasNode", "(I)Z"⟩, 9)) (List.mem_append_left _ (List.mem_of_getElem? (i := 1) rfl))
theorem sl_DecreePool_hasSlot : Cond.selects "DecreePool" ⟨"DecreePool", "hasSlot", "(I)Z"⟩ ⟨"DecreePool", "hasSlot", "(I)Z"⟩ ∈ WL := WL_s (q := (⟨"DecreePool", "hasSlot", "(I)Z"⟩, 9)) (List.mem_append_left _ (List.mem_of_getElem? (i := 2) rfl))
theorem sl_DecreePool_isUp : Cond.selects "DecreePool" ⟨"DecreePool", "isUp", "(I)Z"⟩ ⟨"DecreePool", "isUp", "(I)Z"⟩ ∈ WL := WL_s (q := (⟨"DecreePool", "isUp", "(I)Z"⟩, 9)) (List.mem_append_left _ (List.mem_of_getElem? (i := 3) rfl))
theorem sl_DecreePool_seatOf : Cond.selects "DecreePool" ⟨"DecreePool", "seatOf", "(II)I"⟩ ⟨"DecreePool", "seatOf", "(II)I"⟩ ∈ WL := WL_s (q := (⟨"DecreePool", "seatOf", "(II)I"⟩, 9)) (List.mem_append_left _ (List.mem_of_getElem? (i := 4) rfl))
theorem sl_DecreePool_sendToAll : Cond.selects "DecreePool" ⟨"DecreePool", "sendToAll", "(IIIII)V"⟩ ⟨"DecreePool", "sendToAll", "(IIIII)V"⟩ ∈ WL := WL_s (q := (⟨"DecreePool", "sendToAll", "(IIIII)V"⟩, 9)) (List.mem_append_left _ (List.mem_of_getElem? (i := 5) rfl))
theorem sl_Pool_leastEmpty : Cond.selects "DecreePool$Pool" ⟨"DecreePool$Pool", "leastEmpty", "()I"⟩ ⟨"DecreePool$Pool", "leastEmpty", "()I"⟩ ∈ WL := WL_s (q := (⟨"DecreePool$Pool", "leastEmpty", "()I"⟩, 3)) (List.mem_append_left _ (List.mem_of_getElem? (i := 6) rfl))
theorem sl_DecreePool_isDeliverable : Cond.selects "DecreePool" ⟨"DecreePool", "isDeliverable", "(I)Z"⟩ ⟨"DecreePool", "isDeliverable", "(I)Z"⟩ ∈ WL := WL_s (q := (⟨"DecreePool", "isDeliverable", "(I)Z"⟩, 9)) (List.mem_append_left _ (List.mem_of_getElem? (i := 7) rfl))
theorem sl_DecreePool_isAnsweredToAll : Cond.selects "DecreePool" ⟨"DecreePool", "isAnsweredToAll", "(I)Z"⟩ ⟨"DecreePool", "isAnsweredToAll", "(I)Z"⟩ ∈ WL := WL_s (q := (⟨"DecreePool", "isAnsweredToAll", "(I)Z"⟩, 9)) (List.mem_append_left _ (List.mem_of_getElem? (i := 8) rfl))
theorem sl_Proposers_awaits : Cond.selects "DecreePool$Proposers" ⟨"DecreePool$Proposers", "awaits", "(II)Z"⟩ ⟨"DecreePool$Proposers", "awaits", "(II)Z"⟩ ∈ WL := WL_s (q := (⟨"DecreePool$Proposers", "awaits", "(II)Z"⟩, 6)) (List.mem_append_left _ (List.mem_of_getElem? (i := 9) rfl))
theorem sl_DecreePool_handOver : Cond.selects "DecreePool" ⟨"DecreePool", "handOver", "(I)I"⟩ ⟨"DecreePool", "handOver", "(I)I"⟩ ∈ WL := WL_s (q := (⟨"DecreePool", "handOver", "(I)I"⟩, 9)) (List.mem_append_left _ (List.mem_of_getElem? (i := 10) rfl))
theorem sl_Learners_nodesHeardWith : Cond.selects "DecreePool$Learners" ⟨"DecreePool$Learners", "nodesHeardWith", "(II)I"⟩ ⟨"DecreePool$Learners", "nodesHeardWith", "(II)I"⟩ ∈ WL := WL_s (q := (⟨"DecreePool$Learners", "nodesHeardWith", "(II)I"⟩, 3)) (List.mem_append_left _ (List.mem_of_getElem? (i := 11) rfl))
theorem sl_DecreePool_leastDeliverable : Cond.selects "DecreePool" ⟨"DecreePool", "leastDeliverable", "()I"⟩ ⟨"DecreePool", "leastDeliverable", "()I"⟩ ∈ WL := WL_s (q := (⟨"DecreePool", "leastDeliverable", "()I"⟩, 9)) (List.mem_append_left _ (List.mem_of_getElem? (i := 12) rfl))
theorem sl_Acceptors_acceptorsOf : Cond.selects "DecreePool$Acceptors" ⟨"DecreePool$Acceptors", "acceptorsOf", "(II)I"⟩ ⟨"DecreePool$Acceptors", "acceptorsOf", "(II)I"⟩ ∈ WL := WL_s (q := (⟨"DecreePool$Acceptors", "acceptorsOf", "(II)I"⟩, 5)) (List.mem_append_left _ (List.mem_of_getElem? (i := 13) rfl))
theorem sl_DecreePool_prefixLength : Cond.selects "DecreePool" ⟨"DecreePool", "prefixLength", "(I)I"⟩ ⟨"DecreePool", "prefixLength", "(I)I"⟩ ∈ WL := WL_s (q := (⟨"DecreePool", "prefixLength", "(I)I"⟩, 9)) (List.mem_append_left _ (List.mem_of_getElem? (i := 14) rfl))
theorem sl_Model_isNode : Cond.selects "DecreePoolModel" ⟨"DecreePoolModel", "isNode", "(I)Z"⟩ ⟨"DecreePoolModel", "isNode", "(I)Z"⟩ ∈ WL := WL_s (q := (⟨"DecreePoolModel", "isNode", "(I)Z"⟩, 25)) (List.mem_append_left _ (List.mem_of_getElem? (i := 15) rfl))
theorem sl_Model_isSlot : Cond.selects "DecreePoolModel" ⟨"DecreePoolModel", "isSlot", "(I)Z"⟩ ⟨"DecreePoolModel", "isSlot", "(I)Z"⟩ ∈ WL := WL_s (q := (⟨"DecreePoolModel", "isSlot", "(I)Z"⟩, 25)) (List.mem_append_right _ (List.mem_of_getElem? (i := 0) rfl))
theorem sl_Model_empty : Cond.selects "DecreePoolModel" ⟨"DecreePoolModel", "empty", "()I"⟩ ⟨"DecreePoolModel", "empty", "()I"⟩ ∈ WL := WL_s (q := (⟨"DecreePoolModel", "empty", "()I"⟩, 25)) (List.mem_append_right _ (List.mem_of_getElem? (i := 1) rfl))
theorem sl_Model_sendAll : Cond.selects "DecreePoolModel" ⟨"DecreePoolModel", "sendAll", "(IIIII)V"⟩ ⟨"DecreePoolModel", "sendAll", "(IIIII)V"⟩ ∈ WL := WL_s (q := (⟨"DecreePoolModel", "sendAll", "(IIIII)V"⟩, 25)) (List.mem_append_right _ (List.mem_of_getElem? (i := 2) rfl))
theorem sl_Model_send : Cond.selects "DecreePoolModel" ⟨"DecreePoolModel", "send", "(IIIIIII)I"⟩ ⟨"DecreePoolModel", "send", "(IIIIIII)I"⟩ ∈ WL := WL_s (q := (⟨"DecreePoolModel", "send", "(IIIIIII)I"⟩, 25)) (List.mem_append_right _ (List.mem_of_getElem? (i := 3) rfl))
theorem sl_Model_isMessage : Cond.selects "DecreePoolModel" ⟨"DecreePoolModel", "isMessage", "(I)Z"⟩ ⟨"DecreePoolModel", "isMessage", "(I)Z"⟩ ∈ WL := WL_s (q := (⟨"DecreePoolModel", "isMessage", "(I)Z"⟩, 25)) (List.mem_append_right _ (List.mem_of_getElem? (i := 4) rfl))
theorem sl_Model_sends : Cond.selects "DecreePoolModel" ⟨"DecreePoolModel", "sends", "(I)I"⟩ ⟨"DecreePoolModel", "sends", "(I)I"⟩ ∈ WL := WL_s (q := (⟨"DecreePoolModel", "sends", "(I)I"⟩, 25)) (List.mem_append_right _ (List.mem_of_getElem? (i := 5) rfl))
theorem sl_Model_isAwaited : Cond.selects "DecreePoolModel" ⟨"DecreePoolModel", "isAwaited", "(I)Z"⟩ ⟨"DecreePoolModel", "isAwaited", "(I)Z"⟩ ∈ WL := WL_s (q := (⟨"DecreePoolModel", "isAwaited", "(I)Z"⟩, 25)) (List.mem_append_right _ (List.mem_of_getElem? (i := 6) rfl))
theorem sl_Model_withPromise : Cond.selects "DecreePoolModel" ⟨"DecreePoolModel", "withPromise", "(I)I"⟩ ⟨"DecreePoolModel", "withPromise", "(I)I"⟩ ∈ WL := WL_s (q := (⟨"DecreePoolModel", "withPromise", "(I)I"⟩, 25)) (List.mem_append_right _ (List.mem_of_getElem? (i := 7) rfl))
theorem sl_Model_isMajority : Cond.selects "DecreePoolModel" ⟨"DecreePoolModel", "isMajority", "(I)Z"⟩ ⟨"DecreePoolModel", "isMajority", "(I)Z"⟩ ∈ WL := WL_s (q := (⟨"DecreePoolModel", "isMajority", "(I)Z"⟩, 25)) (List.mem_append_right _ (List.mem_of_getElem? (i := 8) rfl))
theorem sl_Model_take : Cond.selects "DecreePoolModel" ⟨"DecreePoolModel", "take", "(II)V"⟩ ⟨"DecreePoolModel", "take", "(II)V"⟩ ∈ WL := WL_s (q := (⟨"DecreePoolModel", "take", "(II)V"⟩, 25)) (List.mem_append_right _ (List.mem_of_getElem? (i := 9) rfl))
theorem sl_Model_promise : Cond.selects "DecreePoolModel" ⟨"DecreePoolModel", "promise", "(I)V"⟩ ⟨"DecreePoolModel", "promise", "(I)V"⟩ ∈ WL := WL_s (q := (⟨"DecreePoolModel", "promise", "(I)V"⟩, 25)) (List.mem_append_right _ (List.mem_of_getElem? (i := 10) rfl))
theorem sl_Model_hear : Cond.selects "DecreePoolModel" ⟨"DecreePoolModel", "hear", "(I)V"⟩ ⟨"DecreePoolModel", "hear", "(I)V"⟩ ∈ WL := WL_s (q := (⟨"DecreePoolModel", "hear", "(I)V"⟩, 25)) (List.mem_append_right _ (List.mem_of_getElem? (i := 11) rfl))
theorem sl_Model_learn : Cond.selects "DecreePoolModel" ⟨"DecreePoolModel", "learn", "(III)V"⟩ ⟨"DecreePoolModel", "learn", "(III)V"⟩ ∈ WL := WL_s (q := (⟨"DecreePoolModel", "learn", "(III)V"⟩, 25)) (List.mem_append_right _ (List.mem_of_getElem? (i := 12) rfl))
theorem sl_Model_up : Cond.selects "DecreePoolModel" ⟨"DecreePoolModel", "up", "()I"⟩ ⟨"DecreePoolModel", "up", "()I"⟩ ∈ WL := WL_s (q := (⟨"DecreePoolModel", "up", "()I"⟩, 25)) (List.mem_append_right _ (List.mem_of_getElem? (i := 13) rfl))
end
section
/-! My own rows over the kit: a world before and behind a method, a call as one row, arrays at numbered places -/
abbrev PW (D : va_G) (tys : List (ClassId × FieldType)) (sz : Nat) (w : va_W) (U : State) : Prop :=
  U.heap.size = sz ∧ va_P D vwCl w U.heap ∧ va_K D vwCl tys U ∧ va_D (fun _ => True) w ∧ NZ U
abbrev QW (D : va_G) (tys : List (ClassId × FieldType)) (A : Nat → Prop) (w : va_W) (t : State) : Prop :=
  va_P D vwCl w t.heap ∧ va_K D vwCl tys t ∧ va_D A w
/-- a method that makes nothing and answers an int; its world goes from w to what post says -/
def MI (l : Launch) (D : va_G) (tys : List (ClassId × FieldType)) (y : MethodName) (ws : List Cond) (rm : Room) (av : List Value) (w : va_W) (post : Int32 → va_W → Prop) : Prop :=
  ∀ sz : Nat, Met l y ws rm (va_Pc av (PW D tys sz w)) (va_Qi post (QW D tys (va_A w sz)) (va_A w sz)) 0 0 (va_A w sz)
def ML (l : Launch) (D : va_G) (tys : List (ClassId × FieldType)) (y : MethodName) (ws : List Cond) (rm : Room) (av : List Value) (w : va_W) (post : Int64 → va_W → Prop) : Prop :=
  ∀ sz : Nat, Met l y ws rm (va_Pc av (PW D tys sz w)) (va_Ql post (QW D tys (va_A w sz)) (va_A w sz)) 0 0 (va_A w sz)
def MV (l : Launch) (D : va_G) (tys : List (ClassId × FieldType)) (y : MethodName) (ws : List Cond) (rm : Room) (av : List Value) (w : va_W) (post : va_W → Prop) : Prop :=
  ∀ sz : Nat, Met l y ws rm (va_Pc av (PW D tys sz w)) (va_Qv post (QW D tys (va_A w sz)) (va_A w sz)) 0 0 (va_A w sz)
theorem fb_PW {av : List Value} {D : va_G} {tys : List (ClassId × FieldType)} {sz : Nat} {w : va_W} : FrameBlind (va_Pc av (PW D tys sz w)) :=
  fun a U g mk q => by
    obtain ⟨q0, q1, qP, qK, qD, qZ⟩ := q
    exact ⟨q0, q1, qP, va_K.moved (u := U) (U := U.calling g mk a) (Vm.Alike.refl U.vm) qK, qD, qZ.same rfl⟩
theorem pre_PW {s : State} {H : Heap} {A : Nat → Prop} {av : List Value} {D : va_G} {tys : List (ClassId × FieldType)} {w : va_W} (hK : va_K D vwCl tys s) (hP : va_P D vwCl w H) (hD : va_D A w) (hZ : NZ s) :
    ∀ U : State, U.heap = H → s.WarmedH U.vm → va_Pc av (PW D tys H.size w) av.toArray U :=
  fun U hU hW => ⟨rfl, by rw [hU], by rw [hU]; exact hP, va_K.moved hW.alike hK, hD.weaken (fun _ _ _ _ => trivial), hZ.moved hW⟩
/-- the cells at these places -/
def pickW (w : va_W) (is : List Nat) : va_W := is.filterMap (fun i => w[i]?)
section KX
variable {p : Program} {l : Launch} {e : Env} {R : Room} {s : State} {m : MethodId} {args : Array Value} {below : List Frame} {meth : Method} {c : Code} {H H0 : Heap} {locs : List Loc} {cells slots : Nat} {Q : State → Prop} {A0 : Nat → Prop} {D : va_G} {tys : List (ClassId × FieldType)}
variable {y : MethodName} {bytes cc : ByteArray} {maxL nL n index : Nat} {ret : Option FieldType} {ws : List Cond} {rm : Room} {Ts : List Cond} {own C host : String} {b : Addr} {As rest : List Value} {wc w : va_W} {pc : Nat} {ls : Array Slot} {st0 : List Value}
theorem kx_i {a : Array Value} {post : Int32 → va_W → Prop}
    (hr : va_Run p l e R s m args below meth c H locs cells slots 0 0 (F0 m pc ls st0) rest (va_Qi post (QW D tys (va_A wc H.size)) (va_A wc H.size) a) (va_A wc H.size))
    (hP : va_P D vwCl w H) (hD : va_D A0 w) (hS : va_S A0 H0 H locs) (hA : ∀ q, H0.size ≤ q → A0 q) (isC isR : List Nat) (hC : isC.map (fun i => w[i]?) = wc.map some) (hR : isR.map (fun i => w[i]?) = (pickW w isR).map some) (hn : va_nd isR = true) (hdis : ∀ i ∈ isR, i ∉ isC)
    (kk : ∀ (r : Int32) (w1 : va_W) (H1 : Heap) (locs1 : List Loc), post r w1 → va_P D vwCl (pickW w isR ++ w1) H1 → va_D A0 (pickW w isR ++ w1) → va_S A0 H0 H1 locs1 → W p l e R s m args below meth c H1 locs1 cells slots Q (F0 m (pc + 3) ls (.int r :: rest))) :
    W p l e R s m args below meth c H locs cells slots Q (F0 m pc ls st0) := by
  have hF := va_free hD hS hA isC hC
  refine va_calli hr hS (fun q _ h => hF q h) hF (fun r u t H1 locs1 ht hvm hw hB hz hk hS1 => ?_)
  obtain ⟨hP1, hK1, hD1⟩ := hB
  rw [ht] at hP1
  obtain ⟨x1, x2⟩ := va_join hP hD isC isR hC hR hn hdis hk hF hP1 hD1
  exact kk r u H1 locs1 hw x1 x2 hS1
theorem kx_l {a : Array Value} {post : Int64 → va_W → Prop}
    (hr : va_Run p l e R s m args below meth c H locs cells slots 0 0 (F0 m pc ls st0) rest (va_Ql post (QW D tys (va_A wc H.size)) (va_A wc H.size) a) (va_A wc H.size))
    (hP : va_P D vwCl w H) (hD : va_D A0 w) (hS : va_S A0 H0 H locs) (hA : ∀ q, H0.size ≤ q → A0 q) (isC isR : List Nat) (hC : isC.map (fun i => w[i]?) = wc.map some) (hR : isR.map (fun i => w[i]?) = (pickW w isR).map some) (hn : va_nd isR = true) (hdis : ∀ i ∈ isR, i ∉ isC)
    (kk : ∀ (r : Int64) (w1 : va_W) (H1 : Heap) (locs1 : List Loc), post r w1 → va_P D vwCl (pickW w isR ++ w1) H1 → va_D A0 (pickW w isR ++ w1) → va_S A0 H0 H1 locs1 → W p l e R s m args below meth c H1 locs1 cells slots Q (F0 m (pc + 3) ls (.long r :: rest))) :
    W p l e R s m args below meth c H locs cells slots Q (F0 m pc ls st0) := by
  have hF := va_free hD hS hA isC hC
  refine va_calll hr hS (fun q _ h => hF q h) hF (fun r u t H1 locs1 ht hvm hw hB hz hk hS1 => ?_)
  obtain ⟨hP1, hK1, hD1⟩ := hB
  rw [ht] at hP1
  obtain ⟨x1, x2⟩ := va_join hP hD isC isR hC hR hn hdis hk hF hP1 hD1
  exact kk r u H1 locs1 hw x1 x2 hS1
theorem kx_v {a : Array Value} {post : va_W → Prop}
    (hr : va_Run p l e R s m args below meth c H locs cells slots 0 0 (F0 m pc ls st0) rest (va_Qv post (QW D tys (va_A wc H.size)) (va_A wc H.size) a) (va_A wc H.size))
    (hP : va_P D vwCl w H) (hD : va_D A0 w) (hS : va_S A0 H0 H locs) (hA : ∀ q, H0.size ≤ q → A0 q) (isC isR : List Nat) (hC : isC.map (fun i => w[i]?) = wc.map some) (hR : isR.map (fun i => w[i]?) = (pickW w isR).map some) (hn : va_nd isR = true) (hdis : ∀ i ∈ isR, i ∉ isC)
    (kk : ∀ (w1 : va_W) (H1 : Heap) (locs1 : List Loc), post w1 → va_P D vwCl (pickW w isR ++ w1) H1 → va_D A0 (pickW w isR ++ w1) → va_S A0 H0 H1 locs1 → W p l e R s m args below meth c H1 locs1 cells slots Q (F0 m (pc + 3) ls rest)) :
    W p l e R s m args below meth c H locs cells slots Q (F0 m pc ls st0) := by
  have hF := va_free hD hS hA isC hC
  refine va_callv hr hS (fun q _ h => hF q h) hF (fun u t H1 locs1 ht hvm hw hB hz hk hS1 => ?_)
  obtain ⟨hP1, hK1, hD1⟩ := hB
  rw [ht] at hP1
  obtain ⟨x1, x2⟩ := va_join hP hD isC isR hC hR hn hdis hk hF hP1 hD1
  exact kk u H1 locs1 hw x1 x2 hS1
end KX
section KA
variable {p : Program} {l : Launch} {e : Env} {R : Room} {s : State} {m : MethodId} {args : Array Value} {below : List Frame} {meth : Method} {c : Code} {H H0 : Heap} {locs : List Loc} {cells slots : Nat} {Q : State → Prop} {A : Nat → Prop} {D : va_G} {cl : List vw_C} {tys : List (ClassId × FieldType)} {ws : va_W} {a : Nat} {cc : ByteArray} {pc : Nat} {ls : Array Slot} {rest : List Value}
/-- an int out of an array, at a numbered place -/
theorem ka_ld (hexec : p.tables.exec = Jvm.exec) (hb : c.code = cc) (hK : va_K D cl tys s) (hP : va_P D cl ws H) (q0 t0 : Nat) {cA : ClassId} {n : Nat} {f : Nat → Int32} (ha : ws[q0]? = some (a, .inl (cA, n, .inl f))) (ht : tys[t0]? = some (cA, .int)) {i : Nat} (hi : i < n) (hn : n < 2 ^ 31) {v : Int32} (hv : f i = v) (hdg : decode cc pc = .ok (.iaload, 1))
    (kk : W p l e R s m args below meth c H locs cells slots Q (F0 m (pc + 1) ls (.int v :: rest))) : W p l e R s m args below meth c H locs cells slots Q (F0 m pc ls (.int (nI i) :: .ref a :: rest)) := by
  refine va_iald hexec hb hK hP q0 t0 ha ht (vp_in_nI hi hn) hdg ?_
  rw [nI_clamp (Nat.lt_trans hi hn), hv]
  exact kk
theorem ka_zld (hexec : p.tables.exec = Jvm.exec) (hb : c.code = cc) (hK : va_K D cl tys s) (hP : va_P D cl ws H) (q0 t0 : Nat) {cA : ClassId} {n : Nat} {f : Nat → Int32} (ha : ws[q0]? = some (a, .inl (cA, n, .inl f))) (ht : tys[t0]? = some (cA, .boolean)) {i : Nat} (hi : i < n) (hn : n < 2 ^ 31) {v : Int32} (hv : f i = v) (hdg : decode cc pc = .ok (.baload, 1))
    (kk : W p l e R s m args below meth c H locs cells slots Q (F0 m (pc + 1) ls (.int v :: rest))) : W p l e R s m args below meth c H locs cells slots Q (F0 m pc ls (.int (nI i) :: .ref a :: rest)) := by
  refine va_zald hexec hb hK hP q0 t0 ha ht (vp_in_nI hi hn) hdg ?_
  rw [nI_clamp (Nat.lt_trans hi hn), hv]
  exact kk
/-- an int into an array, at a numbered place; the new contents under a name of the caller's choice -/
theorem ka_st (hexec : p.tables.exec = Jvm.exec) (hb : c.code = cc) (hK : va_K D cl tys s) (hP : va_P D cl ws H) (hD : va_D A ws) (hS : va_S A H0 H locs) (q0 t0 : Nat) {cA : ClassId} {n : Nat} {f f' : Nat → Int32} (ha : ws[q0]? = some (a, .inl (cA, n, .inl f))) (ht : tys[t0]? = some (cA, .int)) {i : Nat} {x : Int32} (hi : i < n) (hn : n < 2 ^ 31) (hf : upd f i x = f') (hdg : decode cc pc = .ok (.iastore, 1))
    (kk : ∀ (H1 : Heap) (locs1 : List Loc), va_P D cl (ws.set q0 (a, .inl (cA, n, .inl f'))) H1 → va_D A (ws.set q0 (a, .inl (cA, n, .inl f'))) → va_S A H0 H1 locs1 → W p l e R s m args below meth c H1 locs1 cells slots Q (F0 m (pc + 1) ls rest)) : W p l e R s m args below meth c H locs cells slots Q (F0 m pc ls (.int x :: .int (nI i) :: .ref a :: rest)) := by
  refine va_iast hexec hb hK hP hD hS q0 t0 ha ht (vp_in_nI hi hn) hdg (fun H1 locs1 h1 h2 h3 => ?_)
  rw [nI_clamp (Nat.lt_trans hi hn), hf] at h1 h2
  exact kk H1 locs1 h1 h2 h3
theorem ka_zst (hexec : p.tables.exec = Jvm.exec) (hb : c.code = cc) (hK : va_K D cl tys s) (hP : va_P D cl ws H) (hD : va_D A ws) (hS : va_S A H0 H locs) (q0 t0 : Nat) {cA : ClassId} {n : Nat} {f f' : Nat → Int32} (ha : ws[q0]? = some (a, .inl (cA, n, .inl f))) (ht : tys[t0]? = some (cA, .boolean)) {i : Nat} {x : Int32} (hi : i < n) (hn : n < 2 ^ 31) (hf : upd f i (vp_nar .boolean x) = f') (hdg : decode cc pc = .ok (.bastore, 1))
    (kk : ∀ (H1 : Heap) (locs1 : List Loc), va_P D cl (ws.set q0 (a, .inl (cA, n, .inl f'))) H1 → va_D A (ws.set q0 (a, .inl (cA, n, .inl f'))) → va_S A H0 H1 locs1 → W p l e R s m args below meth c H1 locs1 cells slots Q (F0 m (pc + 1) ls rest)) : W p l e R s m args below meth c H locs cells slots Q (F0 m pc ls (.int x :: .int (nI i) :: .ref a :: rest)) := by
  refine va_zast hexec hb hK hP hD hS q0 t0 ha ht (vp_in_nI hi hn) hdg (fun H1 locs1 h1 h2 h3 => ?_)
  rw [nI_clamp (Nat.lt_trans hi hn), hf] at h1 h2
  exact kk H1 locs1 h1 h2 h3
end KA
/-- contents beyond an array's length don't matter -/
theorem cell_ext {cA : ClassId} {n : Nat} {f f' : Nat → Int32} (h : ∀ i, i < n → f i = f' i) : vp_cell cA (n, .inl f) = vp_cell cA (n, .inl f') := by
  have e : (fun j : Fin n => Value.int (f j.val)) = (fun j : Fin n => Value.int (f' j.val)) := funext (fun j => by rw [h j.val j.isLt])
  simp only [vp_cell, arrV]
  rw [e]
theorem va_P_ext {D : va_G} {cl : List vw_C} {ws : va_W} {H : Heap} (q0 : Nat) {a : Nat} {cA : ClassId} {n : Nat} {f f' : Nat → Int32} (hP : va_P D cl ws H) (ha : ws[q0]? = some (a, .inl (cA, n, .inl f))) (h : ∀ i, i < n → f i = f' i) : va_P D cl (ws.set q0 (a, .inl (cA, n, .inl f'))) H := by
  intro k q hq
  by_cases hk : q0 = k
  · subst hk
    have hlt : q0 < ws.length := (List.getElem?_eq_some_iff.mp ha).1
    rw [List.getElem?_set_self hlt] at hq
    cases hq
    have h1 := hP q0 _ ha
    simp only [va_at] at h1 ⊢
    rw [h1, cell_ext h]
  · rw [List.getElem?_set_ne hk] at hq
    exact hP k q hq
theorem va_D_ext {A : Nat → Prop} {ws : va_W} (q0 : Nat) {a : Nat} {e e' : va_E} (hD : va_D A ws) (ha : ws[q0]? = some (a, e)) : va_D A (ws.set q0 (a, e')) := by
  have key : ∀ (k : Nat) (q : Nat × va_E), (ws.set q0 (a, e'))[k]? = some q → ∃ q', ws[k]? = some q' ∧ q'.1 = q.1 := by
    intro k q hq
    by_cases hk : q0 = k
    · subst hk
      have hlt : q0 < ws.length := (List.getElem?_eq_some_iff.mp ha).1
      rw [List.getElem?_set_self hlt] at hq
      cases hq
      exact ⟨_, ha, rfl⟩
    · rw [List.getElem?_set_ne hk] at hq
      exact ⟨q, hq, rfl⟩
  refine ⟨fun i j p q hi hj hpq => ?_, fun k q hq => ?_⟩
  · obtain ⟨p', h1, h2⟩ := key i p hi
    obtain ⟨q', h3, h4⟩ := key j q hj
    exact hD.1 i j p' q' h1 h3 (by rw [h2, h4, hpq])
  · obtain ⟨q', h1, h2⟩ := key k q hq
    rw [← h2]
    exact hD.2 k q' h1
theorem tb_out {x : Int32} (lo hi : Nat) (h : ∀ j : Nat, lo ≤ j → j ≤ hi → x ≠ nI j) : x.toInt < (lo : Int) ∨ (hi : Int) < x.toInt := by
  by_cases h1 : x.toInt < (lo : Int)
  · exact Or.inl h1
  · by_cases h2 : (hi : Int) < x.toInt
    · exact Or.inr h2
    · exfalso
      have hx : ¬ x < 0 := by
        rw [Int32.lt_iff_toInt_lt, Int32.toInt_zero]
        omega
      obtain ⟨j, hj, rfl⟩ := nI_of hx
      rw [nI_toInt hj] at h1 h2
      exact h j (by omega) (by omega) rfl
end
section
/-! The mathematical state x: component, then two numbers.
0 m k: field k of the message at place m; by node and slot: 1 phase, 2 last ballot, 3 promised bits, 4 best ballot, 5 the value that stands, 6 the wish, 7 the best value, 8 promised, 9 accepted ballot, 10 accepted value, 11 decree; 12 0 0 deliveries, 12 0 1 lost; 13 a 0 one where node a is down; in its second half, by node, slot and node: 0 heard ballot, 1 heard value -/
abbrev St : Type := (Nat → Nat → Nat → Int32) × (Nat → Nat → Nat → Nat → Int32)
def up2 (f : Nat → Nat → Int32) (a s : Nat) (v : Int32) : Nat → Nat → Int32 := fun a' s' => if a' = a ∧ s' = s then v else f a' s'
def up3 (f : Nat → Nat → Nat → Int32) (a s b : Nat) (v : Int32) : Nat → Nat → Nat → Int32 := fun a' s' b' => if a' = a ∧ s' = s ∧ b' = b then v else f a' s' b'
def put (x : St) (c a s : Nat) (v : Int32) : St := (fun c' => if c' = c then up2 (x.1 c) a s v else x.1 c', x.2)
def pth (x : St) (c a s b : Nat) (v : Int32) : St := (x.1, fun c' => if c' = c then up3 (x.2 c) a s b v else x.2 c')
theorem put_h {x : St} {c a s : Nat} {v : Int32} : (put x c a s v).2 = x.2 := rfl
theorem pth_x {x : St} {c a s b : Nat} {v : Int32} : (pth x c a s b v).1 = x.1 := rfl
theorem put_o {x : St} {c a s : Nat} {v : Int32} {c' : Nat} (h : c' ≠ c) : (put x c a s v).1 c' = x.1 c' := by
  unfold put; simp only [if_neg h]
theorem put_c {x : St} {c a s : Nat} {v : Int32} : (put x c a s v).1 c = up2 (x.1 c) a s v := by
  unfold put; simp only [if_true]
theorem pth_o {x : St} {c a s b : Nat} {v : Int32} {c' : Nat} (h : c' ≠ c) : (pth x c a s b v).2 c' = x.2 c' := by
  unfold pth; simp only [if_neg h]
theorem pth_c {x : St} {c a s b : Nat} {v : Int32} : (pth x c a s b v).2 c = up3 (x.2 c) a s b v := by
  unfold pth; simp only [if_true]
theorem up2_s {f : Nat → Nat → Int32} {a s : Nat} {v : Int32} : up2 f a s v a s = v := by
  unfold up2; rw [if_pos ⟨rfl, rfl⟩]
theorem up2_n {f : Nat → Nat → Int32} {a s a' s' : Nat} {v : Int32} (h : ¬ (a' = a ∧ s' = s)) : up2 f a s v a' s' = f a' s' := by
  unfold up2; rw [if_neg h]
/-- an array by rows of S -/
def sq (S : Nat) (f : Nat → Nat → Int32) : Nat → Int32 := fun i => f (i / S) (i % S)
theorem dv_at {a S s : Nat} (h : s < S) : (a * S + s) / S = a ∧ (a * S + s) % S = s := by
  have hS : 0 < S := by omega
  constructor
  · rw [Nat.mul_comm, Nat.mul_add_div hS, Nat.div_eq_of_lt h, Nat.add_zero]
  · rw [Nat.mul_comm, Nat.mul_add_mod, Nat.mod_eq_of_lt h]
theorem sq_at {S a s : Nat} {f : Nat → Nat → Int32} (h : s < S) : sq S f (a * S + s) = f a s := by
  unfold sq; rw [(dv_at h).1, (dv_at h).2]
theorem sq_up {S a s : Nat} {f : Nat → Nat → Int32} {v : Int32} (h : s < S) : upd (sq S f) (a * S + s) v = sq S (up2 f a s v) := by
  funext i
  unfold upd sq up2
  by_cases hi : i = a * S + s
  · subst hi
    rw [if_pos rfl, if_pos (dv_at h)]
  · rw [if_neg hi, if_neg]
    intro hh
    exact hi (by rw [← hh.1, ← hh.2]; exact (Nat.div_add_mod' i S).symm)
theorem sq_ext {S : Nat} (hS : 0 < S) {f g : Nat → Nat → Int32} (h : ∀ a s, s < S → f a s = g a s) : sq S f = sq S g := by
  funext i
  unfold sq
  exact h _ _ (Nat.mod_lt _ hS)
/-- a column -/
def col (f : Nat → Nat → Int32) (k : Nat) : Nat → Int32 := fun i => f i k
theorem col_up {f : Nat → Nat → Int32} {m k : Nat} {v : Int32} : upd (col f k) m v = col (up2 f m k v) k := by
  funext i
  unfold upd col up2
  by_cases hi : i = m
  · rw [if_pos hi, if_pos ⟨hi, rfl⟩]
  · rw [if_neg hi, if_neg (fun h => hi h.1)]
theorem col_o {f : Nat → Nat → Int32} {m k k' : Nat} {v : Int32} (h : k' ≠ k) : col (up2 f m k v) k' = col f k' := by
  funext i
  unfold col up2
  rw [if_neg (fun q => h q.2)]
/-- what is heard, by rows of n and of 5 -/
def hq (n S : Nat) (h : Nat → Nat → Nat → Int32) : Nat → Int32 := fun i => h (i / n / S) (i / n % S) (i % n)
def hr (h : Nat → Nat → Nat → Int32) : Nat → Int32 := fun i => h (i / 20) (i / 5 % 4) (i % 5)
theorem hq_at {n S a s b : Nat} {h : Nat → Nat → Nat → Int32} (hb : b < n) (hs : s < S) : hq n S h ((a * S + s) * n + b) = h a s b := by
  unfold hq
  rw [(dv_at hb).1, (dv_at hb).2, (dv_at hs).1, (dv_at hs).2]
theorem hq_up {n S a s b : Nat} {h : Nat → Nat → Nat → Int32} {v : Int32} (hb : b < n) (hs : s < S) : upd (hq n S h) ((a * S + s) * n + b) v = hq n S (up3 h a s b v) := by
  funext i
  unfold upd hq up3
  by_cases hi : i = (a * S + s) * n + b
  · subst hi
    rw [if_pos rfl, (dv_at hb).1, (dv_at hb).2, (dv_at hs).1, (dv_at hs).2, if_pos ⟨rfl, rfl, rfl⟩]
  · rw [if_neg hi, if_neg]
    intro hh
    apply hi
    have h1 : i / n = a * S + s := by rw [← hh.1, ← hh.2.1]; exact (Nat.div_add_mod' (i / n) S).symm
    rw [← h1, ← hh.2.2]
    exact (Nat.div_add_mod' i n).symm
theorem hr_at {a s b : Nat} {h : Nat → Nat → Nat → Int32} (hb : b < 5) (hs : s < 4) : hr h (20 * a + 5 * s + b) = h a s b := by
  unfold hr
  rw [show (20 * a + 5 * s + b) % 5 = b by omega, show (20 * a + 5 * s + b) / 20 = a by omega, show (20 * a + 5 * s + b) / 5 % 4 = s by omega]
theorem hr_up {a s b : Nat} {h : Nat → Nat → Nat → Int32} {v : Int32} (hb : b < 5) (hs : s < 4) : upd (hr h) (20 * a + 5 * s + b) v = hr (up3 h a s b v) := by
  funext i
  unfold upd hr up3
  by_cases hi : i = 20 * a + 5 * s + b
  · rw [if_pos hi, if_pos (by omega)]
  · rw [if_neg hi, if_neg (by omega)]
/-- the least place without a message -/
def lst (f : Nat → Int32) : Nat → Nat → Nat
  | 0, i => i
  | d + 1, i => if f i = 0 then i else lst f d (i + 1)
theorem lst_s {f : Nat → Int32} {d i : Nat} (h : f i = 0) : lst f (d + 1) i = i := by
  show (if f i = 0 then i else lst f d (i + 1)) = i
  rw [if_pos h]
theorem lst_n {f : Nat → Int32} {d i : Nat} (h : ¬ f i = 0) : lst f (d + 1) i = lst f d (i + 1) := by
  show (if f i = 0 then i else lst f d (i + 1)) = _
  rw [if_neg h]
theorem lst_spec (f : Nat → Int32) : ∀ d i, i ≤ lst f d i ∧ lst f d i ≤ i + d ∧ (∀ j, i ≤ j → j < lst f d i → f j ≠ 0) ∧ (lst f d i < i + d → f (lst f d i) = 0) := by
  intro d
  induction d with
  | zero => intro i; unfold lst; exact ⟨Nat.le_refl _, Nat.le_refl _, fun j h1 h2 => by omega, fun h => by omega⟩
  | succ d ih =>
    intro i
    unfold lst
    by_cases h : f i = 0
    · rw [if_pos h]
      exact ⟨Nat.le_refl _, by omega, fun j h1 h2 => by omega, fun _ => h⟩
    · rw [if_neg h]
      obtain ⟨h1, h2, h3, h4⟩ := ih (i + 1)
      refine ⟨by omega, by omega, fun j a b => ?_, fun a => h4 (by omega)⟩
      by_cases hj : j = i
      · subst hj; exact h
      · exact h3 j (by omega) b
/-- how many of the first places hold a message -/
def cnt (f : Nat → Int32) : Nat → Nat
  | 0 => 0
  | i + 1 => cnt f i + (if f i = 0 then 0 else 1)
theorem cnt_le (f : Nat → Int32) : ∀ i, cnt f i ≤ i := by
  intro i
  induction i with
  | zero => exact Nat.le_refl _
  | succ i ih => unfold cnt; split <;> omega
theorem cnt_ext {f g : Nat → Int32} : ∀ i, (∀ j, j < i → f j = g j) → cnt f i = cnt g i := by
  intro i
  induction i with
  | zero => intro _; rfl
  | succ i ih =>
    intro h
    unfold cnt
    rw [ih (fun j hj => h j (by omega)), h i (by omega)]
theorem cnt_set {f : Nat → Int32} {m : Nat} {v : Int32} (hm : f m = 0) (hv : v ≠ 0) : ∀ i, m < i → cnt (upd f m v) i = cnt f i + 1 := by
  intro i
  induction i with
  | zero => intro h; omega
  | succ i ih =>
    intro h
    unfold cnt
    by_cases hi : i = m
    · subst hi
      rw [cnt_ext (g := f) i (fun j hj => by unfold upd; rw [if_neg (by omega)])]
      unfold upd
      rw [if_pos rfl, if_neg hv, if_pos hm]
    · rw [ih (by omega)]
      have : upd f m v i = f i := by unfold upd; rw [if_neg hi]
      rw [this]
      split <;> omega
theorem cnt_clr {f : Nat → Int32} {m : Nat} (hm : f m ≠ 0) : ∀ i, m < i → cnt (upd f m 0) i + 1 = cnt f i := by
  intro i
  induction i with
  | zero => intro h; omega
  | succ i ih =>
    intro h
    unfold cnt
    by_cases hi : i = m
    · subst hi
      rw [cnt_ext (g := f) i (fun j hj => by unfold upd; rw [if_neg (by omega)])]
      unfold upd
      rw [if_pos rfl, if_pos rfl, if_neg hm]
    · have h1 := ih (by omega)
      have : upd f m 0 i = f i := by unfold upd; rw [if_neg hi]
      rw [this]
      split <;> omega
theorem cnt_lst {f : Nat → Int32} : ∀ i, cnt f i < i → ∃ j, j < i ∧ f j = 0 := by
  intro i
  induction i with
  | zero => intro h; omega
  | succ i ih =>
    intro h
    unfold cnt at h
    by_cases hf : f i = 0
    · exact ⟨i, by omega, hf⟩
    · rw [if_neg hf] at h
      obtain ⟨j, h1, h2⟩ := ih (by omega)
      exact ⟨j, by omega, h2⟩
theorem lst_lt {f : Nat → Int32} {P : Nat} (h : cnt f P < P) : lst f P 0 < P := by
  obtain ⟨j, h1, h2⟩ := cnt_lst P h
  obtain ⟨-, a2, a3, -⟩ := lst_spec f P 0
  by_cases hh : lst f P 0 < P
  · exact hh
  · exact absurd h2 (a3 j (by omega) (by omega))
theorem lst_full {f : Nat → Int32} {P : Nat} (h : cnt f P = P) : lst f P 0 = P := by
  obtain ⟨-, a2, -, a4⟩ := lst_spec f P 0
  by_cases hh : lst f P 0 < P
  · have h0 := a4 (by omega)
    have h1 := cnt_set (v := 1) h0 (by decide) P hh
    have h2 := cnt_le (upd f (lst f P 0) 1) P
    omega
  · omega
/-- a message into a place -/
def put7 (x : St) (m : Nat) (k s r sl b v o : Int32) : St := put (put (put (put (put (put (put x 0 m 0 k) 0 m 1 s) 0 m 2 r) 0 m 3 sl) 0 m 4 b) 0 m 5 v) 0 m 6 o
def lstx (P : Nat) (x : St) : Nat := lst (col (x.1 0) 0) P 0
def cntx (P : Nat) (x : St) : Nat := cnt (col (x.1 0) 0) P
def send1 (P : Nat) (x : St) (k s r sl b v o : Int32) : St := put7 x (lstx P x) k s r sl b v o
def sendA (P : Nat) (x : St) (k s sl b v : Int32) : Nat → St
  | 0 => x
  | i + 1 => send1 P (sendA P x k s sl b v i) k s (nI i) sl b v (-1)
/-- the nodes that are up, as bits -/
def msk (f : Nat → Int32) : Nat → Nat
  | 0 => 0
  | i + 1 => msk f i + (if f i = 0 then 2 ^ i else 0)
theorem msk_lt (f : Nat → Int32) : ∀ i, msk f i < 2 ^ i := by
  intro i
  induction i with
  | zero => exact Nat.two_pow_pos 0
  | succ i ih =>
    unfold msk
    have : 2 ^ (i + 1) = 2 ^ i + 2 ^ i := by rw [Nat.pow_succ]; omega
    split <;> omega
def up7 (g : Nat → Nat → Int32) (m : Nat) (k s r sl b v o : Int32) : Nat → Nat → Int32 := up2 (up2 (up2 (up2 (up2 (up2 (up2 g m 0 k) m 1 s) m 2 r) m 3 sl) m 4 b) m 5 v) m 6 o
theorem put7_c {x : St} {m : Nat} {k s r sl b v o : Int32} : (put7 x m k s r sl b v o).1 0 = up7 (x.1 0) m k s r sl b v o := by
  simp only [put7, up7, put_c]
theorem put7_o {x : St} {m c : Nat} {k s r sl b v o : Int32} (h : c ≠ 0) : (put7 x m k s r sl b v o).1 c = x.1 c := by
  simp only [put7, put_o h]
theorem nI_nm1 {j : Nat} (h : j < 2 ^ 31) : ¬ nI j = -1 := by
  intro q
  have a := nI_toInt h
  rw [q] at a
  have : (-1 : Int32).toInt = -1 := by decide
  omega
theorem wi_of {v : Int32} {P : Nat} (h1 : 1 ≤ P) (hP : P < 2 ^ 31) (h : nI 0 ≤ v ∧ v ≤ nI (P - 1)) : ∃ j, j < P ∧ v = nI j := by
  have h0 : ¬ v < 0 := Int32.not_lt.mpr h.1
  obtain ⟨j, hj, rfl⟩ := nI_of h0
  have := (nI_leI hj (by omega)).mp h.2
  exact ⟨j, by omega, rfl⟩
theorem seat_lt {n S a s : Nat} (ha : a < n) (hs : s < S) : a * S + s < n * S := by
  have h1 : (a + 1) * S ≤ n * S := Nat.mul_le_mul_right S ha
  rw [Nat.add_mul, Nat.one_mul] at h1
  omega
def fillr (f : Nat → Int32) (o : Nat) (v : Int32) : Nat → (Nat → Int32)
  | 0 => f
  | i + 1 => upd (fillr f o v i) (o + i) v
theorem fillr_at (f : Nat → Int32) (o : Nat) (v : Int32) : ∀ i j, fillr f o v i j = if o ≤ j ∧ j < o + i then v else f j := by
  intro i
  induction i with
  | zero => intro j; rw [if_neg (by omega)]; rfl
  | succ i ih =>
    intro j
    show upd (fillr f o v i) (o + i) v j = _
    unfold upd
    by_cases h : j = o + i
    · rw [if_pos h, if_pos (by omega)]
    · rw [if_neg h, ih j]
      by_cases h2 : o ≤ j ∧ j < o + i
      · rw [if_pos h2, if_pos (by omega)]
      · rw [if_neg h2, if_neg (by omega)]
end
section
/-! What each call answers and does, on the mathematical state -/
abbrev okN (v : Int32) (b : Nat) : Prop := 0 ≤ v ∧ v < nI b
theorem okN_of {v : Int32} {b : Nat} (hb : b < 2 ^ 31) (h : okN v b) : ∃ a, a < b ∧ v = nI a := by
  have h0 : ¬ v < 0 := Int32.not_lt.mpr h.1
  obtain ⟨j, hj, rfl⟩ := nI_of h0
  exact ⟨j, (nI_ltI hj hb).mp h.2, rfl⟩
theorem okN_nI {a b : Nat} (ha : a < b) (hb : b < 2 ^ 31) : okN (nI a) b := ⟨nI_pos' (by omega), nI_lt ha hb⟩
abbrev ix (v : Int32) : Nat := v.toNatClampNeg
theorem ix_nI {a b : Nat} (ha : a < b) (hb : b < 2 ^ 31) : ix (nI a) = a := nI_clamp (by omega)
def popn (k : Nat) : Nat := k % 2 + k / 2 % 2 + k / 4 % 2 + k / 8 % 2 + k / 16 % 2
def orb (v s : Int32) : Int32 := v ||| (nI 1 <<< (s &&& 31))
def cntE (f : Nat → Int32) (b : Int32) : Nat → Nat
  | 0 => 0
  | i + 1 => cntE f b i + (if f i = b then 1 else 0)
theorem cntE_le (f : Nat → Int32) (b : Int32) : ∀ i, cntE f b i ≤ i := by
  intro i
  induction i with
  | zero => exact Nat.le_refl _
  | succ i ih => unfold cntE; split <;> omega
def sBegin (x : St) (a s : Nat) (b v : Int32) : St := put (put (put (put (put (put (put x 1 a s (nI 1)) 2 a s b) 3 a s (nI 0)) 4 a s (-1)) 5 a s v) 6 a s v) 7 a s (nI 0)
def sPrep (n S P : Nat) (x : St) (nd sl rd vl : Int32) : Int32 × St :=
  if okN nd n ∧ okN sl S ∧ 0 ≤ rd ∧ rd ≤ nI 1000 ∧ nI 1 ≤ vl then
    if x.1 13 (ix nd) 0 ≠ 0 then (-2, x)
    else if rd * nI n + nd ≤ x.1 2 (ix nd) (ix sl) then (-3, x)
    else if P - cntx P x < n then (-4, x)
    else (rd * nI n + nd, sendA P (sBegin x (ix nd) (ix sl) (rd * nI n + nd) vl) (nI 1) nd sl (rd * nI n + nd) (nI 0) n)
  else (-1, x)
def sLearn (x : St) (a s : Nat) (v : Int32) : St := if x.1 11 a s = 0 then put x 11 a s v else x
def sHear (n : Nat) (x : St) (a s c : Nat) (b v : Int32) : St :=
  if x.2 0 a s c < b then
    (if n < 2 * cntE (up3 (x.2 0) a s c b a s) b n then sLearn (pth (pth x 0 a s c b) 1 a s c v) a s v else pth (pth x 0 a s c b) 1 a s c v)
  else x
def sProm1 (x : St) (a s : Nat) (snd v o : Int32) : St :=
  if x.1 4 a s < o then put (put (put (put x 3 a s (orb (x.1 3 a s) snd)) 4 a s o) 5 a s v) 7 a s v else put x 3 a s (orb (x.1 3 a s) snd)
abbrev sWins (n : Nat) (x : St) (a s : Nat) (snd b : Int32) : Prop := (x.1 1 a s = nI 1 ∧ x.1 2 a s = b) ∧ n < 2 * popn (ix (orb (x.1 3 a s) snd))
def sAcc (x : St) (a s : Nat) (b v : Int32) : St := put (put (put x 8 a s b) 9 a s b) 10 a s v
def sTake (n P : Nat) (x : St) (k : Int32) (c a t : Nat) (b v o : Int32) : St :=
  if k = nI 1 then
    (if x.1 8 a t < b then send1 P (put x 8 a t b) (nI 2) (nI a) (nI c) (nI t) b (x.1 10 a t) (x.1 9 a t) else x)
  else if k = nI 2 then
    (if x.1 1 a t = nI 1 ∧ x.1 2 a t = b then
      (if n < 2 * popn (ix (orb (x.1 3 a t) (nI c))) then
        sendA P (put (sProm1 x a t (nI c) v o) 1 a t (nI 2)) (nI 3) (nI a) (nI t) b ((sProm1 x a t (nI c) v o).1 5 a t) n
      else sProm1 x a t (nI c) v o)
    else x)
  else if k = nI 3 then
    (if x.1 8 a t ≤ b then sendA P (sAcc x a t b v) (nI 4) (nI a) (nI t) b v n else x)
  else if k = nI 4 then sHear n x a t c b v
  else sLearn x a t v
theorem sTake_1 {n P : Nat} {x : St} {c a t : Nat} {b v o : Int32} : sTake n P x (nI 1) c a t b v o = (if x.1 8 a t < b then send1 P (put x 8 a t b) (nI 2) (nI a) (nI c) (nI t) b (x.1 10 a t) (x.1 9 a t) else x) := by
  unfold sTake; rw [if_pos rfl]
theorem sTake_2 {n P : Nat} {x : St} {c a t : Nat} {b v o : Int32} : sTake n P x (nI 2) c a t b v o = (if x.1 1 a t = nI 1 ∧ x.1 2 a t = b then
      (if n < 2 * popn (ix (orb (x.1 3 a t) (nI c))) then
        sendA P (put (sProm1 x a t (nI c) v o) 1 a t (nI 2)) (nI 3) (nI a) (nI t) b ((sProm1 x a t (nI c) v o).1 5 a t) n
      else sProm1 x a t (nI c) v o)
    else x) := by
  unfold sTake; rw [if_neg (by decide), if_pos rfl]
theorem sTake_3 {n P : Nat} {x : St} {c a t : Nat} {b v o : Int32} : sTake n P x (nI 3) c a t b v o = (if x.1 8 a t ≤ b then sendA P (sAcc x a t b v) (nI 4) (nI a) (nI t) b v n else x) := by
  unfold sTake; rw [if_neg (by decide), if_neg (by decide), if_pos rfl]
theorem sTake_4 {n P : Nat} {x : St} {c a t : Nat} {b v o : Int32} : sTake n P x (nI 4) c a t b v o = sHear n x a t c b v := by
  unfold sTake; rw [if_neg (by decide), if_neg (by decide), if_neg (by decide), if_pos rfl]
theorem sTake_5 {n P : Nat} {x : St} {c a t : Nat} {b v o k : Int32} (h1 : ¬ k = nI 1) (h2 : ¬ k = nI 2) (h3 : ¬ k = nI 3) (h4 : ¬ k = nI 4) : sTake n P x k c a t b v o = sLearn x a t v := by
  unfold sTake; rw [if_neg h1, if_neg h2, if_neg h3, if_neg h4]
def sOut (x : St) (m : Nat) : St := put (put x 0 m 0 (nI 0)) 12 0 0 (x.1 12 0 0 + nI 1)
def sLost (x : St) : St := put x 12 0 1 (x.1 12 0 1 + nI 1)
def sHo (n P : Nat) (x : St) (m : Nat) : Int32 × St :=
  if x.1 13 (ix (x.1 0 m 2)) 0 ≠ 0 then (nI 0, sLost (sOut x m))
  else (x.1 0 m 0, sTake n P (sOut x m) (x.1 0 m 0) (ix (x.1 0 m 1)) (ix (x.1 0 m 2)) (ix (x.1 0 m 3)) (x.1 0 m 4) (x.1 0 m 5) (x.1 0 m 6))
theorem sHo_d {n P : Nat} {x : St} {m a : Nat} (hr : ix (x.1 0 m 2) = a) (h : ¬ x.1 13 a 0 = 0) : sHo n P x m = (nI 0, sLost (sOut x m)) := by
  unfold sHo; rw [hr, if_pos h]
theorem sHo_u {n P : Nat} {x : St} {m c a t : Nat} (hc : ix (x.1 0 m 1) = c) (hr : ix (x.1 0 m 2) = a) (ht : ix (x.1 0 m 3) = t) (h : x.1 13 a 0 = 0) : sHo n P x m = (x.1 0 m 0, sTake n P (sOut x m) (x.1 0 m 0) c a t (x.1 0 m 4) (x.1 0 m 5) (x.1 0 m 6)) := by
  unfold sHo; rw [hr, hc, ht, if_neg (fun q => q h)]
abbrev sAll (n : Nat) (x : St) (m : Nat) : Prop :=
  (x.1 0 m 0 = nI 2 ∧ sWins n x (ix (x.1 0 m 2)) (ix (x.1 0 m 3)) (x.1 0 m 1) (x.1 0 m 4)) ∨ (x.1 0 m 0 = nI 3 ∧ x.1 8 (ix (x.1 0 m 2)) (ix (x.1 0 m 3)) ≤ x.1 0 m 4)
/-- the message can't be delivered now -/
abbrev sBlk (n P : Nat) (x : St) (m : Nat) : Prop := x.1 13 (ix (x.1 0 m 2)) 0 = 0 ∧ P - cntx P x + 1 < n ∧ sAll n x m
abbrev isM (P : Nat) (x : St) (v : Int32) : Prop := okN v P ∧ x.1 0 (ix v) 0 ≠ 0
def sDel (n P : Nat) (x : St) (v : Int32) : Int32 × St :=
  if isM P x v then (if sBlk n P x (ix v) then (-4, x) else sHo n P x (ix v)) else (-1, x)
/-- the least place whose message can be delivered, or P -/
def ldv (n P : Nat) (x : St) : Nat → Nat → Nat
  | 0, i => i
  | d + 1, i => if x.1 0 i 0 ≠ 0 ∧ ¬ sBlk n P x i then i else ldv n P x d (i + 1)
theorem ldv_s {n P : Nat} {x : St} {d i : Nat} (h : x.1 0 i 0 ≠ 0 ∧ ¬ sBlk n P x i) : ldv n P x (d + 1) i = i := by
  show (if x.1 0 i 0 ≠ 0 ∧ ¬ sBlk n P x i then i else ldv n P x d (i + 1)) = i
  rw [if_pos h]
theorem ldv_n {n P : Nat} {x : St} {d i : Nat} (h : ¬ (x.1 0 i 0 ≠ 0 ∧ ¬ sBlk n P x i)) : ldv n P x (d + 1) i = ldv n P x d (i + 1) := by
  show (if x.1 0 i 0 ≠ 0 ∧ ¬ sBlk n P x i then i else ldv n P x d (i + 1)) = _
  rw [if_neg h]
def sSw (n P : Nat) : Nat → St → Nat × St
  | 0, x => (0, x)
  | k + 1, x => if ldv n P x P 0 = P then (0, x) else ((sSw n P k (sHo n P x (ldv n P x P 0)).2).1 + 1, (sSw n P k (sHo n P x (ldv n P x P 0)).2).2)
def sSweep (n P : Nat) (x : St) (k : Int32) : Int32 × St := if 0 ≤ k ∧ k ≤ nI 100 then (nI (sSw n P (ix k) x).1, (sSw n P (ix k) x).2) else (-1, x)
def sDrop (P : Nat) (x : St) (v : Int32) : Int32 × St := if isM P x v then (x.1 0 (ix v) 0, sLost (put x 0 (ix v) 0 (nI 0))) else (-1, x)
def sDup (P : Nat) (x : St) (v : Int32) : Int32 × St :=
  if isM P x v then (if cntx P x = P then (-4, x) else (nI (lstx P x), send1 P x (x.1 0 (ix v) 0) (x.1 0 (ix v) 1) (x.1 0 (ix v) 2) (x.1 0 (ix v) 3) (x.1 0 (ix v) 4) (x.1 0 (ix v) 5) (x.1 0 (ix v) 6))) else (-1, x)
def upn (n : Nat) (x : St) : Nat := cntE (col (x.1 13) 0) 0 n
def sCrash (n : Nat) (x : St) (v : Int32) : Int32 × St :=
  if okN v n ∧ x.1 13 (ix v) 0 = 0 then (nI (upn n (put x 13 (ix v) 0 (nI 1))), put x 13 (ix v) 0 (nI 1)) else (-1, x)
/-- node a comes back: the slots below j are cleared -/
def clr (x : St) (a j : Nat) : St :=
  (fun c a' s' => if a' = a ∧ s' < j then (if c = 1 ∨ c = 3 ∨ c = 7 ∨ c = 11 then nI 0 else if c = 4 then -1 else x.1 c a' s') else x.1 c a' s',
   fun c a' s' b' => if a' = a ∧ s' < j then (if c = 0 then -1 else nI 0) else x.2 c a' s' b')
def sBack (x : St) (a : Nat) : St :=
  (fun c a' s' => if a' = a ∧ (c = 1 ∨ c = 3 ∨ c = 7 ∨ c = 11) then nI 0 else if a' = a ∧ c = 4 then -1 else x.1 c a' s',
   fun c a' s' b' => if a' = a then (if c = 0 then -1 else nI 0) else x.2 c a' s' b')
def sRest (n : Nat) (x : St) (v : Int32) : Int32 × St :=
  if okN v n ∧ x.1 13 (ix v) 0 ≠ 0 then (nI (upn n (put x 13 (ix v) 0 (nI 0))), sBack (put x 13 (ix v) 0 (nI 0)) (ix v)) else (-1, x)
def sTell (n S P : Nat) (x : St) (nd sl : Int32) : Int32 × St :=
  if okN nd n ∧ okN sl S ∧ x.1 11 (ix nd) (ix sl) ≠ 0 then
    if x.1 13 (ix nd) 0 ≠ 0 then (-2, x)
    else if P - cntx P x < n then (-4, x)
    else (x.1 11 (ix nd) (ix sl), sendA P x (nI 5) nd sl (-1) (x.1 11 (ix nd) (ix sl)) n)
  else (-1, x)
def aLearned (n S : Nat) (x : St) (nd sl : Int32) : Int32 := if okN nd n ∧ okN sl S then x.1 11 (ix nd) (ix sl) else -1
def aAcc (n S : Nat) (x : St) (nd sl w : Int32) : Int32 :=
  if okN nd n ∧ okN sl S then (if w = nI 0 then x.1 8 (ix nd) (ix sl) else if w = nI 1 then x.1 9 (ix nd) (ix sl) else if w = nI 2 then x.1 10 (ix nd) (ix sl) else -1) else -1
def aProp (n S : Nat) (x : St) (nd sl w : Int32) : Int32 :=
  if okN nd n ∧ okN sl S then
    (if w = nI 0 then x.1 1 (ix nd) (ix sl) else if w = nI 1 then x.1 2 (ix nd) (ix sl) else if w = nI 2 then nI (popn (ix (x.1 3 (ix nd) (ix sl)))) else if w = nI 3 then x.1 4 (ix nd) (ix sl)
     else if w = nI 4 then (if x.1 1 (ix nd) (ix sl) = nI 2 then x.1 5 (ix nd) (ix sl) else nI 0) else -1) else -1
def aHeard (n S : Nat) (x : St) (nd sl w : Int32) : Int32 := if okN nd n ∧ okN sl S ∧ okN w n then x.2 0 (ix nd) (ix sl) (ix w) else -1
def aMsg (P : Nat) (x : St) (v w : Int32) : Int32 := if isM P x v ∧ okN w 7 then x.1 0 (ix v) (ix w) else -1
/-- the value of the first node whose accepted ballot most nodes have -/
def cho (n : Nat) (f g : Nat → Int32) : Nat → Nat → Int32
  | 0, _ => nI 0
  | d + 1, a => if n < 2 * cntE f (f a) n then g a else cho n f g d (a + 1)
theorem cho_s {n : Nat} {f g : Nat → Int32} {d a : Nat} (h : n < 2 * cntE f (f a) n) : cho n f g (d + 1) a = g a := by
  show (if n < 2 * cntE f (f a) n then g a else cho n f g d (a + 1)) = _
  rw [if_pos h]
theorem cho_n {n : Nat} {f g : Nat → Int32} {d a : Nat} (h : ¬ n < 2 * cntE f (f a) n) : cho n f g (d + 1) a = cho n f g d (a + 1) := by
  show (if n < 2 * cntE f (f a) n then g a else cho n f g d (a + 1)) = _
  rw [if_neg h]
def aChosen (n S : Nat) (x : St) (sl : Int32) : Int32 := if okN sl S then cho n (fun a => x.1 9 a (ix sl)) (fun a => x.1 10 a (ix sl)) n 0 else -1
def aPfx (n S : Nat) (x : St) (nd : Int32) : Int32 := if okN nd n then nI (lst (x.1 11 (ix nd)) S 0) else -1
def app1 (r : Int64) (v : Int32) : Int64 := if v.toInt % 2 = 0 then r + v.toInt64 else r * v.toInt64 + 1
def appl (f : Nat → Int32) : Nat → Int64
  | 0 => 0
  | i + 1 => app1 (appl f i) (f i)
def aApp (n S : Nat) (x : St) (nd : Int32) : Int64 := if okN nd n then appl (x.1 11 (ix nd)) (lst (x.1 11 (ix nd)) S 0) else 0
def aCount (n S P : Nat) (x : St) (w : Int32) : Int32 :=
  if w = nI 0 then nI (cntx P x) else if w = nI 1 then nI n else if w = nI 2 then nI S else if w = nI 3 then nI P else if w = nI 4 then x.1 12 0 0 else if w = nI 5 then x.1 12 0 1
  else if w = nI 6 then nI (msk (col (x.1 13) 0) n) else -1
theorem wi_no {v : Int32} {P : Nat} (hP : P < 2 ^ 31) (h : ¬ (nI 0 ≤ v ∧ v ≤ nI (P - 1))) : ¬ okN v P := by
  intro q
  obtain ⟨j, hj, rfl⟩ := okN_of hP q
  exact h ⟨nI_pos' (by omega), nI_le (by omega) (by omega)⟩
theorem popn_le (k : Nat) : popn k ≤ 5 := by unfold popn; omega
theorem wi_ok {v : Int32} {P : Nat} (h1 : 1 ≤ P) (hP : P < 2 ^ 31) (h : nI 0 ≤ v ∧ v ≤ nI (P - 1)) : okN v P := by
  obtain ⟨j, hj, rfl⟩ := wi_of h1 hP h
  exact okN_nI hj hP
theorem L20 {n S : Nat} (h1 : n ≤ 5) (h2 : S ≤ 4) : n * S ≤ 20 := Nat.mul_le_mul h1 h2
theorem ite_1 {p : Prop} {i : Decidable p} (h : (if p then nI 1 else nI 0) = nI 1) : p := by
  by_cases q : p
  · exact q
  · rw [if_neg q] at h
    exact absurd h (by decide)
end
section
/-! Bits and counts -/
theorem msk_bit {f : Nat → Int32} {a : Nat} : ∀ n, a < n → msk f n / 2 ^ a % 2 = if f a = 0 then 1 else 0 := by
  intro n
  induction n with
  | zero => intro h; omega
  | succ n ih =>
    intro h
    have hlt := msk_lt f n
    have hp : 0 < 2 ^ n := Nat.two_pow_pos n
    unfold msk
    by_cases han : a = n
    · subst han
      by_cases hf : f a = 0
      · rw [if_pos hf, if_pos hf, Nat.add_div_right _ hp, Nat.div_eq_of_lt hlt]
      · rw [if_neg hf, if_neg hf, Nat.add_zero, Nat.div_eq_of_lt hlt]
    · have h1 := ih (by omega)
      by_cases hf : f n = 0
      · rw [if_pos hf]
        have e : 2 ^ n = 2 ^ a * (2 * 2 ^ (n - a - 1)) := by
          rw [show 2 * 2 ^ (n - a - 1) = 2 ^ (n - a - 1 + 1) by rw [Nat.pow_succ]; omega, ← Nat.pow_add]
          congr 1
          omega
        rw [e, Nat.add_mul_div_left _ _ (Nat.two_pow_pos a), Nat.add_mul_mod_self_left]
        exact h1
      · rw [if_neg hf, Nat.add_zero]
        exact h1
theorem bit_fin : ∀ M, M < 32 → ∀ a, a < 5 → (nI M >>> (nI a &&& 31)) &&& nI 1 = nI (M / 2 ^ a % 2) := by decide +kernel
theorem clr_fin : ∀ M, M < 32 → ∀ a, a < 5 → M / 2 ^ a % 2 = 1 → nI M &&& ((nI 1 <<< (nI a &&& 31)) ^^^ (-1)) = nI (M - 2 ^ a) := by decide +kernel
theorem set_fin : ∀ M, M < 32 → ∀ a, a < 5 → M / 2 ^ a % 2 = 0 → nI M ||| (nI 1 <<< (nI a &&& 31)) = nI (M + 2 ^ a) := by decide +kernel
theorem orb_fin : ∀ k, k < 32 → ∀ b, b < 5 → orb (nI k) (nI b) = nI (k ||| 2 ^ b) ∧ (k ||| 2 ^ b) < 32 := by decide +kernel
theorem ini_fin : ∀ n, n < 6 → (nI 1 <<< (nI n &&& 31)) - nI 1 = nI (2 ^ n - 1) := by decide +kernel
theorem p5 {n : Nat} (h : n ≤ 5) : 2 ^ n ≤ 32 := by
  have : 2 ^ n ≤ 2 ^ 5 := Nat.pow_le_pow_right (by decide) h
  omega
theorem msk_32 (f : Nat → Int32) {n : Nat} (h : n ≤ 5) : msk f n < 32 := Nat.lt_of_lt_of_le (msk_lt f n) (p5 h)
theorem up_val {f : Nat → Int32} {n a : Nat} (ha : a < n) (hn : n ≤ 5) : (nI (msk f n) >>> (nI a &&& 31)) &&& nI 1 = if f a = 0 then nI 1 else nI 0 := by
  rw [bit_fin _ (msk_32 f hn) a (by omega), msk_bit n ha]
  split <;> rfl
theorem msk_ext {f g : Nat → Int32} : ∀ i, (∀ j, j < i → f j = g j) → msk f i = msk g i := by
  intro i
  induction i with
  | zero => intro _; rfl
  | succ i ih =>
    intro h
    unfold msk
    rw [ih (fun j hj => h j (by omega)), h i (by omega)]
theorem msk_clr {f : Nat → Int32} {a : Nat} {v : Int32} (hv : v ≠ 0) (hf : f a = 0) : ∀ n, a < n → msk (upd f a v) n + 2 ^ a = msk f n := by
  intro n
  induction n with
  | zero => intro h; omega
  | succ n ih =>
    intro h
    unfold msk
    by_cases hn : n = a
    · subst hn
      rw [msk_ext (g := f) n (fun j hj => by unfold upd; rw [if_neg (by omega)])]
      unfold upd
      rw [if_pos rfl, if_neg hv, if_pos hf]
      omega
    · have h1 := ih (by omega)
      have : upd f a v n = f n := by unfold upd; rw [if_neg hn]
      rw [this]
      omega
theorem crash_val {f : Nat → Int32} {n a : Nat} {v : Int32} (ha : a < n) (hn : n ≤ 5) (hv : v ≠ 0) (hf : f a = 0) : nI (msk f n) &&& ((nI 1 <<< (nI a &&& 31)) ^^^ (-1)) = nI (msk (upd f a v) n) := by
  rw [clr_fin _ (msk_32 f hn) a (by omega) (by rw [msk_bit n ha, if_pos hf])]
  have := msk_clr hv hf n ha
  congr 1
  omega
theorem back_val {f : Nat → Int32} {n a : Nat} (ha : a < n) (hn : n ≤ 5) (hf : f a ≠ 0) : nI (msk f n) ||| (nI 1 <<< (nI a &&& 31)) = nI (msk (upd f a (nI 0)) n) := by
  rw [set_fin _ (msk_32 f hn) a (by omega) (by rw [msk_bit n ha, if_neg hf])]
  have h1 := msk_clr (f := upd f a (nI 0)) (a := a) (v := f a) hf (by unfold upd; rw [if_pos rfl]; rfl) n ha
  have h2 : upd (upd f a (nI 0)) a (f a) = f := by
    funext i
    unfold upd
    by_cases h : i = a
    · rw [if_pos h, h]
    · rw [if_neg h, if_neg h]
  rw [h2] at h1
  exact congrArg nI h1
theorem pop_msk {f : Nat → Int32} {n : Nat} (hn : n ≤ 5) : popn (msk f n) = cntE f 0 n := by
  rcases (show n = 0 ∨ n = 1 ∨ n = 2 ∨ n = 3 ∨ n = 4 ∨ n = 5 by omega) with rfl | rfl | rfl | rfl | rfl | rfl
  · simp [popn, msk, cntE]
  · by_cases h0 : f 0 = 0 <;> simp [popn, msk, cntE, h0]
  · by_cases h0 : f 0 = 0 <;> by_cases h1 : f 1 = 0 <;> simp [popn, msk, cntE, h0, h1]
  · by_cases h0 : f 0 = 0 <;> by_cases h1 : f 1 = 0 <;> by_cases h2 : f 2 = 0 <;> simp [popn, msk, cntE, h0, h1, h2]
  · by_cases h0 : f 0 = 0 <;> by_cases h1 : f 1 = 0 <;> by_cases h2 : f 2 = 0 <;> by_cases h3 : f 3 = 0 <;> simp [popn, msk, cntE, h0, h1, h2, h3]
  · by_cases h0 : f 0 = 0 <;> by_cases h1 : f 1 = 0 <;> by_cases h2 : f 2 = 0 <;> by_cases h3 : f 3 = 0 <;> by_cases h4 : f 4 = 0 <;> simp [popn, msk, cntE, h0, h1, h2, h3, h4]
theorem cntE_two {f : Nat → Int32} {b c : Int32} (h : b ≠ c) : ∀ n, cntE f b n + cntE f c n ≤ n := by
  intro n
  induction n with
  | zero => exact Nat.le_refl _
  | succ n ih =>
    unfold cntE
    by_cases h1 : f n = b
    · rw [if_pos h1, if_neg (fun q => h (h1.symm.trans q))]; omega
    · rw [if_neg h1]; split <;> omega
theorem cntE_same {f : Nat → Int32} {b c : Int32} {n : Nat} (h1 : n < 2 * cntE f b n) (h2 : n < 2 * cntE f c n) : b = c := by
  by_cases h : b = c
  · exact h
  · have := cntE_two (f := f) h n
    omega
def ush (x y : Int32) : Int32 := (x.toUInt32 >>> (y.toUInt32 &&& Int32.toUInt32 31)).toInt32
def bc1 (i : Int32) : Int32 := i - (ush i (nI 1) &&& 1431655765)
def bc2 (i : Int32) : Int32 := (i &&& 858993459) + (ush i (nI 2) &&& 858993459)
def bc3 (i : Int32) : Int32 := (i + ush i (nI 4)) &&& 252645135
def bc4 (i : Int32) : Int32 := i + ush i (nI 8)
def bc5 (i : Int32) : Int32 := i + ush i (nI 16)
theorem bc_fin : ∀ k, k < 32 → bc5 (bc4 (bc3 (bc2 (bc1 (nI k))))) &&& nI 63 = nI (popn k) := by decide +kernel
end
section
/-! What holds of every reached state -/
theorem put_at {x : St} {c a s c' a' s' : Nat} {v : Int32} : (put x c a s v).1 c' a' s' = if c' = c ∧ a' = a ∧ s' = s then v else x.1 c' a' s' := by
  by_cases h : c' = c
  · subst h
    rw [put_c]
    unfold up2
    by_cases h2 : a' = a ∧ s' = s
    · rw [if_pos h2, if_pos ⟨rfl, h2⟩]
    · rw [if_neg h2, if_neg (fun q => h2 q.2)]
  · rw [put_o h, if_neg (fun q => h q.1)]
theorem up7_n {g : Nat → Nat → Int32} {m m' j : Nat} {k s r sl b v o : Int32} (h : m' ≠ m) : up7 g m k s r sl b v o m' j = g m' j := by
  unfold up7
  simp only [up2_n (fun q => h q.1)]
theorem up7_s {g : Nat → Nat → Int32} {m : Nat} {k s r sl b v o : Int32} : up7 g m k s r sl b v o m 0 = k ∧ up7 g m k s r sl b v o m 1 = s ∧ up7 g m k s r sl b v o m 2 = r ∧ up7 g m k s r sl b v o m 3 = sl ∧ up7 g m k s r sl b v o m 4 = b ∧ up7 g m k s r sl b v o m 5 = v ∧ up7 g m k s r sl b v o m 6 = o := by
  refine ⟨?_, ?_, ?_, ?_, ?_, ?_, ?_⟩ <;> (unfold up7 up2; simp)
theorem col_up7 {g : Nat → Nat → Int32} {m : Nat} {k s r sl b v o : Int32} : col (up7 g m k s r sl b v o) 0 = upd (col g 0) m k := by
  funext i
  unfold upd
  by_cases h : i = m
  · subst h; rw [if_pos rfl]; exact up7_s.1
  · rw [if_neg h]; exact up7_n h
theorem cnt_send {P : Nat} {x : St} {k s r sl b v o : Int32} (hk : k ≠ 0) (h : cntx P x < P) : cntx P (send1 P x k s r sl b v o) = cntx P x + 1 := by
  unfold cntx send1
  rw [put7_c, col_up7]
  have hl : lst (col (x.1 0) 0) P 0 < P := lst_lt h
  exact cnt_set ((lst_spec _ P 0).2.2.2 (by omega)) hk P hl
theorem cnt_out {P : Nat} {x : St} {m : Nat} (hm : m < P) (h : x.1 0 m 0 ≠ 0) : cntx P (put x 0 m 0 (nI 0)) + 1 = cntx P x := by
  unfold cntx
  rw [put_c, ← col_up]
  exact cnt_clr (f := col (x.1 0) 0) (m := m) h P hm
theorem cnt_pos {P : Nat} {x : St} {m : Nat} (hm : m < P) (h : x.1 0 m 0 ≠ 0) : 1 ≤ cntx P x := by
  have := cnt_out hm h
  omega
theorem cnt_sendA {P : Nat} {x : St} {k s sl b v : Int32} (hk : k ≠ 0) : ∀ i, cntx P x + i ≤ P → cntx P (sendA P x k s sl b v i) = cntx P x + i := by
  intro i
  induction i with
  | zero => intro _; rfl
  | succ i ih =>
    intro h
    have h1 := ih (by omega)
    show cntx P (send1 P (sendA P x k s sl b v i) k s (nI i) sl b v (-1)) = _
    rw [cnt_send hk (by omega), h1]
    omega
/-- a message that can be sent -/
def vmsg (n S : Nat) (k s r sl v : Int32) : Prop := ∃ k' b a s' : Nat, 1 ≤ k' ∧ k' ≤ 5 ∧ b < n ∧ a < n ∧ s' < S ∧ k = nI k' ∧ s = nI b ∧ r = nI a ∧ sl = nI s' ∧ 0 ≤ v
def Imsg (n S : Nat) (x : St) : Prop := ∀ m, x.1 0 m 0 ≠ 0 → vmsg n S (x.1 0 m 0) (x.1 0 m 1) (x.1 0 m 2) (x.1 0 m 3) (x.1 0 m 5)
/-- the ballots that have a value -/
def Pr (x : St) (s : Nat) (b v : Int32) : Prop := s < 100 ∧ ((∃ a, x.1 9 a s = b ∧ 0 ≤ b ∧ x.1 10 a s = v) ∨ ∃ m, (x.1 0 m 0 = nI 3 ∨ x.1 0 m 0 = nI 4) ∧ x.1 0 m 3 = nI s ∧ x.1 0 m 4 = b ∧ x.1 0 m 5 = v)
def Ipr (n : Nat) (x : St) : Prop :=
  (∀ s b v v', Pr x s b v → Pr x s b v' → v = v') ∧
  (∀ s b v, Pr x s b v → ∃ a r, a < n ∧ r ≤ 1000 ∧ b = nI (r * n + a) ∧ b ≤ x.1 2 a s ∧ (x.1 1 a s = nI 1 → b ≠ x.1 2 a s)) ∧
  (∀ a s, a < n → x.1 1 a s = nI 1 → ∃ r, r ≤ 1000 ∧ x.1 2 a s = nI (r * n + a))
def Ival (x : St) : Prop := (∀ a s, 0 ≤ x.1 5 a s) ∧ (∀ a s, 0 ≤ x.1 6 a s) ∧ (∀ a s, 0 ≤ x.1 7 a s) ∧ (∀ a s, 0 ≤ x.1 10 a s) ∧ (∀ a s, 0 ≤ x.1 11 a s)
def Ibest (x : St) : Prop := (∀ a s, -1 ≤ x.1 4 a s) ∧ (∀ a s, x.1 1 a s ≠ 0 → x.1 5 a s = if x.1 4 a s < 0 then x.1 6 a s else x.1 7 a s) ∧ (∀ a s, x.1 9 a s < 0 → x.1 10 a s = 0)
def Ibit (x : St) : Prop := (∀ a s, ∃ k, k < 32 ∧ x.1 3 a s = nI k) ∧ ∀ a, x.1 13 a 0 = nI 0 ∨ x.1 13 a 0 = nI 1
def Inv (n S : Nat) (x : St) : Prop := Imsg n S x ∧ Ipr n x ∧ Ival x ∧ Ibest x ∧ Ibit x
theorem up2_all {f : Nat → Nat → Int32} {p : Int32 → Prop} {a s : Nat} {v : Int32} (h : ∀ a s, p (f a s)) (hv : p v) : ∀ a' s', p (up2 f a s v a' s') := by
  intro a' s'
  by_cases q : a' = a ∧ s' = s
  · unfold up2; rw [if_pos q]; exact hv
  · rw [up2_n q]; exact h a' s'
theorem vmsg_nz {n S : Nat} {k s r sl v : Int32} (h : vmsg n S k s r sl v) : k ≠ 0 := by
  obtain ⟨k', b, a, s', h1, h2, -, -, -, rfl, -⟩ := h
  exact nI_ne0 h1 (by omega)
theorem nI_inj {a b : Nat} (ha : a < 2 ^ 31) (hb : b < 2 ^ 31) (h : nI a = nI b) : a = b := (nI_eq ha hb).mp h
theorem own_u {n r a r' a' : Nat} (ha : a < n) (ha' : a' < n) (h : r * n + a = r' * n + a') : a = a' := by
  have h1 := (dv_at (a := r) ha).2
  have h2 := (dv_at (a := r') ha').2
  rw [h] at h1
  omega
theorem bal_lt {n r a : Nat} (hn : n ≤ 5) (ha : a < n) (hr : r ≤ 1000) : r * n + a < 2 ^ 31 := by
  have := Nat.mul_le_mul hr hn
  omega
/-! messages -/
theorem Imsg_c {n S : Nat} {x y : St} (e : y.1 0 = x.1 0) (h : Imsg n S x) : Imsg n S y := by
  unfold Imsg at *; rw [e]; exact h
theorem Imsg_7 {n S : Nat} {x : St} {m : Nat} {k s r sl b v o : Int32} (h : Imsg n S x) (hv : vmsg n S k s r sl v) : Imsg n S (put7 x m k s r sl b v o) := by
  intro m' hm'
  rw [put7_c] at hm' ⊢
  by_cases q : m' = m
  · subst q
    obtain ⟨e0, e1, e2, e3, -, e5, -⟩ := up7_s (g := x.1 0) (m := m') (k := k) (s := s) (r := r) (sl := sl) (b := b) (v := v) (o := o)
    rw [e0, e1, e2, e3, e5]; exact hv
  · rw [up7_n q] at hm'
    rw [up7_n q, up7_n q, up7_n q, up7_n q, up7_n q]
    exact h m' hm'
theorem Imsg_A {n S P : Nat} {x : St} {k s sl b v : Int32} (h : Imsg n S x) : ∀ i, (∀ j, j < i → vmsg n S k s (nI j) sl v) → Imsg n S (sendA P x k s sl b v i) := by
  intro i
  induction i with
  | zero => intro _; exact h
  | succ i ih => intro hv; exact Imsg_7 (ih (fun j hj => hv j (by omega))) (hv i (by omega))
theorem Imsg_o {n S : Nat} {x : St} {m : Nat} (h : Imsg n S x) : Imsg n S (put x 0 m 0 (nI 0)) := by
  intro m' hm'
  rw [put_c] at hm' ⊢
  by_cases q : m' = m
  · subst q
    rw [up2_s] at hm'
    exact absurd rfl hm'
  · have e : ∀ k, up2 (x.1 0) m 0 (nI 0) m' k = x.1 0 m' k := fun k => up2_n (fun z => q z.1)
    rw [e] at hm'
    rw [e, e, e, e, e]
    exact h m' hm'
theorem sendA_o {P : Nat} {x : St} {k s sl b v : Int32} {c : Nat} (hc : c ≠ 0) : ∀ i, (sendA P x k s sl b v i).1 c = x.1 c := by
  intro i
  induction i with
  | zero => rfl
  | succ i ih => exact (put7_o hc).trans ih
/-! pairs -/
theorem Pr_c {x y : St} {s : Nat} {b v : Int32} (e0 : y.1 0 = x.1 0) (e9 : y.1 9 = x.1 9) (e10 : y.1 10 = x.1 10) (h : Pr y s b v) : Pr x s b v := by
  unfold Pr at *; rw [e0, e9, e10] at h; exact h
theorem Pr_7 {x : St} {m : Nat} {k s r sl b v o : Int32} {s' : Nat} {b' v' : Int32} (h : Pr (put7 x m k s r sl b v o) s' b' v') : Pr x s' b' v' ∨ (s' < 100 ∧ (k = nI 3 ∨ k = nI 4) ∧ sl = nI s' ∧ b = b' ∧ v = v') := by
  unfold Pr at h
  rw [put7_c, put7_o (by decide), put7_o (by decide)] at h
  rcases h with ⟨hs, h | ⟨m', h1, h2, h3, h4⟩⟩
  · exact Or.inl ⟨hs, Or.inl h⟩
  · by_cases q : m' = m
    · subst q
      obtain ⟨e0, -, -, e3, e4, e5, -⟩ := up7_s (g := x.1 0) (m := m') (k := k) (s := s) (r := r) (sl := sl) (b := b) (v := v) (o := o)
      rw [e0] at h1; rw [e3] at h2; rw [e4] at h3; rw [e5] at h4
      exact Or.inr ⟨hs, h1, h2, h3, h4⟩
    · rw [up7_n q] at h1 h2 h3 h4
      exact Or.inl ⟨hs, Or.inr ⟨m', h1, h2, h3, h4⟩⟩
theorem Pr_A {P : Nat} {x : St} {k s sl b v : Int32} {s' : Nat} {b' v' : Int32} : ∀ i, Pr (sendA P x k s sl b v i) s' b' v' → Pr x s' b' v' ∨ (s' < 100 ∧ (k = nI 3 ∨ k = nI 4) ∧ sl = nI s' ∧ b = b' ∧ v = v') := by
  intro i
  induction i with
  | zero => intro h; exact Or.inl h
  | succ i ih =>
    intro h
    rcases Pr_7 h with h | h
    · exact ih h
    · exact Or.inr h
theorem Pr_o {x : St} {m : Nat} {s : Nat} {b v : Int32} (h : Pr (put x 0 m 0 (nI 0)) s b v) : Pr x s b v := by
  unfold Pr at h
  rw [put_c, put_o (by decide), put_o (by decide)] at h
  rcases h with ⟨hs, h | ⟨m', h1, h2, h3, h4⟩⟩
  · exact ⟨hs, Or.inl h⟩
  · by_cases q : m' = m
    · subst q
      rw [up2_s] at h1
      exact absurd h1 (by decide)
    · have e : ∀ k, up2 (x.1 0) m 0 (nI 0) m' k = x.1 0 m' k := fun k => up2_n (fun z => q z.1)
      rw [e] at h1 h2 h3 h4
      exact ⟨hs, Or.inr ⟨m', h1, h2, h3, h4⟩⟩
theorem Ipr_add {n t : Nat} {x z : St} {E : Prop} {b0 v0 : Int32} (h : Ipr n x) (hp : ∀ s b v, Pr z s b v → Pr x s b v ∨ (E ∧ s = t ∧ b = b0 ∧ v = v0)) (h2 : z.1 2 = x.1 2) (h1 : ∀ a s, z.1 1 a s = nI 1 → x.1 1 a s = nI 1)
    (hE : E → (∀ v, Pr x t b0 v → v = v0) ∧ ∃ a r, a < n ∧ r ≤ 1000 ∧ b0 = nI (r * n + a) ∧ b0 ≤ x.1 2 a t ∧ (z.1 1 a t = nI 1 → b0 ≠ x.1 2 a t)) : Ipr n z := by
  obtain ⟨u1, u2, u3⟩ := h
  refine ⟨fun s b v v' ha hb => ?_, fun s b v ha => ?_, fun a s ha hs => ?_⟩
  · rcases hp s b v ha with ha | ⟨e, rfl, rfl, rfl⟩ <;> rcases hp _ _ v' hb with hb | ⟨e', h3, h4, h5⟩
    · exact u1 s b v v' ha hb
    · subst h3; subst h4; subst h5; exact (hE e').1 v ha
    · exact ((hE e).1 v' hb).symm
    · exact h5.symm
  · rw [h2]
    rcases hp s b v ha with ha | ⟨e, rfl, rfl, rfl⟩
    · obtain ⟨a, r, g1, g2, g3, g4, g5⟩ := u2 s b v ha
      exact ⟨a, r, g1, g2, g3, g4, fun q => g5 (h1 a s q)⟩
    · exact (hE e).2
  · rw [h2]
    exact u3 a s ha (h1 a s hs)
theorem Ipr_sub {n : Nat} {x z : St} (h : Ipr n x) (hp : ∀ s b v, Pr z s b v → Pr x s b v) (h2 : z.1 2 = x.1 2) (h1 : ∀ a s, z.1 1 a s = nI 1 → x.1 1 a s = nI 1) : Ipr n z :=
  Ipr_add (E := False) (t := 0) (b0 := 0) (v0 := 0) h (fun s b v q => Or.inl (hp s b v q)) h2 h1 (fun q => q.elim)
/-! a message sent leaves the rest -/
theorem Ival_c {x y : St} (e : ∀ c, c ≠ 0 → y.1 c = x.1 c) (h : Ival x) : Ival y := by
  unfold Ival at *; rw [e 5 (by decide), e 6 (by decide), e 7 (by decide), e 10 (by decide), e 11 (by decide)]; exact h
theorem Ibest_c {x y : St} (e : ∀ c, c ≠ 0 → y.1 c = x.1 c) (h : Ibest x) : Ibest y := by
  unfold Ibest at *; rw [e 4 (by decide), e 1 (by decide), e 5 (by decide), e 6 (by decide), e 7 (by decide), e 9 (by decide), e 10 (by decide)]; exact h
theorem Ibit_c {x y : St} (e : ∀ c, c ≠ 0 → y.1 c = x.1 c) (h : Ibit x) : Ibit y := by
  unfold Ibit at *; rw [e 3 (by decide), e 13 (by decide)]; exact h
/-- a message whose pair is known -/
theorem Inv_7 {n S : Nat} {x : St} {m : Nat} {k s r sl b v o : Int32} (h : Inv n S x) (hv : vmsg n S k s r sl v) (hp : ∀ t, t < 100 → (k = nI 3 ∨ k = nI 4) → sl = nI t → Pr x t b v) : Inv n S (put7 x m k s r sl b v o) := by
  obtain ⟨h1, h2, h3, h4, h5⟩ := h
  have e : ∀ c, c ≠ 0 → (put7 x m k s r sl b v o).1 c = x.1 c := fun c hc => put7_o hc
  refine ⟨Imsg_7 h1 hv, Ipr_sub h2 (fun s' b' v' q => ?_) (e 2 (by decide)) (fun a s q => by rw [e 1 (by decide)] at q; exact q), Ival_c e h3, Ibest_c e h4, Ibit_c e h5⟩
  rcases Pr_7 q with q | ⟨g0, g1, g2, g3, g4⟩
  · exact q
  · subst g3; subst g4; exact hp s' g0 g1 g2
theorem Inv_A {n S P : Nat} {x : St} {k s sl b v : Int32} (h : Inv n S x) (i : Nat) (hv : ∀ j, j < i → vmsg n S k s (nI j) sl v) (hp : ∀ t, t < 100 → (k = nI 3 ∨ k = nI 4) → sl = nI t → Pr x t b v) : Inv n S (sendA P x k s sl b v i) := by
  obtain ⟨h1, h2, h3, h4, h5⟩ := h
  have e : ∀ c, c ≠ 0 → (sendA P x k s sl b v i).1 c = x.1 c := fun c hc => sendA_o hc i
  refine ⟨Imsg_A h1 i hv, Ipr_sub h2 (fun s' b' v' q => ?_) (e 2 (by decide)) (fun a s q => by rw [e 1 (by decide)] at q; exact q), Ival_c e h3, Ibest_c e h4, Ibit_c e h5⟩
  rcases Pr_A i q with q | ⟨g0, g1, g2, g3, g4⟩
  · exact q
  · subst g3; subst g4; exact hp s' g0 g1 g2
theorem Inv_o {n S : Nat} {x : St} {m : Nat} (h : Inv n S x) : Inv n S (put x 0 m 0 (nI 0)) := by
  obtain ⟨h1, h2, h3, h4, h5⟩ := h
  have e : ∀ c, c ≠ 0 → (put x 0 m 0 (nI 0)).1 c = x.1 c := fun c hc => put_o hc
  exact ⟨Imsg_o h1, Ipr_sub h2 (fun s' b' v' q => Pr_o q) (e 2 (by decide)) (fun a s q => by rw [e 1 (by decide)] at q; exact q), Ival_c e h3, Ibest_c e h4, Ibit_c e h5⟩
/-- parts that no promise reads: 8, 12 -/
theorem Inv_f {n S : Nat} {x y : St} (e : ∀ c, c ≠ 8 → c ≠ 12 → y.1 c = x.1 c) (h : Inv n S x) : Inv n S y := by
  unfold Inv Imsg Ipr Pr Ival Ibest Ibit at *
  rw [e 0 (by decide) (by decide), e 1 (by decide) (by decide), e 2 (by decide) (by decide), e 3 (by decide) (by decide), e 4 (by decide) (by decide), e 5 (by decide) (by decide), e 6 (by decide) (by decide), e 7 (by decide) (by decide), e 9 (by decide) (by decide), e 10 (by decide) (by decide), e 11 (by decide) (by decide), e 13 (by decide) (by decide)]
  exact h
theorem Inv_put8 {n S : Nat} {x : St} {a s : Nat} {v : Int32} (h : Inv n S x) : Inv n S (put x 8 a s v) := Inv_f (fun c h1 _ => put_o h1) h
theorem Inv_put12 {n S : Nat} {x : St} {a s : Nat} {v : Int32} (h : Inv n S x) : Inv n S (put x 12 a s v) := Inv_f (fun c _ h1 => put_o h1) h
theorem Inv_pth {n S : Nat} {x : St} {c a s b : Nat} {v : Int32} (h : Inv n S x) : Inv n S (pth x c a s b v) := Inv_f (fun _ _ _ => rfl) h
theorem Inv_out {n S : Nat} {x : St} {m : Nat} (h : Inv n S x) : Inv n S (sOut x m) := Inv_put12 (Inv_o h)
theorem Inv_lost {n S : Nat} {x : St} (h : Inv n S x) : Inv n S (sLost x) := Inv_put12 h
theorem Inv_learn {n S : Nat} {x : St} {a s : Nat} {v : Int32} (h : Inv n S x) (hv : 0 ≤ v) : Inv n S (sLearn x a s v) := by
  unfold sLearn
  by_cases q : x.1 11 a s = 0
  · rw [if_pos q]
    obtain ⟨h1, h2, h3, h4, h5⟩ := h
    have e : ∀ c, c ≠ 11 → (put x 11 a s v).1 c = x.1 c := fun c hc => put_o hc
    refine ⟨Imsg_c (e 0 (by decide)) h1, Ipr_sub h2 (fun _ _ _ q => Pr_c (e 0 (by decide)) (e 9 (by decide)) (e 10 (by decide)) q) (e 2 (by decide)) (fun a s q => by rw [e 1 (by decide)] at q; exact q), ?_, ?_, ?_⟩
    · unfold Ival at *; rw [e 5 (by decide), e 6 (by decide), e 7 (by decide), e 10 (by decide), put_c]
      exact ⟨h3.1, h3.2.1, h3.2.2.1, h3.2.2.2.1, up2_all h3.2.2.2.2 hv⟩
    · unfold Ibest at *; rw [e 4 (by decide), e 1 (by decide), e 5 (by decide), e 6 (by decide), e 7 (by decide), e 9 (by decide), e 10 (by decide)]; exact h4
    · unfold Ibit at *; rw [e 3 (by decide), e 13 (by decide)]; exact h5
  · rw [if_neg q]; exact h
theorem Inv_hear {n S : Nat} {x : St} {a s c : Nat} {b v : Int32} (h : Inv n S x) (hv : 0 ≤ v) : Inv n S (sHear n x a s c b v) := by
  unfold sHear
  by_cases q : x.2 0 a s c < b
  · rw [if_pos q]
    by_cases q2 : n < 2 * cntE (up3 (x.2 0) a s c b a s) b n
    · rw [if_pos q2]; exact Inv_learn (Inv_pth (Inv_pth h)) hv
    · rw [if_neg q2]; exact Inv_pth (Inv_pth h)
  · rw [if_neg q]; exact h
end
section
abbrev wPo (q : Nat → Nat) (cI : ClassId) (P : Nat) (g : Nat → Nat → Int32) (cn : Nat) : va_W := [(q 1, .inr (1, [.int (nI P), .ref (q 2), .int (nI cn)])), (q 2, .inl (cI, P * 7, .inl (sq 7 g)))]
abbrev wPr (q : Nat → Nat) (cI : ClassId) (n L : Nat) (f1 f2 f3 f4 f5 : Nat → Int32) : va_W := [(q 3, .inr (2, [.int (nI n), .ref (q 4), .ref (q 5), .ref (q 6), .ref (q 7), .ref (q 8)])), (q 4, .inl (cI, L, .inl f1)), (q 5, .inl (cI, L, .inl f2)), (q 6, .inl (cI, L, .inl f3)), (q 7, .inl (cI, L, .inl f4)), (q 8, .inl (cI, L, .inl f5))]
abbrev wAc (q : Nat → Nat) (cI : ClassId) (n S L : Nat) (f6 f7 f8 : Nat → Int32) : va_W := [(q 9, .inr (3, [.int (nI n), .int (nI S), .ref (q 10), .ref (q 11), .ref (q 12)])), (q 10, .inl (cI, L, .inl f6)), (q 11, .inl (cI, L, .inl f7)), (q 12, .inl (cI, L, .inl f8))]
abbrev wLe (q : Nat → Nat) (cI : ClassId) (n L : Nat) (f9 f10 : Nat → Int32) : va_W := [(q 13, .inr (4, [.int (nI n), .ref (q 14), .ref (q 15)])), (q 14, .inl (cI, L * n, .inl f9)), (q 15, .inl (cI, L, .inl f10))]
abbrev wOb (q : Nat → Nat) (n S : Nat) (ub dl lo : Int32) : va_W := [(q 0, .inr (0, [.int (nI n), .int (nI S), .ref (q 1), .ref (q 3), .ref (q 9), .ref (q 13), .int ub, .int dl, .int lo]))]
abbrev wD (q : Nat → Nat) (cI : ClassId) (n S P L : Nat) (ub dl lo : Int32) (g : Nat → Nat → Int32) (cn : Nat) (f1 f2 f3 f4 f5 f6 f7 f8 f9 f10 : Nat → Int32) : va_W := wOb q n S ub dl lo ++ (wPo q cI P g cn ++ (wPr q cI n L f1 f2 f3 f4 f5 ++ (wAc q cI n S L f6 f7 f8 ++ wLe q cI n L f9 f10)))
end
section
theorem dDecreePool_isWithin_0 : decode cDecreePool_isWithin 0 = .ok (.iload_n 0, 1) := by decide +kernel
theorem dDecreePool_isWithin_1 : decode cDecreePool_isWithin 1 = .ok (.iload_n 1, 1) := by decide +kernel
theorem dDecreePool_isWithin_2 : decode cDecreePool_isWithin 2 = .ok (.if_icmp .lt 12, 3) := by decide +kernel
theorem dDecreePool_isWithin_5 : decode cDecreePool_isWithin 5 = .ok (.iload_n 0, 1) := by decide +kernel
theorem dDecreePool_isWithin_6 : decode cDecreePool_isWithin 6 = .ok (.iload_n 2, 1) := by decide +kernel
theorem dDecreePool_isWithin_7 : decode cDecreePool_isWithin 7 = .ok (.if_icmp .gt 7, 3) := by decide +kernel
theorem dDecreePool_isWithin_10 : decode cDecreePool_isWithin 10 = .ok (.iconst 1, 1) := by decide +kernel
theorem dDecreePool_isWithin_11 : decode cDecreePool_isWithin 11 = .ok (.goto 4, 3) := by decide +kernel
theorem dDecreePool_isWithin_14 : decode cDecreePool_isWithin 14 = .ok (.iconst 0, 1) := by decide +kernel
theorem dDecreePool_isWithin_15 : decode cDecreePool_isWithin 15 = .ok (.ireturn, 1) := by decide +kernel
set_option maxRecDepth 100000 in
set_option maxHeartbeats 4000000 in
theorem c_isWithin (l : Launch) (D : va_G) (cI cZ : ClassId) (x : Int32) (a : Int32) (b : Int32) : MI l D [(cI, .int), (cZ, .boolean)] yDecreePool_isWithin wsDecreePool_isWithin ({ frames := 0, cells := 0, slots := 0, locals := 0 }) [.int x, .int a, .int b] ([] : va_W) (fun r w => (r = nI 1 ∧ (a ≤ x ∧ x ≤ b) ∧ w = ([] : va_W)) ∨ (r = nI 0 ∧ (¬ (a ≤ x ∧ x ≤ b)) ∧ w = ([] : va_W))) := by
  intro sz
  refine Met.ofW (cc := cDecreePool_isWithin) (maxL := 3) (ret := (Option.some .boolean)) (by decide) rfl ?_
  intro p e s m args below meth c s₁ B hml hv
  obtain ⟨rfl, hsz, hP, hK, hD0, hZ⟩ := hv
  have hx := B.exec
  have hb := B.bytes
  have hr := B.returns
  have hts := atoms_spec (ws := wsDecreePool_isWithin) B.pre
  have hown : s.vm.findClass RDecreePool = some m.cls := findClass_of_methodNamed B.named
  have hlocks := B.notSynchronized
  subst hsz
  have hD := hD0.self (sz := s.heap.size)
  generalize hAe : va_A ([] : va_W) s.heap.size = A at hD ⊢
  have hA : ∀ q : Nat, s.heap.size ≤ q → A q := fun q h => by rw [← hAe]; exact Or.inr h
  have hS : va_S A s.heap s.heap [] := va_S.rf
  have hP : va_P D vwCl ([] : va_W) s.heap := hP
  have hl := lv_entry ([.int x, .int a, .int b]) (n := 3) (Nat.le_of_ble_eq_true rfl)
  rw [lg_entry_eq]
  generalize (lg_sl ([.int x, .int a, .int b]) ++ List.replicate (3 - (lg_sl ([.int x, .int a, .int b])).length) Slot.unset).toArray = ls at hl ⊢
  have hl : lv_has ls 3 [(0, .int x), (1, .int a), (2, .int b)] := hl
  refine lv_iload_n hx hb dDecreePool_isWithin_0 rfl (lv_at hl 0 rfl) ?_
  refine lv_iload_n hx hb dDecreePool_isWithin_1 rfl (lv_at hl 1 rfl) ?_
  refine lv_icmp_lt (tgt := 14) hx hb dDecreePool_isWithin_2 (by decide) (fun c2 => ?_) (fun c2 => ?_)
  · refine lv_iconst (v := nI 0) hx hb dDecreePool_isWithin_14 (by decide) ?_
    exact W.zret (v := nI 0) (ty := .boolean) hx hb hr (by decide) (fun t9 ht9 hW9 => ⟨⟨nI 0, ([] : va_W), rfl, Or.inr ⟨rfl, fun h => absurd h.1 (Int32.not_le.mpr c2), rfl⟩, by rw [ht9]; exact hP, va_K.moved hW9.alike hK, hD⟩, hS.F ht9⟩) hS.2.2 dDecreePool_isWithin_15
  · refine lv_iload_n hx hb dDecreePool_isWithin_5 rfl (lv_at hl 0 rfl) ?_
    refine lv_iload_n hx hb dDecreePool_isWithin_6 rfl (lv_at hl 2 rfl) ?_
    refine lv_icmp_gt (tgt := 14) hx hb dDecreePool_isWithin_7 (by decide) (fun c7 => ?_) (fun c7 => ?_)
    · refine lv_iconst (v := nI 0) hx hb dDecreePool_isWithin_14 (by decide) ?_
      exact W.zret (v := nI 0) (ty := .boolean) hx hb hr (by decide) (fun t9 ht9 hW9 => ⟨⟨nI 0, ([] : va_W), rfl, Or.inr ⟨rfl, fun h => absurd h.2 (Int32.not_le.mpr c7), rfl⟩, by rw [ht9]; exact hP, va_K.moved hW9.alike hK, hD⟩, hS.F ht9⟩) hS.2.2 dDecreePool_isWithin_15
    · refine lv_iconst (v := nI 1) hx hb dDecreePool_isWithin_10 (by decide) ?_
      refine lv_goto (tgt := 15) hx hb dDecreePool_isWithin_11 (by decide) ?_
      exact W.zret (v := nI 1) (ty := .boolean) hx hb hr (by decide) (fun t9 ht9 hW9 => ⟨⟨nI 1, ([] : va_W), rfl, Or.inl ⟨rfl, ⟨Int32.not_lt.mp c2, Int32.not_lt.mp c7⟩, rfl⟩, by rw [ht9]; exact hP, va_K.moved hW9.alike hK, hD⟩, hS.F ht9⟩) hS.2.2 dDecreePool_isWithin_15
theorem dDecreePool_isMajority_0 : decode cDecreePool_isMajority 0 = .ok (.iconst 2, 1) := by decide +kernel
theorem dDecreePool_isMajority_1 : decode cDecreePool_isMajority 1 = .ok (.iload_n 0, 1) := by decide +kernel
theorem dDecreePool_isMajority_2 : decode cDecreePool_isMajority 2 = .ok (.imul, 1) := by decide +kernel
theorem dDecreePool_isMajority_3 : decode cDecreePool_isMajority 3 = .ok (.iload_n 1, 1) := by decide +kernel
theorem dDecreePool_isMajority_4 : decode cDecreePool_isMajority 4 = .ok (.if_icmp .le 7, 3) := by decide +kernel
theorem dDecreePool_isMajority_7 : decode cDecreePool_isMajority 7 = .ok (.iconst 1, 1) := by decide +kernel
theorem dDecreePool_isMajority_8 : decode cDecreePool_isMajority 8 = .ok (.goto 4, 3) := by decide +kernel
theorem dDecreePool_isMajority_11 : decode cDecreePool_isMajority 11 = .ok (.iconst 0, 1) := by decide +kernel
theorem dDecreePool_isMajority_12 : decode cDecreePool_isMajority 12 = .ok (.ireturn, 1) := by decide +kernel
set_option maxRecDepth 100000 in
set_option maxHeartbeats 4000000 in
theorem c_isMajority (l : Launch) (D : va_G) (cI cZ : ClassId) (k : Nat) (n : Nat) (hk5 : k ≤ 5) (hn5 : n ≤ 5) : MI l D [(cI, .int), (cZ, .boolean)] yDecreePool_isMajority wsDecreePool_isMajority ({ frames := 0, cells := 0, slots := 0, locals := 0 }) [.int (nI k), .int (nI n)] ([] : va_W) (fun r w => (r = nI 1 ∧ (n < 2 * k) ∧ w = ([] : va_W)) ∨ (r = nI 0 ∧ (¬ n < 2 * k) ∧ w = ([] : va_W))) := by
  intro sz
  refine Met.ofW (cc := cDecreePool_isMajority) (maxL := 2) (ret := (Option.some .boolean)) (by decide) rfl ?_
  intro p e s m args below meth c s₁ B hml hv
  obtain ⟨rfl, hsz, hP, hK, hD0, hZ⟩ := hv
  have hx := B.exec
  have hb := B.bytes
  have hr := B.returns
  have hts := atoms_spec (ws := wsDecreePool_isMajority) B.pre
  have hown : s.vm.findClass RDecreePool = some m.cls := findClass_of_methodNamed B.named
  have hlocks := B.notSynchronized
  subst hsz
  have hD := hD0.self (sz := s.heap.size)
  generalize hAe : va_A ([] : va_W) s.heap.size = A at hD ⊢
  have hA : ∀ q : Nat, s.heap.size ≤ q → A q := fun q h => by rw [← hAe]; exact Or.inr h
  have hS : va_S A s.heap s.heap [] := va_S.rf
  have hP : va_P D vwCl ([] : va_W) s.heap := hP
  have hl := lv_entry ([.int (nI k), .int (nI n)]) (n := 2) (Nat.le_of_ble_eq_true rfl)
  rw [lg_entry_eq]
  generalize (lg_sl ([.int (nI k), .int (nI n)]) ++ List.replicate (2 - (lg_sl ([.int (nI k), .int (nI n)])).length) Slot.unset).toArray = ls at hl ⊢
  have hl : lv_has ls 2 [(0, .int (nI k)), (1, .int (nI n))] := hl
  refine lv_iconst (v := nI 2) hx hb dDecreePool_isMajority_0 (by decide) ?_
  refine lv_iload_n hx hb dDecreePool_isMajority_1 rfl (lv_at hl 0 rfl) ?_
  refine lv_imul hx hb dDecreePool_isMajority_2 ?_
  refine lv_topi (nm_r (pk_mul _ _) ?_)
  refine lv_iload_n hx hb dDecreePool_isMajority_3 rfl (lv_at hl 1 rfl) ?_
  refine lv_icmp_le (tgt := 11) hx hb dDecreePool_isMajority_4 (by decide) (fun c4 => ?_) (fun c4 => ?_)
  · refine lv_iconst (v := nI 0) hx hb dDecreePool_isMajority_11 (by decide) ?_
    exact W.zret (v := nI 0) (ty := .boolean) hx hb hr (by decide) (fun t9 ht9 hW9 => ⟨⟨nI 0, ([] : va_W), rfl, Or.inr ⟨rfl, fun h => absurd c4 (nI_ge h (by omega)), rfl⟩, by rw [ht9]; exact hP, va_K.moved hW9.alike hK, hD⟩, hS.F ht9⟩) hS.2.2 dDecreePool_isMajority_12
  · refine lv_iconst (v := nI 1) hx hb dDecreePool_isMajority_7 (by decide) ?_
    refine lv_goto (tgt := 12) hx hb dDecreePool_isMajority_8 (by decide) ?_
    exact W.zret (v := nI 1) (ty := .boolean) hx hb hr (by decide) (fun t9 ht9 hW9 => ⟨⟨nI 1, ([] : va_W), rfl, Or.inl ⟨rfl, Nat.lt_of_not_le (fun q => c4 (nI_le q (by omega))), rfl⟩, by rw [ht9]; exact hP, va_K.moved hW9.alike hK, hD⟩, hS.F ht9⟩) hS.2.2 dDecreePool_isMajority_12
theorem dPool_places_0 : decode cPool_places 0 = .ok (.aload_n 0, 1) := by decide +kernel
theorem dPool_places_1 : decode cPool_places 1 = .ok (.getfield 9, 3) := by decide +kernel
theorem dPool_places_4 : decode cPool_places 4 = .ok (.ireturn, 1) := by decide +kernel
set_option maxRecDepth 100000 in
set_option maxHeartbeats 4000000 in
theorem c_places (l : Launch) (D : va_G) (cI cZ : ClassId) (q : Nat → Nat) (P : Nat) (g : Nat → Nat → Int32) (cn : Nat) : MI l D [(cI, .int), (cZ, .boolean)] yPool_places wsPool_places ({ frames := 0, cells := 0, slots := 0, locals := 0 }) [.ref (q 1)] (wPo q cI P g cn) (fun r w => r = nI P ∧ w = (wPo q cI P g cn)) := by
  intro sz
  refine Met.ofW (cc := cPool_places) (maxL := 1) (ret := (Option.some .int)) (by decide) rfl ?_
  intro p e s m args below meth c s₁ B hml hv
  obtain ⟨rfl, hsz, hP, hK, hD0, hZ⟩ := hv
  have hx := B.exec
  have hb := B.bytes
  have hr := B.returns
  have hts := atoms_spec (ws := wsPool_places) B.pre
  have hown : s.vm.findClass RPool = some m.cls := findClass_of_methodNamed B.named
  have hlocks := B.notSynchronized
  subst hsz
  have hD := hD0.self (sz := s.heap.size)
  generalize hAe : va_A (wPo q cI P g cn) s.heap.size = A at hD ⊢
  have hA : ∀ q : Nat, s.heap.size ≤ q → A q := fun q h => by rw [← hAe]; exact Or.inr h
  have hS : va_S A s.heap s.heap [] := va_S.rf
  have hP : va_P D vwCl (wPo q cI P g cn) s.heap := hP
  have hl := lv_entry ([.ref (q 1)]) (n := 1) (Nat.le_of_ble_eq_true rfl)
  rw [lg_entry_eq]
  generalize (lg_sl ([.ref (q 1)]) ++ List.replicate (1 - (lg_sl ([.ref (q 1)])).length) Slot.unset).toArray = ls at hl ⊢
  have hl : lv_has ls 1 [(0, .ref (q 1))] := hl
  refine lv_aload_n hx hb dPool_places_0 rfl (lv_at hl 0 rfl) ?_
  refine va_get (D := D) (ci := 1) (v := .int (nI P)) (C := RPool) (T := TPool) (N := 3) hx hb hts (fun w h => mc (uPool_in w h)) hown hK hP 0 rfl rfl 0 (by decide) (hts _ (mc wd26)) (fun _ h9 => h9) rfl dPool_places_1 ?_
  exact W.iret (v := nI P) hx hb hr (fun t9 ht9 hW9 => ⟨⟨nI P, (wPo q cI P g cn), rfl, ⟨rfl, rfl⟩, by rw [ht9]; exact hP, va_K.moved hW9.alike hK, hD⟩, hS.F ht9⟩) hS.2.2 dPool_places_4
theorem dPool_messages_0 : decode cPool_messages 0 = .ok (.aload_n 0, 1) := by decide +kernel
theorem dPool_messages_1 : decode cPool_messages 1 = .ok (.getfield 19, 3) := by decide +kernel
theorem dPool_messages_4 : decode cPool_messages 4 = .ok (.ireturn, 1) := by decide +kernel
set_option maxRecDepth 100000 in
set_option maxHeartbeats 4000000 in
theorem c_messages (l : Launch) (D : va_G) (cI cZ : ClassId) (q : Nat → Nat) (P : Nat) (g : Nat → Nat → Int32) (cn : Nat) : MI l D [(cI, .int), (cZ, .boolean)] yPool_messages wsPool_messages ({ frames := 0, cells := 0, slots := 0, locals := 0 }) [.ref (q 1)] (wPo q cI P g cn) (fun r w => r = nI cn ∧ w = (wPo q cI P g cn)) := by
  intro sz
  refine Met.ofW (cc := cPool_messages) (maxL := 1) (ret := (Option.some .int)) (by decide) rfl ?_
  intro p e s m args below meth c s₁ B hml hv
  obtain ⟨rfl, hsz, hP, hK, hD0, hZ⟩ := hv
  have hx := B.exec
  have hb := B.bytes
  have hr := B.returns
  have hts := atoms_spec (ws := wsPool_messages) B.pre
  have hown : s.vm.findClass RPool = some m.cls := findClass_of_methodNamed B.named
  have hlocks := B.notSynchronized
  subst hsz
  have hD := hD0.self (sz := s.heap.size)
  generalize hAe : va_A (wPo q cI P g cn) s.heap.size = A at hD ⊢
  have hA : ∀ q : Nat, s.heap.size ≤ q → A q := fun q h => by rw [← hAe]; exact Or.inr h
  have hS : va_S A s.heap s.heap [] := va_S.rf
  have hP : va_P D vwCl (wPo q cI P g cn) s.heap := hP
  have hl := lv_entry ([.ref (q 1)]) (n := 1) (Nat.le_of_ble_eq_true rfl)
  rw [lg_entry_eq]
  generalize (lg_sl ([.ref (q 1)]) ++ List.replicate (1 - (lg_sl ([.ref (q 1)])).length) Slot.unset).toArray = ls at hl ⊢
  have hl : lv_has ls 1 [(0, .ref (q 1))] := hl
  refine lv_aload_n hx hb dPool_messages_0 rfl (lv_at hl 0 rfl) ?_
  refine va_get (D := D) (ci := 1) (v := .int (nI cn)) (C := RPool) (T := TPool) (N := 3) hx hb hts (fun w h => mc (uPool_in w h)) hown hK hP 0 rfl rfl 2 (by decide) (hts _ (mc wd28)) (fun _ h9 => h9) rfl dPool_messages_1 ?_
  exact W.iret (v := nI cn) hx hb hr (fun t9 ht9 hW9 => ⟨⟨nI cn, (wPo q cI P g cn), rfl, ⟨rfl, rfl⟩, by rw [ht9]; exact hP, va_K.moved hW9.alike hK, hD⟩, hS.F ht9⟩) hS.2.2 dPool_messages_4
theorem dPool_emptyPlaces_0 : decode cPool_emptyPlaces 0 = .ok (.aload_n 0, 1) := by decide +kernel
theorem dPool_emptyPlaces_1 : decode cPool_emptyPlaces 1 = .ok (.getfield 9, 3) := by decide +kernel
theorem dPool_emptyPlaces_4 : decode cPool_emptyPlaces 4 = .ok (.aload_n 0, 1) := by decide +kernel
theorem dPool_emptyPlaces_5 : decode cPool_emptyPlaces 5 = .ok (.getfield 19, 3) := by decide +kernel
theorem dPool_emptyPlaces_8 : decode cPool_emptyPlaces 8 = .ok (.isub, 1) := by decide +kernel
theorem dPool_emptyPlaces_9 : decode cPool_emptyPlaces 9 = .ok (.ireturn, 1) := by decide +kernel
set_option maxRecDepth 100000 in
set_option maxHeartbeats 4000000 in
theorem c_emptyPlaces (l : Launch) (D : va_G) (cI cZ : ClassId) (q : Nat → Nat) (P : Nat) (g : Nat → Nat → Int32) (cn : Nat) (hcP : cn ≤ P) : MI l D [(cI, .int), (cZ, .boolean)] yPool_emptyPlaces wsPool_emptyPlaces ({ frames := 0, cells := 0, slots := 0, locals := 0 }) [.ref (q 1)] (wPo q cI P g cn) (fun r w => r = nI (P - cn) ∧ w = (wPo q cI P g cn)) := by
  intro sz
  refine Met.ofW (cc := cPool_emptyPlaces) (maxL := 1) (ret := (Option.some .int)) (by decide) rfl ?_
  intro p e s m args below meth c s₁ B hml hv
  obtain ⟨rfl, hsz, hP, hK, hD0, hZ⟩ := hv
  have hx := B.exec
  have hb := B.bytes
  have hr := B.returns
  have hts := atoms_spec (ws := wsPool_emptyPlaces) B.pre
  have hown : s.vm.findClass RPool = some m.cls := findClass_of_methodNamed B.named
  have hlocks := B.notSynchronized
  subst hsz
  have hD := hD0.self (sz := s.heap.size)
  generalize hAe : va_A (wPo q cI P g cn) s.heap.size = A at hD ⊢
  have hA : ∀ q : Nat, s.heap.size ≤ q → A q := fun q h => by rw [← hAe]; exact Or.inr h
  have hS : va_S A s.heap s.heap [] := va_S.rf
  have hP : va_P D vwCl (wPo q cI P g cn) s.heap := hP
  have hl := lv_entry ([.ref (q 1)]) (n := 1) (Nat.le_of_ble_eq_true rfl)
  rw [lg_entry_eq]
  generalize (lg_sl ([.ref (q 1)]) ++ List.replicate (1 - (lg_sl ([.ref (q 1)])).length) Slot.unset).toArray = ls at hl ⊢
  have hl : lv_has ls 1 [(0, .ref (q 1))] := hl
  refine lv_aload_n hx hb dPool_emptyPlaces_0 rfl (lv_at hl 0 rfl) ?_
  refine va_get (D := D) (ci := 1) (v := .int (nI P)) (C := RPool) (T := TPool) (N := 3) hx hb hts (fun w h => mc (uPool_in w h)) hown hK hP 0 rfl rfl 0 (by decide) (hts _ (mc wd26)) (fun _ h9 => h9) rfl dPool_emptyPlaces_1 ?_
  refine lv_aload_n hx hb dPool_emptyPlaces_4 rfl (lv_at hl 0 rfl) ?_
  refine va_get (D := D) (ci := 1) (v := .int (nI cn)) (C := RPool) (T := TPool) (N := 3) hx hb hts (fun w h => mc (uPool_in w h)) hown hK hP 0 rfl rfl 2 (by decide) (hts _ (mc wd28)) (fun _ h9 => h9) rfl dPool_emptyPlaces_5 ?_
  refine lv_isub hx hb dPool_emptyPlaces_8 ?_
  refine lv_topi (nm_r (pk_sub (by omega)) ?_)
  exact W.iret (v := nI (P - cn)) hx hb hr (fun t9 ht9 hW9 => ⟨⟨nI (P - cn), (wPo q cI P g cn), rfl, ⟨rfl, rfl⟩, by rw [ht9]; exact hP, va_K.moved hW9.alike hK, hD⟩, hS.F ht9⟩) hS.2.2 dPool_emptyPlaces_9
theorem dPool_field_0 : decode cPool_field 0 = .ok (.aload_n 0, 1) := by decide +kernel
theorem dPool_field_1 : decode cPool_field 1 = .ok (.getfield 15, 3) := by decide +kernel
theorem dPool_field_4 : decode cPool_field 4 = .ok (.iload_n 1, 1) := by decide +kernel
theorem dPool_field_5 : decode cPool_field 5 = .ok (.bipush 7, 2) := by decide +kernel
theorem dPool_field_7 : decode cPool_field 7 = .ok (.imul, 1) := by decide +kernel
theorem dPool_field_8 : decode cPool_field 8 = .ok (.iload_n 2, 1) := by decide +kernel
theorem dPool_field_9 : decode cPool_field 9 = .ok (.iadd, 1) := by decide +kernel
theorem dPool_field_10 : decode cPool_field 10 = .ok (.iaload, 1) := by decide +kernel
theorem dPool_field_11 : decode cPool_field 11 = .ok (.ireturn, 1) := by decide +kernel
set_option maxRecDepth 100000 in
set_option maxHeartbeats 4000000 in
theorem c_field (l : Launch) (D : va_G) (cI cZ : ClassId) (q : Nat → Nat) (P : Nat) (g : Nat → Nat → Int32) (cn : Nat) (j : Nat) (k : Nat) (hP64 : P ≤ 64) (hj : j < P) (hk7 : k < 7) : MI l D [(cI, .int), (cZ, .boolean)] yPool_field wsPool_field ({ frames := 0, cells := 0, slots := 0, locals := 0 }) [.ref (q 1), .int (nI j), .int (nI k)] (wPo q cI P g cn) (fun r w => r = g j k ∧ w = (wPo q cI P g cn)) := by
  intro sz
  refine Met.ofW (cc := cPool_field) (maxL := 3) (ret := (Option.some .int)) (by decide) rfl ?_
  intro p e s m args below meth c s₁ B hml hv
  obtain ⟨rfl, hsz, hP, hK, hD0, hZ⟩ := hv
  have hx := B.exec
  have hb := B.bytes
  have hr := B.returns
  have hts := atoms_spec (ws := wsPool_field) B.pre
  have hown : s.vm.findClass RPool = some m.cls := findClass_of_methodNamed B.named
  have hlocks := B.notSynchronized
  subst hsz
  have hD := hD0.self (sz := s.heap.size)
  generalize hAe : va_A (wPo q cI P g cn) s.heap.size = A at hD ⊢
  have hA : ∀ q : Nat, s.heap.size ≤ q → A q := fun q h => by rw [← hAe]; exact Or.inr h
  have hS : va_S A s.heap s.heap [] := va_S.rf
  have hP : va_P D vwCl (wPo q cI P g cn) s.heap := hP
  have hl := lv_entry ([.ref (q 1), .int (nI j), .int (nI k)]) (n := 3) (Nat.le_of_ble_eq_true rfl)
  rw [lg_entry_eq]
  generalize (lg_sl ([.ref (q 1), .int (nI j), .int (nI k)]) ++ List.replicate (3 - (lg_sl ([.ref (q 1), .int (nI j), .int (nI k)])).length) Slot.unset).toArray = ls at hl ⊢
  have hl : lv_has ls 3 [(0, .ref (q 1)), (1, .int (nI j)), (2, .int (nI k))] := hl
  refine lv_aload_n hx hb dPool_field_0 rfl (lv_at hl 0 rfl) ?_
  refine va_get (D := D) (ci := 1) (v := .ref (q 2)) (C := RPool) (T := TPool) (N := 3) hx hb hts (fun w h => mc (uPool_in w h)) hown hK hP 0 rfl rfl 1 (by decide) (hts _ (mc wd27)) (fun _ h9 => h9) rfl dPool_field_1 ?_
  refine lv_iload_n hx hb dPool_field_4 rfl (lv_at hl 1 rfl) ?_
  refine lv_bipush (v := nI 7) hx hb dPool_field_5 (by decide) ?_
  refine lv_imul hx hb dPool_field_7 ?_
  refine lv_topi (nm_r (pk_mul _ _) ?_)
  refine lv_iload_n hx hb dPool_field_8 rfl (lv_at hl 2 rfl) ?_
  refine lv_iadd hx hb dPool_field_9 ?_
  refine lv_topi (nm_r (nI_add _ _) ?_)
  refine ka_ld (v := g j k) hx hb hK hP 1 0 rfl rfl (by omega) (by omega) (sq_at (by omega)) dPool_field_10 ?_
  exact W.iret (v := g j k) hx hb hr (fun t9 ht9 hW9 => ⟨⟨g j k, (wPo q cI P g cn), rfl, ⟨rfl, rfl⟩, by rw [ht9]; exact hP, va_K.moved hW9.alike hK, hD⟩, hS.F ht9⟩) hS.2.2 dPool_field_11
theorem dPool_takeOut_0 : decode cPool_takeOut 0 = .ok (.aload_n 0, 1) := by decide +kernel
theorem dPool_takeOut_1 : decode cPool_takeOut 1 = .ok (.getfield 15, 3) := by decide +kernel
theorem dPool_takeOut_4 : decode cPool_takeOut 4 = .ok (.iload_n 1, 1) := by decide +kernel
theorem dPool_takeOut_5 : decode cPool_takeOut 5 = .ok (.bipush 7, 2) := by decide +kernel
theorem dPool_takeOut_7 : decode cPool_takeOut 7 = .ok (.imul, 1) := by decide +kernel
theorem dPool_takeOut_8 : decode cPool_takeOut 8 = .ok (.iconst 0, 1) := by decide +kernel
theorem dPool_takeOut_9 : decode cPool_takeOut 9 = .ok (.iadd, 1) := by decide +kernel
theorem dPool_takeOut_10 : decode cPool_takeOut 10 = .ok (.iconst 0, 1) := by decide +kernel
theorem dPool_takeOut_11 : decode cPool_takeOut 11 = .ok (.iastore, 1) := by decide +kernel
theorem dPool_takeOut_12 : decode cPool_takeOut 12 = .ok (.aload_n 0, 1) := by decide +kernel
theorem dPool_takeOut_13 : decode cPool_takeOut 13 = .ok (.dup, 1) := by decide +kernel
theorem dPool_takeOut_14 : decode cPool_takeOut 14 = .ok (.getfield 19, 3) := by decide +kernel
theorem dPool_takeOut_17 : decode cPool_takeOut 17 = .ok (.iconst 1, 1) := by decide +kernel
theorem dPool_takeOut_18 : decode cPool_takeOut 18 = .ok (.isub, 1) := by decide +kernel
theorem dPool_takeOut_19 : decode cPool_takeOut 19 = .ok (.putfield 19, 3) := by decide +kernel
theorem dPool_takeOut_22 : decode cPool_takeOut 22 = .ok (.return_, 1) := by decide +kernel
set_option maxRecDepth 100000 in
set_option maxHeartbeats 4000000 in
theorem c_takeOut (l : Launch) (D : va_G) (cI cZ : ClassId) (q : Nat → Nat) (P : Nat) (g : Nat → Nat → Int32) (cn : Nat) (j : Nat) (hP64 : P ≤ 64) (hj : j < P) (hc1 : 1 ≤ cn) : MV l D [(cI, .int), (cZ, .boolean)] yPool_takeOut wsPool_takeOut ({ frames := 0, cells := 0, slots := 0, locals := 0 }) [.ref (q 1), .int (nI j)] (wPo q cI P g cn) (fun w => w = (wPo q cI P (up2 g j 0 (nI 0)) (cn - 1))) := by
  intro sz
  refine Met.ofW (cc := cPool_takeOut) (maxL := 2) (ret := (Option.none : Option ClassFile.FieldType)) (by decide) rfl ?_
  intro p e s m args below meth c s₁ B hml hv
  obtain ⟨rfl, hsz, hP, hK, hD0, hZ⟩ := hv
  have hx := B.exec
  have hb := B.bytes
  have hr := B.returns
  have hts := atoms_spec (ws := wsPool_takeOut) B.pre
  have hown : s.vm.findClass RPool = some m.cls := findClass_of_methodNamed B.named
  have hlocks := B.notSynchronized
  subst hsz
  have hD := hD0.self (sz := s.heap.size)
  generalize hAe : va_A (wPo q cI P g cn) s.heap.size = A at hD ⊢
  have hA : ∀ q : Nat, s.heap.size ≤ q → A q := fun q h => by rw [← hAe]; exact Or.inr h
  have hS : va_S A s.heap s.heap [] := va_S.rf
  have hP : va_P D vwCl (wPo q cI P g cn) s.heap := hP
  have hl := lv_entry ([.ref (q 1), .int (nI j)]) (n := 2) (Nat.le_of_ble_eq_true rfl)
  rw [lg_entry_eq]
  generalize (lg_sl ([.ref (q 1), .int (nI j)]) ++ List.replicate (2 - (lg_sl ([.ref (q 1), .int (nI j)])).length) Slot.unset).toArray = ls at hl ⊢
  have hl : lv_has ls 2 [(0, .ref (q 1)), (1, .int (nI j))] := hl
  refine lv_aload_n hx hb dPool_takeOut_0 rfl (lv_at hl 0 rfl) ?_
  refine va_get (D := D) (ci := 1) (v := .ref (q 2)) (C := RPool) (T := TPool) (N := 3) hx hb hts (fun w h => mc (uPool_in w h)) hown hK hP 0 rfl rfl 1 (by decide) (hts _ (mc wd27)) (fun _ h9 => h9) rfl dPool_takeOut_1 ?_
  refine lv_iload_n hx hb dPool_takeOut_4 rfl (lv_at hl 1 rfl) ?_
  refine lv_bipush (v := nI 7) hx hb dPool_takeOut_5 (by decide) ?_
  refine lv_imul hx hb dPool_takeOut_7 ?_
  refine lv_topi (nm_r (pk_mul _ _) ?_)
  refine lv_iconst (v := nI 0) hx hb dPool_takeOut_8 (by decide) ?_
  refine lv_iadd hx hb dPool_takeOut_9 ?_
  refine lv_topi (nm_r (nI_add _ _) ?_)
  refine lv_iconst (v := nI 0) hx hb dPool_takeOut_10 (by decide) ?_
  refine ka_st (f' := sq 7 (up2 g j 0 (nI 0))) hx hb hK hP hD hS 1 0 rfl rfl (by omega) (by omega) (sq_up (by omega)) dPool_takeOut_11 (fun H locs hP hD hS => ?_)
  have hP : va_P D vwCl (wPo q cI P (up2 g j 0 (nI 0)) cn) H := hP
  have hD : va_D A (wPo q cI P (up2 g j 0 (nI 0)) cn) := hD
  refine lv_aload_n hx hb dPool_takeOut_12 rfl (lv_at hl 0 rfl) ?_
  refine lv_dup hx hb dPool_takeOut_13 rfl ?_
  refine va_get (D := D) (ci := 1) (v := .int (nI cn)) (C := RPool) (T := TPool) (N := 3) hx hb hts (fun w h => mc (uPool_in w h)) hown hK hP 0 rfl rfl 2 (by decide) (hts _ (mc wd28)) (fun _ h9 => h9) rfl dPool_takeOut_14 ?_
  refine lv_iconst (v := nI 1) hx hb dPool_takeOut_17 (by decide) ?_
  refine lv_isub hx hb dPool_takeOut_18 ?_
  refine lv_topi (nm_r (pk_sub (by omega)) ?_)
  refine va_put (D := D) (ci := 1) (v := .int (nI (cn - 1))) (ty := .int) (C := RPool) (T := TPool) (N := 3) hx hb hts (fun w h => mc (uPool_in w h)) tyPool tyPool_ok nmPool hown hK hP hD hS 0 rfl rfl 2 (by decide) (hts _ (mc wd28)) (fun _ h9 => h9) rfl (by decide +kernel) rfl rfl (Nat.le_of_ble_eq_true rfl) dPool_takeOut_19 (fun H locs hP hD hS => ?_)
  have hP : va_P D vwCl (wPo q cI P (up2 g j 0 (nI 0)) (cn - 1)) H := hP
  have hD : va_D A (wPo q cI P (up2 g j 0 (nI 0)) (cn - 1)) := hD
  exact W.vret hx hb hr (fun t9 ht9 hW9 => ⟨⟨(wPo q cI P (up2 g j 0 (nI 0)) (cn - 1)), rfl, rfl, by rw [ht9]; exact hP, va_K.moved hW9.alike hK, hD⟩, hS.F ht9⟩) hS.2.2 dPool_takeOut_22
theorem dPool_holds_0 : decode cPool_holds 0 = .ok (.iload_n 1, 1) := by decide +kernel
theorem dPool_holds_1 : decode cPool_holds 1 = .ok (.iconst 0, 1) := by decide +kernel
theorem dPool_holds_2 : decode cPool_holds 2 = .ok (.aload_n 0, 1) := by decide +kernel
theorem dPool_holds_3 : decode cPool_holds 3 = .ok (.getfield 9, 3) := by decide +kernel
theorem dPool_holds_6 : decode cPool_holds 6 = .ok (.iconst 1, 1) := by decide +kernel
theorem dPool_holds_7 : decode cPool_holds 7 = .ok (.isub, 1) := by decide +kernel
theorem dPool_holds_8 : decode cPool_holds 8 = .ok (.invokestatic 22, 3) := by decide +kernel
theorem dPool_holds_11 : decode cPool_holds 11 = .ok (.ifCond .eq 16, 3) := by decide +kernel
theorem dPool_holds_14 : decode cPool_holds 14 = .ok (.aload_n 0, 1) := by decide +kernel
theorem dPool_holds_15 : decode cPool_holds 15 = .ok (.iload_n 1, 1) := by decide +kernel
theorem dPool_holds_16 : decode cPool_holds 16 = .ok (.iconst 0, 1) := by decide +kernel
theorem dPool_holds_17 : decode cPool_holds 17 = .ok (.invokevirtual 26, 3) := by decide +kernel
theorem dPool_holds_20 : decode cPool_holds 20 = .ok (.ifCond .eq 7, 3) := by decide +kernel
theorem dPool_holds_23 : decode cPool_holds 23 = .ok (.iconst 1, 1) := by decide +kernel
theorem dPool_holds_24 : decode cPool_holds 24 = .ok (.goto 4, 3) := by decide +kernel
theorem dPool_holds_27 : decode cPool_holds 27 = .ok (.iconst 0, 1) := by decide +kernel
theorem dPool_holds_28 : decode cPool_holds 28 = .ok (.ireturn, 1) := by decide +kernel
set_option maxRecDepth 100000 in
set_option maxHeartbeats 4000000 in
theorem c_holds (l : Launch) (D : va_G) (cI cZ : ClassId) (q : Nat → Nat) (P : Nat) (g : Nat → Nat → Int32) (cn : Nat) (v : Int32) (hP64 : P ≤ 64) (hP1 : 1 ≤ P) : MI l D [(cI, .int), (cZ, .boolean)] yPool_holds wsPool_holds ({ frames := 1, cells := 0, slots := 0, locals := 22 }) [.ref (q 1), .int v] (wPo q cI P g cn) (fun r w => (r = nI 1 ∧ (okN v P ∧ g (ix v) 0 ≠ 0) ∧ w = (wPo q cI P g cn)) ∨ (r = nI 0 ∧ (¬ (okN v P ∧ g (ix v) 0 ≠ 0)) ∧ w = (wPo q cI P g cn))) := by
  intro sz
  refine Met.ofW (cc := cPool_holds) (maxL := 2) (ret := (Option.some .boolean)) (by decide) rfl ?_
  intro p e s m args below meth c s₁ B hml hv
  obtain ⟨rfl, hsz, hP, hK, hD0, hZ⟩ := hv
  have hx := B.exec
  have hb := B.bytes
  have hr := B.returns
  have hts := atoms_spec (ws := wsPool_holds) B.pre
  have hown : s.vm.findClass RPool = some m.cls := findClass_of_methodNamed B.named
  have hlocks := B.notSynchronized
  subst hsz
  have hD := hD0.self (sz := s.heap.size)
  generalize hAe : va_A (wPo q cI P g cn) s.heap.size = A at hD ⊢
  have hA : ∀ q : Nat, s.heap.size ≤ q → A q := fun q h => by rw [← hAe]; exact Or.inr h
  have hS : va_S A s.heap s.heap [] := va_S.rf
  have hP : va_P D vwCl (wPo q cI P g cn) s.heap := hP
  have hl := lv_entry ([.ref (q 1), .int v]) (n := 2) (Nat.le_of_ble_eq_true rfl)
  rw [lg_entry_eq]
  generalize (lg_sl ([.ref (q 1), .int v]) ++ List.replicate (2 - (lg_sl ([.ref (q 1), .int v])).length) Slot.unset).toArray = ls at hl ⊢
  have hl : lv_has ls 2 [(0, .ref (q 1)), (1, .int v)] := hl
  refine lv_iload_n hx hb dPool_holds_0 rfl (lv_at hl 1 rfl) ?_
  refine lv_iconst (v := nI 0) hx hb dPool_holds_1 (by decide) ?_
  refine lv_aload_n hx hb dPool_holds_2 rfl (lv_at hl 0 rfl) ?_
  refine va_get (D := D) (ci := 1) (v := .int (nI P)) (C := RPool) (T := TPool) (N := 3) hx hb hts (fun w h => mc (uPool_in w h)) hown hK hP 0 rfl rfl 0 (by decide) (hts _ (mc wd26)) (fun _ h9 => h9) rfl dPool_holds_3 ?_
  refine lv_iconst (v := nI 1) hx hb dPool_holds_6 (by decide) ?_
  refine lv_isub hx hb dPool_holds_7 ?_
  refine lv_topi (nm_r (pk_sub (by omega)) ?_)
  have hPc := hP.sub (ws' := ([] : va_W)) [] rfl
  have hDc := hD.sub (ws' := ([] : va_W)) [] (by decide) rfl
  refine kx_i (va_runSN (As := [.int v, .int (nI 0), .int (nI (P - 1))]) (rest := []) ⟨hx, hb, hml, hown, hts⟩ ((c_isWithin l D cI cZ v (nI 0) (nI (P - 1))) s.heap.size) ⟨va_cnB 3 hts (gC wd19) rfl rfl rfl (hZ.n1) (hts _ (mc wd1)) (by decide +kernel) ⟨Nat.le_of_ble_eq_true rfl, Nat.le_of_ble_eq_true rfl⟩, hts _ (mc wd18), trivial⟩ ⟨fb_PW, pre_PW hK hPc hDc hZ⟩ rfl rfl hl.1 rfl (lv_room (Nat.le_of_ble_eq_true rfl)) dPool_holds_8 ⟨Nat.zero_le _, Nat.zero_le _⟩) hP hD hS hA [] [0, 1] rfl rfl (by decide) (by decide) (fun r w1 H locs hw hP hD hS => ?_)
  rcases hw with ⟨rfl, h8, rfl⟩ | ⟨rfl, h8, rfl⟩
  · have hP : va_P D vwCl (wPo q cI P g cn) H := hP
    have hD : va_D A (wPo q cI P g cn) := hD
    obtain ⟨j, hj, rfl⟩ := wi_of hP1 (by omega) h8
    refine lv_if_eq (tgt := 27) hx hb dPool_holds_11 (by decide) (fun h9 => absurd h9 (by decide)) (fun _ => ?_)
    refine lv_aload_n hx hb dPool_holds_14 rfl (lv_at hl 0 rfl) ?_
    refine lv_iload_n hx hb dPool_holds_15 rfl (lv_at hl 1 rfl) ?_
    refine lv_iconst (v := nI 0) hx hb dPool_holds_16 (by decide) ?_
    have hPc := hP.sub (ws' := (wPo q cI P g cn)) [0, 1] rfl
    have hDc := hD.sub (ws' := (wPo q cI P g cn)) [0, 1] (by decide) rfl
    refine kx_i (va_runV (As := [.int (nI j), .int (nI 0)]) (rest := []) ⟨hx, hb, hml, hown, hts⟩ ((c_field l D cI cZ q P g cn j 0 (hP64) (by omega) (by omega)) H.size) (cwV 2 hts (gV wd181 wd182 wd183 wd2 wd184) rfl rfl rfl (by decide +kernel) ⟨Nat.le_of_ble_eq_true rfl, Nat.le_of_ble_eq_true rfl⟩) ⟨fb_PW, va_recv (q0 := 0) (ci := 1) hK hPc rfl rfl, pre_PW hK hPc hDc hZ⟩ rfl rfl hl.1 rfl (lv_room (Nat.le_of_ble_eq_true rfl)) dPool_holds_17 ⟨Nat.zero_le _, Nat.zero_le _⟩) hP hD hS hA [0, 1] [] rfl rfl (by decide) (by decide) (fun r w1 H locs hw hP hD hS => ?_)
    obtain ⟨rfl, rfl⟩ := hw
    have hP : va_P D vwCl (wPo q cI P g cn) H := hP
    have hD : va_D A (wPo q cI P g cn) := hD
    refine lv_if_eq (tgt := 27) hx hb dPool_holds_20 (by decide) (fun c20 => ?_) (fun c20 => ?_)
    · refine lv_iconst (v := nI 0) hx hb dPool_holds_27 (by decide) ?_
      exact W.zret (v := nI 0) (ty := .boolean) hx hb hr (by decide) (fun t9 ht9 hW9 => ⟨⟨nI 0, (wPo q cI P g cn), rfl, Or.inr ⟨rfl, fun h => h.2 (by rw [ix_nI hj (by omega)]; exact c20), rfl⟩, by rw [ht9]; exact hP, va_K.moved hW9.alike hK, hD⟩, hS.F ht9⟩) hS.2.2 dPool_holds_28
    · refine lv_iconst (v := nI 1) hx hb dPool_holds_23 (by decide) ?_
      refine lv_goto (tgt := 28) hx hb dPool_holds_24 (by decide) ?_
      exact W.zret (v := nI 1) (ty := .boolean) hx hb hr (by decide) (fun t9 ht9 hW9 => ⟨⟨nI 1, (wPo q cI P g cn), rfl, Or.inl ⟨rfl, ⟨okN_nI hj (by omega), by rw [ix_nI hj (by omega)]; exact c20⟩, rfl⟩, by rw [ht9]; exact hP, va_K.moved hW9.alike hK, hD⟩, hS.F ht9⟩) hS.2.2 dPool_holds_28
  · have hP : va_P D vwCl (wPo q cI P g cn) H := hP
    have hD : va_D A (wPo q cI P g cn) := hD
    refine lv_if_eq (tgt := 27) hx hb dPool_holds_11 (by decide) (fun _ => ?_) (fun h9 => absurd (by decide) h9)
    refine lv_iconst (v := nI 0) hx hb dPool_holds_27 (by decide) ?_
    exact W.zret (v := nI 0) (ty := .boolean) hx hb hr (by decide) (fun t9 ht9 hW9 => ⟨⟨nI 0, (wPo q cI P g cn), rfl, Or.inr ⟨rfl, fun h => wi_no (by omega) h8 h.1, rfl⟩, by rw [ht9]; exact hP, va_K.moved hW9.alike hK, hD⟩, hS.F ht9⟩) hS.2.2 dPool_holds_28
theorem dPool_leastEmpty_0 : decode cPool_leastEmpty 0 = .ok (.iconst 0, 1) := by decide +kernel
theorem dPool_leastEmpty_1 : decode cPool_leastEmpty 1 = .ok (.istore_n 1, 1) := by decide +kernel
theorem dPool_leastEmpty_2 : decode cPool_leastEmpty 2 = .ok (.iload_n 1, 1) := by decide +kernel
theorem dPool_leastEmpty_3 : decode cPool_leastEmpty 3 = .ok (.aload_n 0, 1) := by decide +kernel
theorem dPool_leastEmpty_4 : decode cPool_leastEmpty 4 = .ok (.getfield 9, 3) := by decide +kernel
theorem dPool_leastEmpty_7 : decode cPool_leastEmpty 7 = .ok (.if_icmp .ge 20, 3) := by decide +kernel
theorem dPool_leastEmpty_10 : decode cPool_leastEmpty 10 = .ok (.aload_n 0, 1) := by decide +kernel
theorem dPool_leastEmpty_11 : decode cPool_leastEmpty 11 = .ok (.iload_n 1, 1) := by decide +kernel
theorem dPool_leastEmpty_12 : decode cPool_leastEmpty 12 = .ok (.iconst 0, 1) := by decide +kernel
theorem dPool_leastEmpty_13 : decode cPool_leastEmpty 13 = .ok (.invokevirtual 26, 3) := by decide +kernel
theorem dPool_leastEmpty_16 : decode cPool_leastEmpty 16 = .ok (.ifCond .ne 5, 3) := by decide +kernel
theorem dPool_leastEmpty_19 : decode cPool_leastEmpty 19 = .ok (.iload_n 1, 1) := by decide +kernel
theorem dPool_leastEmpty_20 : decode cPool_leastEmpty 20 = .ok (.ireturn, 1) := by decide +kernel
theorem dPool_leastEmpty_21 : decode cPool_leastEmpty 21 = .ok (.iinc 1  1, 3) := by decide +kernel
theorem dPool_leastEmpty_24 : decode cPool_leastEmpty 24 = .ok (.goto (-22), 3) := by decide +kernel
theorem dPool_leastEmpty_27 : decode cPool_leastEmpty 27 = .ok (.iconst (-1), 1) := by decide +kernel
theorem dPool_leastEmpty_28 : decode cPool_leastEmpty 28 = .ok (.ireturn, 1) := by decide +kernel
set_option maxRecDepth 100000 in
set_option maxHeartbeats 4000000 in
theorem c_leastEmpty (l : Launch) (D : va_G) (cI cZ : ClassId) (q : Nat → Nat) (P : Nat) (g : Nat → Nat → Int32) (cn : Nat) (hP64 : P ≤ 64) : MI l D [(cI, .int), (cZ, .boolean)] yPool_leastEmpty wsPool_leastEmpty ({ frames := 1, cells := 0, slots := 0, locals := 22 }) [.ref (q 1)] (wPo q cI P g cn) (fun r w => (r = nI (lst (col g 0) P 0) ∧ (lst (col g 0) P 0 < P) ∧ w = (wPo q cI P g cn)) ∨ (r = -1 ∧ (lst (col g 0) P 0 = P) ∧ w = (wPo q cI P g cn))) := by
  intro sz
  refine Met.ofW (cc := cPool_leastEmpty) (maxL := 2) (ret := (Option.some .int)) (by decide) rfl ?_
  intro p e s m args below meth c s₁ B hml hv
  obtain ⟨rfl, hsz, hP, hK, hD0, hZ⟩ := hv
  have hx := B.exec
  have hb := B.bytes
  have hr := B.returns
  have hts := atoms_spec (ws := wsPool_leastEmpty) B.pre
  have hown : s.vm.findClass RPool = some m.cls := findClass_of_methodNamed B.named
  have hlocks := B.notSynchronized
  subst hsz
  have hD := hD0.self (sz := s.heap.size)
  generalize hAe : va_A (wPo q cI P g cn) s.heap.size = A at hD ⊢
  have hA : ∀ q : Nat, s.heap.size ≤ q → A q := fun q h => by rw [← hAe]; exact Or.inr h
  have hS : va_S A s.heap s.heap [] := va_S.rf
  have hP : va_P D vwCl (wPo q cI P g cn) s.heap := hP
  have hl := lv_entry ([.ref (q 1)]) (n := 2) (Nat.le_of_ble_eq_true rfl)
  rw [lg_entry_eq]
  generalize (lg_sl ([.ref (q 1)]) ++ List.replicate (2 - (lg_sl ([.ref (q 1)])).length) Slot.unset).toArray = ls at hl ⊢
  have hl : lv_has ls 2 [(0, .ref (q 1))] := hl
  refine lv_iconst (v := nI 0) hx hb dPool_leastEmpty_0 (by decide) ?_
  refine lv_istore_n hx hb dPool_leastEmpty_1 rfl hl (by decide) rfl (fun ls hl => ?_)
  have hl : lv_has ls 2 [(1, .int (nI 0)), (0, .ref (q 1))] := hl
  have loop2 : ∀ (d2 i : Nat) (ls : Array Slot) (H : Heap) (locs : List Loc), i + d2 = P → lst (col g 0) d2 i = lst (col g 0) P 0 → lv_has ls 2 [(1, .int (nI i)), (0, .ref (q 1))] → va_P D vwCl (wPo q cI P g cn) H → va_D A (wPo q cI P g cn) → va_S A s.heap H locs → W p l e (headSpec wsPool_leastEmpty { frames := 1, cells := 0, slots := 0, locals := 22 }).room s m [.ref (q 1)].toArray below meth c H locs 0 0 (MQ below (va_Qi (fun r w => (r = nI (lst (col g 0) P 0) ∧ (lst (col g 0) P 0 < P) ∧ w = (wPo q cI P g cn)) ∨ (r = -1 ∧ (lst (col g 0) P 0 = P) ∧ w = (wPo q cI P g cn))) (QW D [(cI, .int), (cZ, .boolean)] A) A) [.ref (q 1)].toArray s 0 0 A) (F0 m 2 ls []) := by
    intro d2
    induction d2 with
    | zero =>
      intro i ls H locs hid2 hL hl hP hD hS
      refine lv_iload_n hx hb dPool_leastEmpty_2 rfl (lv_at hl 0 rfl) ?_
      refine lv_aload_n hx hb dPool_leastEmpty_3 rfl (lv_at hl 1 rfl) ?_
      refine va_get (D := D) (ci := 1) (v := .int (nI P)) (C := RPool) (T := TPool) (N := 3) hx hb hts (fun w h => mc (uPool_in w h)) hown hK hP 0 rfl rfl 0 (by decide) (hts _ (mc wd26)) (fun _ h9 => h9) rfl dPool_leastEmpty_4 ?_
      refine lv_icmp_ge (tgt := 27) hx hb dPool_leastEmpty_7 (by decide) (fun _ => ?_) (fun h9 => absurd (nI_le (by omega) (by omega)) h9)
      refine lv_iconst (v := (-1)) hx hb dPool_leastEmpty_27 (by decide) ?_
      exact W.iret (v := (-1)) hx hb hr (fun t9 ht9 hW9 => ⟨⟨(-1), (wPo q cI P g cn), rfl, Or.inr ⟨rfl, (by rw [← hL]; unfold lst; omega), rfl⟩, by rw [ht9]; exact hP, va_K.moved hW9.alike hK, hD⟩, hS.F ht9⟩) hS.2.2 dPool_leastEmpty_28
    | succ d2 ih2 =>
      intro i ls H locs hid2 hL hl hP hD hS
      refine lv_iload_n hx hb dPool_leastEmpty_2 rfl (lv_at hl 0 rfl) ?_
      refine lv_aload_n hx hb dPool_leastEmpty_3 rfl (lv_at hl 1 rfl) ?_
      refine va_get (D := D) (ci := 1) (v := .int (nI P)) (C := RPool) (T := TPool) (N := 3) hx hb hts (fun w h => mc (uPool_in w h)) hown hK hP 0 rfl rfl 0 (by decide) (hts _ (mc wd26)) (fun _ h9 => h9) rfl dPool_leastEmpty_4 ?_
      refine lv_icmp_ge (tgt := 27) hx hb dPool_leastEmpty_7 (by decide) (fun h9 => absurd h9 (nI_ge (by omega) (by omega))) (fun _ => ?_)
      refine lv_aload_n hx hb dPool_leastEmpty_10 rfl (lv_at hl 1 rfl) ?_
      refine lv_iload_n hx hb dPool_leastEmpty_11 rfl (lv_at hl 0 rfl) ?_
      refine lv_iconst (v := nI 0) hx hb dPool_leastEmpty_12 (by decide) ?_
      have hPc := hP.sub (ws' := (wPo q cI P g cn)) [0, 1] rfl
      have hDc := hD.sub (ws' := (wPo q cI P g cn)) [0, 1] (by decide) rfl
      refine kx_i (va_runV (As := [.int (nI i), .int (nI 0)]) (rest := []) ⟨hx, hb, hml, hown, hts⟩ ((c_field l D cI cZ q P g cn i 0 (hP64) (by omega) (by omega)) H.size) (cwV 2 hts (gV wd181 wd182 wd183 wd2 wd184) rfl rfl rfl (by decide +kernel) ⟨Nat.le_of_ble_eq_true rfl, Nat.le_of_ble_eq_true rfl⟩) ⟨fb_PW, va_recv (q0 := 0) (ci := 1) hK hPc rfl rfl, pre_PW hK hPc hDc hZ⟩ rfl rfl hl.1 rfl (lv_room (Nat.le_of_ble_eq_true rfl)) dPool_leastEmpty_13 ⟨Nat.zero_le _, Nat.zero_le _⟩) hP hD hS hA [0, 1] [] rfl rfl (by decide) (by decide) (fun r w1 H locs hw hP hD hS => ?_)
      obtain ⟨rfl, rfl⟩ := hw
      have hP : va_P D vwCl (wPo q cI P g cn) H := hP
      have hD : va_D A (wPo q cI P g cn) := hD
      refine lv_if_ne (tgt := 21) hx hb dPool_leastEmpty_16 (by decide) (fun c16 => ?_) (fun c16 => ?_)
      · refine lv_iinc (k := 0) (v := nI (i + 1)) hx hb dPool_leastEmpty_21 hl rfl ((nI_succ _).symm) (by decide) rfl (fun ls hl => ?_)
        have hl : lv_has ls 2 [(1, .int (nI (i + 1))), (0, .ref (q 1))] := hl
        refine lv_goto (tgt := 2) hx hb dPool_leastEmpty_24 (by decide) ?_
        exact ih2 (i + 1) ls H locs (by omega) (by rw [← hL]; exact (lst_n (f := col g 0) c16).symm) hl hP hD hS
      · refine lv_iload_n hx hb dPool_leastEmpty_19 rfl (lv_at hl 0 rfl) ?_
        have hLi : i = lst (col g 0) P 0 := by rw [← hL]; exact (lst_s (f := col g 0) c16).symm
        rw [hLi]
        exact W.iret (v := nI (lst (col g 0) P 0)) hx hb hr (fun t9 ht9 hW9 => ⟨⟨nI (lst (col g 0) P 0), (wPo q cI P g cn), rfl, Or.inl ⟨rfl, (by omega), rfl⟩, by rw [ht9]; exact hP, va_K.moved hW9.alike hK, hD⟩, hS.F ht9⟩) hS.2.2 dPool_leastEmpty_20
  exact loop2 P 0 ls s.heap [] (by omega) (rfl) hl hP hD hS
theorem dPool_send_0 : decode cPool_send 0 = .ok (.aload_n 0, 1) := by decide +kernel
theorem dPool_send_1 : decode cPool_send 1 = .ok (.invokevirtual 30, 3) := by decide +kernel
theorem dPool_send_4 : decode cPool_send 4 = .ok (.istore 8, 2) := by decide +kernel
theorem dPool_send_6 : decode cPool_send 6 = .ok (.iload 8, 2) := by decide +kernel
theorem dPool_send_8 : decode cPool_send 8 = .ok (.iconst (-1), 1) := by decide +kernel
theorem dPool_send_9 : decode cPool_send 9 = .ok (.if_icmp .ne 5, 3) := by decide +kernel
theorem dPool_send_12 : decode cPool_send 12 = .ok (.iconst (-1), 1) := by decide +kernel
theorem dPool_send_13 : decode cPool_send 13 = .ok (.ireturn, 1) := by decide +kernel
theorem dPool_send_14 : decode cPool_send 14 = .ok (.iload 8, 2) := by decide +kernel
theorem dPool_send_16 : decode cPool_send 16 = .ok (.bipush 7, 2) := by decide +kernel
theorem dPool_send_18 : decode cPool_send 18 = .ok (.imul, 1) := by decide +kernel
theorem dPool_send_19 : decode cPool_send 19 = .ok (.istore 9, 2) := by decide +kernel
theorem dPool_send_21 : decode cPool_send 21 = .ok (.aload_n 0, 1) := by decide +kernel
theorem dPool_send_22 : decode cPool_send 22 = .ok (.getfield 15, 3) := by decide +kernel
theorem dPool_send_25 : decode cPool_send 25 = .ok (.iload 9, 2) := by decide +kernel
theorem dPool_send_27 : decode cPool_send 27 = .ok (.iconst 0, 1) := by decide +kernel
theorem dPool_send_28 : decode cPool_send 28 = .ok (.iadd, 1) := by decide +kernel
theorem dPool_send_29 : decode cPool_send 29 = .ok (.iload_n 1, 1) := by decide +kernel
theorem dPool_send_30 : decode cPool_send 30 = .ok (.iastore, 1) := by decide +kernel
theorem dPool_send_31 : decode cPool_send 31 = .ok (.aload_n 0, 1) := by decide +kernel
theorem dPool_send_32 : decode cPool_send 32 = .ok (.getfield 15, 3) := by decide +kernel
theorem dPool_send_35 : decode cPool_send 35 = .ok (.iload 9, 2) := by decide +kernel
theorem dPool_send_37 : decode cPool_send 37 = .ok (.iconst 1, 1) := by decide +kernel
theorem dPool_send_38 : decode cPool_send 38 = .ok (.iadd, 1) := by decide +kernel
theorem dPool_send_39 : decode cPool_send 39 = .ok (.iload_n 2, 1) := by decide +kernel
theorem dPool_send_40 : decode cPool_send 40 = .ok (.iastore, 1) := by decide +kernel
theorem dPool_send_41 : decode cPool_send 41 = .ok (.aload_n 0, 1) := by decide +kernel
theorem dPool_send_42 : decode cPool_send 42 = .ok (.getfield 15, 3) := by decide +kernel
theorem dPool_send_45 : decode cPool_send 45 = .ok (.iload 9, 2) := by decide +kernel
theorem dPool_send_47 : decode cPool_send 47 = .ok (.iconst 2, 1) := by decide +kernel
theorem dPool_send_48 : decode cPool_send 48 = .ok (.iadd, 1) := by decide +kernel
theorem dPool_send_49 : decode cPool_send 49 = .ok (.iload_n 3, 1) := by decide +kernel
theorem dPool_send_50 : decode cPool_send 50 = .ok (.iastore, 1) := by decide +kernel
theorem dPool_send_51 : decode cPool_send 51 = .ok (.aload_n 0, 1) := by decide +kernel
theorem dPool_send_52 : decode cPool_send 52 = .ok (.getfield 15, 3) := by decide +kernel
theorem dPool_send_55 : decode cPool_send 55 = .ok (.iload 9, 2) := by decide +kernel
theorem dPool_send_57 : decode cPool_send 57 = .ok (.iconst 3, 1) := by decide +kernel
theorem dPool_send_58 : decode cPool_send 58 = .ok (.iadd, 1) := by decide +kernel
theorem dPool_send_59 : decode cPool_send 59 = .ok (.iload 4, 2) := by decide +kernel
theorem dPool_send_61 : decode cPool_send 61 = .ok (.iastore, 1) := by decide +kernel
theorem dPool_send_62 : decode cPool_send 62 = .ok (.aload_n 0, 1) := by decide +kernel
theorem dPool_send_63 : decode cPool_send 63 = .ok (.getfield 15, 3) := by decide +kernel
theorem dPool_send_66 : decode cPool_send 66 = .ok (.iload 9, 2) := by decide +kernel
theorem dPool_send_68 : decode cPool_send 68 = .ok (.iconst 4, 1) := by decide +kernel
theorem dPool_send_69 : decode cPool_send 69 = .ok (.iadd, 1) := by decide +kernel
theorem dPool_send_70 : decode cPool_send 70 = .ok (.iload 5, 2) := by decide +kernel
theorem dPool_send_72 : decode cPool_send 72 = .ok (.iastore, 1) := by decide +kernel
theorem dPool_send_73 : decode cPool_send 73 = .ok (.aload_n 0, 1) := by decide +kernel
theorem dPool_send_74 : decode cPool_send 74 = .ok (.getfield 15, 3) := by decide +kernel
theorem dPool_send_77 : decode cPool_send 77 = .ok (.iload 9, 2) := by decide +kernel
theorem dPool_send_79 : decode cPool_send 79 = .ok (.iconst 5, 1) := by decide +kernel
theorem dPool_send_80 : decode cPool_send 80 = .ok (.iadd, 1) := by decide +kernel
theorem dPool_send_81 : decode cPool_send 81 = .ok (.iload 6, 2) := by decide +kernel
theorem dPool_send_83 : decode cPool_send 83 = .ok (.iastore, 1) := by decide +kernel
theorem dPool_send_84 : decode cPool_send 84 = .ok (.aload_n 0, 1) := by decide +kernel
theorem dPool_send_85 : decode cPool_send 85 = .ok (.getfield 15, 3) := by decide +kernel
theorem dPool_send_88 : decode cPool_send 88 = .ok (.iload 9, 2) := by decide +kernel
theorem dPool_send_90 : decode cPool_send 90 = .ok (.bipush 6, 2) := by decide +kernel
theorem dPool_send_92 : decode cPool_send 92 = .ok (.iadd, 1) := by decide +kernel
theorem dPool_send_93 : decode cPool_send 93 = .ok (.iload 7, 2) := by decide +kernel
theorem dPool_send_95 : decode cPool_send 95 = .ok (.iastore, 1) := by decide +kernel
theorem dPool_send_96 : decode cPool_send 96 = .ok (.aload_n 0, 1) := by decide +kernel
theorem dPool_send_97 : decode cPool_send 97 = .ok (.dup, 1) := by decide +kernel
theorem dPool_send_98 : decode cPool_send 98 = .ok (.getfield 19, 3) := by decide +kernel
theorem dPool_send_101 : decode cPool_send 101 = .ok (.iconst 1, 1) := by decide +kernel
theorem dPool_send_102 : decode cPool_send 102 = .ok (.iadd, 1) := by decide +kernel
theorem dPool_send_103 : decode cPool_send 103 = .ok (.putfield 19, 3) := by decide +kernel
theorem dPool_send_106 : decode cPool_send 106 = .ok (.iload 8, 2) := by decide +kernel
theorem dPool_send_108 : decode cPool_send 108 = .ok (.ireturn, 1) := by decide +kernel
set_option maxRecDepth 100000 in
set_option maxHeartbeats 4000000 in
theorem c_send (l : Launch) (D : va_G) (cI cZ : ClassId) (q : Nat → Nat) (P : Nat) (g : Nat → Nat → Int32) (cn : Nat) (k : Int32) (s1 : Int32) (r1 : Int32) (sl : Int32) (b : Int32) (v : Int32) (o : Int32) (hP64 : P ≤ 64) : MI l D [(cI, .int), (cZ, .boolean)] yPool_send wsPool_send ({ frames := 2, cells := 0, slots := 0, locals := 43 }) [.ref (q 1), .int k, .int s1, .int r1, .int sl, .int b, .int v, .int o] (wPo q cI P g cn) (fun r w => (r = nI (lst (col g 0) P 0) ∧ (lst (col g 0) P 0 < P) ∧ w = (wPo q cI P (up7 g (lst (col g 0) P 0) k s1 r1 sl b v o) (cn + 1))) ∨ (r = -1 ∧ (lst (col g 0) P 0 = P) ∧ w = (wPo q cI P g cn))) := by
  intro sz
  refine Met.ofW (cc := cPool_send) (maxL := 10) (ret := (Option.some .int)) (by decide) rfl ?_
  intro p e s m args below meth c s₁ B hml hv
  obtain ⟨rfl, hsz, hP, hK, hD0, hZ⟩ := hv
  have hx := B.exec
  have hb := B.bytes
  have hr := B.returns
  have hts := atoms_spec (ws := wsPool_send) B.pre
  have hown : s.vm.findClass RPool = some m.cls := findClass_of_methodNamed B.named
  have hlocks := B.notSynchronized
  subst hsz
  have hD := hD0.self (sz := s.heap.size)
  generalize hAe : va_A (wPo q cI P g cn) s.heap.size = A at hD ⊢
  have hA : ∀ q : Nat, s.heap.size ≤ q → A q := fun q h => by rw [← hAe]; exact Or.inr h
  have hS : va_S A s.heap s.heap [] := va_S.rf
  have hP : va_P D vwCl (wPo q cI P g cn) s.heap := hP
  have hl := lv_entry ([.ref (q 1), .int k, .int s1, .int r1, .int sl, .int b, .int v, .int o]) (n := 10) (Nat.le_of_ble_eq_true rfl)
  rw [lg_entry_eq]
  generalize (lg_sl ([.ref (q 1), .int k, .int s1, .int r1, .int sl, .int b, .int v, .int o]) ++ List.replicate (10 - (lg_sl ([.ref (q 1), .int k, .int s1, .int r1, .int sl, .int b, .int v, .int o])).length) Slot.unset).toArray = ls at hl ⊢
  have hl : lv_has ls 10 [(0, .ref (q 1)), (1, .int k), (2, .int s1), (3, .int r1), (4, .int sl), (5, .int b), (6, .int v), (7, .int o)] := hl
  refine lv_aload_n hx hb dPool_send_0 rfl (lv_at hl 0 rfl) ?_
  have hPc := hP.sub (ws' := (wPo q cI P g cn)) [0, 1] rfl
  have hDc := hD.sub (ws' := (wPo q cI P g cn)) [0, 1] (by decide) rfl
  refine kx_i (va_runV (As := []) (rest := []) ⟨hx, hb, hml, hown, hts⟩ ((c_leastEmpty l D cI cZ q P g cn (hP64)) s.heap.size) (cwV 0 hts (gV wd177 wd179 sl_Pool_leastEmpty wd2 wd180) rfl rfl rfl (by decide +kernel) ⟨Nat.le_of_ble_eq_true rfl, Nat.le_of_ble_eq_true rfl⟩) ⟨fb_PW, va_recv (q0 := 0) (ci := 1) hK hPc rfl rfl, pre_PW hK hPc hDc hZ⟩ rfl rfl hl.1 rfl (lv_room (Nat.le_of_ble_eq_true rfl)) dPool_send_1 ⟨Nat.zero_le _, Nat.zero_le _⟩) hP hD hS hA [0, 1] [] rfl rfl (by decide) (by decide) (fun r w1 H locs hw hP hD hS => ?_)
  rcases hw with ⟨rfl, h1, rfl⟩ | ⟨rfl, h1, rfl⟩
  · have hP : va_P D vwCl (wPo q cI P g cn) H := hP
    have hD : va_D A (wPo q cI P g cn) := hD
    refine lv_istore hx hb dPool_send_4 hl (by decide) rfl (fun ls hl => ?_)
    have hl : lv_has ls 10 [(8, .int (nI (lst (col g 0) P 0))), (0, .ref (q 1)), (1, .int k), (2, .int s1), (3, .int r1), (4, .int sl), (5, .int b), (6, .int v), (7, .int o)] := hl
    refine lv_iload hx hb dPool_send_6 (lv_at hl 0 rfl) ?_
    refine lv_iconst (v := (-1)) hx hb dPool_send_8 (by decide) ?_
    refine lv_icmp_ne (tgt := 14) hx hb dPool_send_9 (by decide) (fun _ => ?_) (fun h9 => absurd h9 (nI_nm1 (by omega)))
    refine lv_iload hx hb dPool_send_14 (lv_at hl 0 rfl) ?_
    refine lv_bipush (v := nI 7) hx hb dPool_send_16 (by decide) ?_
    refine lv_imul hx hb dPool_send_18 ?_
    refine lv_topi (nm_r (pk_mul _ _) ?_)
    refine lv_istore hx hb dPool_send_19 hl (by decide) rfl (fun ls hl => ?_)
    have hl : lv_has ls 10 [(9, .int (nI ((lst (col g 0) P 0) * 7))), (8, .int (nI (lst (col g 0) P 0))), (0, .ref (q 1)), (1, .int k), (2, .int s1), (3, .int r1), (4, .int sl), (5, .int b), (6, .int v), (7, .int o)] := hl
    refine lv_aload_n hx hb dPool_send_21 rfl (lv_at hl 2 rfl) ?_
    refine va_get (D := D) (ci := 1) (v := .ref (q 2)) (C := RPool) (T := TPool) (N := 3) hx hb hts (fun w h => mc (uPool_in w h)) hown hK hP 0 rfl rfl 1 (by decide) (hts _ (mc wd27)) (fun _ h9 => h9) rfl dPool_send_22 ?_
    refine lv_iload hx hb dPool_send_25 (lv_at hl 0 rfl) ?_
    refine lv_iconst (v := nI 0) hx hb dPool_send_27 (by decide) ?_
    refine lv_iadd hx hb dPool_send_28 ?_
    refine lv_topi (nm_r (nI_add _ _) ?_)
    refine lv_iload_n hx hb dPool_send_29 rfl (lv_at hl 3 rfl) ?_
    refine ka_st (f' := sq 7 (up2 g (lst (col g 0) P 0) 0 k)) hx hb hK hP hD hS 1 0 rfl rfl (by omega) (by omega) (sq_up (by omega)) dPool_send_30 (fun H locs hP hD hS => ?_)
    have hP : va_P D vwCl (wPo q cI P (up2 g (lst (col g 0) P 0) 0 k) cn) H := hP
    have hD : va_D A (wPo q cI P (up2 g (lst (col g 0) P 0) 0 k) cn) := hD
    refine lv_aload_n hx hb dPool_send_31 rfl (lv_at hl 2 rfl) ?_
    refine va_get (D := D) (ci := 1) (v := .ref (q 2)) (C := RPool) (T := TPool) (N := 3) hx hb hts (fun w h => mc (uPool_in w h)) hown hK hP 0 rfl rfl 1 (by decide) (hts _ (mc wd27)) (fun _ h9 => h9) rfl dPool_send_32 ?_
    refine lv_iload hx hb dPool_send_35 (lv_at hl 0 rfl) ?_
    refine lv_iconst (v := nI 1) hx hb dPool_send_37 (by decide) ?_
    refine lv_iadd hx hb dPool_send_38 ?_
    refine lv_topi (nm_r (nI_add _ _) ?_)
    refine lv_iload_n hx hb dPool_send_39 rfl (lv_at hl 4 rfl) ?_
    refine ka_st (f' := sq 7 (up2 (up2 g (lst (col g 0) P 0) 0 k) (lst (col g 0) P 0) 1 s1)) hx hb hK hP hD hS 1 0 rfl rfl (by omega) (by omega) (sq_up (by omega)) dPool_send_40 (fun H locs hP hD hS => ?_)
    have hP : va_P D vwCl (wPo q cI P (up2 (up2 g (lst (col g 0) P 0) 0 k) (lst (col g 0) P 0) 1 s1) cn) H := hP
    have hD : va_D A (wPo q cI P (up2 (up2 g (lst (col g 0) P 0) 0 k) (lst (col g 0) P 0) 1 s1) cn) := hD
    refine lv_aload_n hx hb dPool_send_41 rfl (lv_at hl 2 rfl) ?_
    refine va_get (D := D) (ci := 1) (v := .ref (q 2)) (C := RPool) (T := TPool) (N := 3) hx hb hts (fun w h => mc (uPool_in w h)) hown hK hP 0 rfl rfl 1 (by decide) (hts _ (mc wd27)) (fun _ h9 => h9) rfl dPool_send_42 ?_
    refine lv_iload hx hb dPool_send_45 (lv_at hl 0 rfl) ?_
    refine lv_iconst (v := nI 2) hx hb dPool_send_47 (by decide) ?_
    refine lv_iadd hx hb dPool_send_48 ?_
    refine lv_topi (nm_r (nI_add _ _) ?_)
    refine lv_iload_n hx hb dPool_send_49 rfl (lv_at hl 5 rfl) ?_
    refine ka_st (f' := sq 7 (up2 (up2 (up2 g (lst (col g 0) P 0) 0 k) (lst (col g 0) P 0) 1 s1) (lst (col g 0) P 0) 2 r1)) hx hb hK hP hD hS 1 0 rfl rfl (by omega) (by omega) (sq_up (by omega)) dPool_send_50 (fun H locs hP hD hS => ?_)
    have hP : va_P D vwCl (wPo q cI P (up2 (up2 (up2 g (lst (col g 0) P 0) 0 k) (lst (col g 0) P 0) 1 s1) (lst (col g 0) P 0) 2 r1) cn) H := hP
    have hD : va_D A (wPo q cI P (up2 (up2 (up2 g (lst (col g 0) P 0) 0 k) (lst (col g 0) P 0) 1 s1) (lst (col g 0) P 0) 2 r1) cn) := hD
    refine lv_aload_n hx hb dPool_send_51 rfl (lv_at hl 2 rfl) ?_
    refine va_get (D := D) (ci := 1) (v := .ref (q 2)) (C := RPool) (T := TPool) (N := 3) hx hb hts (fun w h => mc (uPool_in w h)) hown hK hP 0 rfl rfl 1 (by decide) (hts _ (mc wd27)) (fun _ h9 => h9) rfl dPool_send_52 ?_
    refine lv_iload hx hb dPool_send_55 (lv_at hl 0 rfl) ?_
    refine lv_iconst (v := nI 3) hx hb dPool_send_57 (by decide) ?_
    refine lv_iadd hx hb dPool_send_58 ?_
    refine lv_topi (nm_r (nI_add _ _) ?_)
    refine lv_iload hx hb dPool_send_59 (lv_at hl 6 rfl) ?_
    refine ka_st (f' := sq 7 (up2 (up2 (up2 (up2 g (lst (col g 0) P 0) 0 k) (lst (col g 0) P 0) 1 s1) (lst (col g 0) P 0) 2 r1) (lst (col g 0) P 0) 3 sl)) hx hb hK hP hD hS 1 0 rfl rfl (by omega) (by omega) (sq_up (by omega)) dPool_send_61 (fun H locs hP hD hS => ?_)
    have hP : va_P D vwCl (wPo q cI P (up2 (up2 (up2 (up2 g (lst (col g 0) P 0) 0 k) (lst (col g 0) P 0) 1 s1) (lst (col g 0) P 0) 2 r1) (lst (col g 0) P 0) 3 sl) cn) H := hP
    have hD : va_D A (wPo q cI P (up2 (up2 (up2 (up2 g (lst (col g 0) P 0) 0 k) (lst (col g 0) P 0) 1 s1) (lst (col g 0) P 0) 2 r1) (lst (col g 0) P 0) 3 sl) cn) := hD
    refine lv_aload_n hx hb dPool_send_62 rfl (lv_at hl 2 rfl) ?_
    refine va_get (D := D) (ci := 1) (v := .ref (q 2)) (C := RPool) (T := TPool) (N := 3) hx hb hts (fun w h => mc (uPool_in w h)) hown hK hP 0 rfl rfl 1 (by decide) (hts _ (mc wd27)) (fun _ h9 => h9) rfl dPool_send_63 ?_
    refine lv_iload hx hb dPool_send_66 (lv_at hl 0 rfl) ?_
    refine lv_iconst (v := nI 4) hx hb dPool_send_68 (by decide) ?_
    refine lv_iadd hx hb dPool_send_69 ?_
    refine lv_topi (nm_r (nI_add _ _) ?_)
    refine lv_iload hx hb dPool_send_70 (lv_at hl 7 rfl) ?_
    refine ka_st (f' := sq 7 (up2 (up2 (up2 (up2 (up2 g (lst (col g 0) P 0) 0 k) (lst (col g 0) P 0) 1 s1) (lst (col g 0) P 0) 2 r1) (lst (col g 0) P 0) 3 sl) (lst (col g 0) P 0) 4 b)) hx hb hK hP hD hS 1 0 rfl rfl (by omega) (by omega) (sq_up (by omega)) dPool_send_72 (fun H locs hP hD hS => ?_)
    have hP : va_P D vwCl (wPo q cI P (up2 (up2 (up2 (up2 (up2 g (lst (col g 0) P 0) 0 k) (lst (col g 0) P 0) 1 s1) (lst (col g 0) P 0) 2 r1) (lst (col g 0) P 0) 3 sl) (lst (col g 0) P 0) 4 b) cn) H := hP
    have hD : va_D A (wPo q cI P (up2 (up2 (up2 (up2 (up2 g (lst (col g 0) P 0) 0 k) (lst (col g 0) P 0) 1 s1) (lst (col g 0) P 0) 2 r1) (lst (col g 0) P 0) 3 sl) (lst (col g 0) P 0) 4 b) cn) := hD
    refine lv_aload_n hx hb dPool_send_73 rfl (lv_at hl 2 rfl) ?_
    refine va_get (D := D) (ci := 1) (v := .ref (q 2)) (C := RPool) (T := TPool) (N := 3) hx hb hts (fun w h => mc (uPool_in w h)) hown hK hP 0 rfl rfl 1 (by decide) (hts _ (mc wd27)) (fun _ h9 => h9) rfl dPool_send_74 ?_
    refine lv_iload hx hb dPool_send_77 (lv_at hl 0 rfl) ?_
    refine lv_iconst (v := nI 5) hx hb dPool_send_79 (by decide) ?_
    refine lv_iadd hx hb dPool_send_80 ?_
    refine lv_topi (nm_r (nI_add _ _) ?_)
    refine lv_iload hx hb dPool_send_81 (lv_at hl 8 rfl) ?_
    refine ka_st (f' := sq 7 (up2 (up2 (up2 (up2 (up2 (up2 g (lst (col g 0) P 0) 0 k) (lst (col g 0) P 0) 1 s1) (lst (col g 0) P 0) 2 r1) (lst (col g 0) P 0) 3 sl) (lst (col g 0) P 0) 4 b) (lst (col g 0) P 0) 5 v)) hx hb hK hP hD hS 1 0 rfl rfl (by omega) (by omega) (sq_up (by omega)) dPool_send_83 (fun H locs hP hD hS => ?_)
    have hP : va_P D vwCl (wPo q cI P (up2 (up2 (up2 (up2 (up2 (up2 g (lst (col g 0) P 0) 0 k) (lst (col g 0) P 0) 1 s1) (lst (col g 0) P 0) 2 r1) (lst (col g 0) P 0) 3 sl) (lst (col g 0) P 0) 4 b) (lst (col g 0) P 0) 5 v) cn) H := hP
    have hD : va_D A (wPo q cI P (up2 (up2 (up2 (up2 (up2 (up2 g (lst (col g 0) P 0) 0 k) (lst (col g 0) P 0) 1 s1) (lst (col g 0) P 0) 2 r1) (lst (col g 0) P 0) 3 sl) (lst (col g 0) P 0) 4 b) (lst (col g 0) P 0) 5 v) cn) := hD
    refine lv_aload_n hx hb dPool_send_84 rfl (lv_at hl 2 rfl) ?_
    refine va_get (D := D) (ci := 1) (v := .ref (q 2)) (C := RPool) (T := TPool) (N := 3) hx hb hts (fun w h => mc (uPool_in w h)) hown hK hP 0 rfl rfl 1 (by decide) (hts _ (mc wd27)) (fun _ h9 => h9) rfl dPool_send_85 ?_
    refine lv_iload hx hb dPool_send_88 (lv_at hl 0 rfl) ?_
    refine lv_bipush (v := nI 6) hx hb dPool_send_90 (by decide) ?_
    refine lv_iadd hx hb dPool_send_92 ?_
    refine lv_topi (nm_r (nI_add _ _) ?_)
    refine lv_iload hx hb dPool_send_93 (lv_at hl 9 rfl) ?_
    refine ka_st (f' := sq 7 (up2 (up2 (up2 (up2 (up2 (up2 (up2 g (lst (col g 0) P 0) 0 k) (lst (col g 0) P 0) 1 s1) (lst (col g 0) P 0) 2 r1) (lst (col g 0) P 0) 3 sl) (lst (col g 0) P 0) 4 b) (lst (col g 0) P 0) 5 v) (lst (col g 0) P 0) 6 o)) hx hb hK hP hD hS 1 0 rfl rfl (by omega) (by omega) (sq_up (by omega)) dPool_send_95 (fun H locs hP hD hS => ?_)
    have hP : va_P D vwCl (wPo q cI P (up2 (up2 (up2 (up2 (up2 (up2 (up2 g (lst (col g 0) P 0) 0 k) (lst (col g 0) P 0) 1 s1) (lst (col g 0) P 0) 2 r1) (lst (col g 0) P 0) 3 sl) (lst (col g 0) P 0) 4 b) (lst (col g 0) P 0) 5 v) (lst (col g 0) P 0) 6 o) cn) H := hP
    have hD : va_D A (wPo q cI P (up2 (up2 (up2 (up2 (up2 (up2 (up2 g (lst (col g 0) P 0) 0 k) (lst (col g 0) P 0) 1 s1) (lst (col g 0) P 0) 2 r1) (lst (col g 0) P 0) 3 sl) (lst (col g 0) P 0) 4 b) (lst (col g 0) P 0) 5 v) (lst (col g 0) P 0) 6 o) cn) := hD
    refine lv_aload_n hx hb dPool_send_96 rfl (lv_at hl 2 rfl) ?_
    refine lv_dup hx hb dPool_send_97 rfl ?_
    refine va_get (D := D) (ci := 1) (v := .int (nI cn)) (C := RPool) (T := TPool) (N := 3) hx hb hts (fun w h => mc (uPool_in w h)) hown hK hP 0 rfl rfl 2 (by decide) (hts _ (mc wd28)) (fun _ h9 => h9) rfl dPool_send_98 ?_
    refine lv_iconst (v := nI 1) hx hb dPool_send_101 (by decide) ?_
    refine lv_iadd hx hb dPool_send_102 ?_
    refine lv_topi (nm_r (nI_add _ _) ?_)
    refine va_put (D := D) (ci := 1) (v := .int (nI (cn + 1))) (ty := .int) (C := RPool) (T := TPool) (N := 3) hx hb hts (fun w h => mc (uPool_in w h)) tyPool tyPool_ok nmPool hown hK hP hD hS 0 rfl rfl 2 (by decide) (hts _ (mc wd28)) (fun _ h9 => h9) rfl (by decide +kernel) rfl rfl (Nat.le_of_ble_eq_true rfl) dPool_send_103 (fun H locs hP hD hS => ?_)
    have hP : va_P D vwCl (wPo q cI P (up2 (up2 (up2 (up2 (up2 (up2 (up2 g (lst (col g 0) P 0) 0 k) (lst (col g 0) P 0) 1 s1) (lst (col g 0) P 0) 2 r1) (lst (col g 0) P 0) 3 sl) (lst (col g 0) P 0) 4 b) (lst (col g 0) P 0) 5 v) (lst (col g 0) P 0) 6 o) (cn + 1)) H := hP
    have hD : va_D A (wPo q cI P (up2 (up2 (up2 (up2 (up2 (up2 (up2 g (lst (col g 0) P 0) 0 k) (lst (col g 0) P 0) 1 s1) (lst (col g 0) P 0) 2 r1) (lst (col g 0) P 0) 3 sl) (lst (col g 0) P 0) 4 b) (lst (col g 0) P 0) 5 v) (lst (col g 0) P 0) 6 o) (cn + 1)) := hD
    refine lv_iload hx hb dPool_send_106 (lv_at hl 1 rfl) ?_
    exact W.iret (v := nI (lst (col g 0) P 0)) hx hb hr (fun t9 ht9 hW9 => ⟨⟨nI (lst (col g 0) P 0), (wPo q cI P (up2 (up2 (up2 (up2 (up2 (up2 (up2 g (lst (col g 0) P 0) 0 k) (lst (col g 0) P 0) 1 s1) (lst (col g 0) P 0) 2 r1) (lst (col g 0) P 0) 3 sl) (lst (col g 0) P 0) 4 b) (lst (col g 0) P 0) 5 v) (lst (col g 0) P 0) 6 o) (cn + 1)), rfl, Or.inl ⟨rfl, h1, rfl⟩, by rw [ht9]; exact hP, va_K.moved hW9.alike hK, hD⟩, hS.F ht9⟩) hS.2.2 dPool_send_108
  · have hP : va_P D vwCl (wPo q cI P g cn) H := hP
    have hD : va_D A (wPo q cI P g cn) := hD
    refine lv_istore hx hb dPool_send_4 hl (by decide) rfl (fun ls hl => ?_)
    have hl : lv_has ls 10 [(8, .int (-1)), (0, .ref (q 1)), (1, .int k), (2, .int s1), (3, .int r1), (4, .int sl), (5, .int b), (6, .int v), (7, .int o)] := hl
    refine lv_iload hx hb dPool_send_6 (lv_at hl 0 rfl) ?_
    refine lv_iconst (v := (-1)) hx hb dPool_send_8 (by decide) ?_
    refine lv_icmp_ne (tgt := 14) hx hb dPool_send_9 (by decide) (fun h9 => absurd (by decide) h9) (fun _ => ?_)
    refine lv_iconst (v := (-1)) hx hb dPool_send_12 (by decide) ?_
    exact W.iret (v := (-1)) hx hb hr (fun t9 ht9 hW9 => ⟨⟨(-1), (wPo q cI P g cn), rfl, Or.inr ⟨rfl, h1, rfl⟩, by rw [ht9]; exact hP, va_K.moved hW9.alike hK, hD⟩, hS.F ht9⟩) hS.2.2 dPool_send_13
theorem dPool_sendCopy_0 : decode cPool_sendCopy 0 = .ok (.aload_n 0, 1) := by decide +kernel
theorem dPool_sendCopy_1 : decode cPool_sendCopy 1 = .ok (.aload_n 0, 1) := by decide +kernel
theorem dPool_sendCopy_2 : decode cPool_sendCopy 2 = .ok (.iload_n 1, 1) := by decide +kernel
theorem dPool_sendCopy_3 : decode cPool_sendCopy 3 = .ok (.iconst 0, 1) := by decide +kernel
theorem dPool_sendCopy_4 : decode cPool_sendCopy 4 = .ok (.invokevirtual 26, 3) := by decide +kernel
theorem dPool_sendCopy_7 : decode cPool_sendCopy 7 = .ok (.aload_n 0, 1) := by decide +kernel
theorem dPool_sendCopy_8 : decode cPool_sendCopy 8 = .ok (.iload_n 1, 1) := by decide +kernel
theorem dPool_sendCopy_9 : decode cPool_sendCopy 9 = .ok (.iconst 1, 1) := by decide +kernel
theorem dPool_sendCopy_10 : decode cPool_sendCopy 10 = .ok (.invokevirtual 26, 3) := by decide +kernel
theorem dPool_sendCopy_13 : decode cPool_sendCopy 13 = .ok (.aload_n 0, 1) := by decide +kernel
theorem dPool_sendCopy_14 : decode cPool_sendCopy 14 = .ok (.iload_n 1, 1) := by decide +kernel
theorem dPool_sendCopy_15 : decode cPool_sendCopy 15 = .ok (.iconst 2, 1) := by decide +kernel
theorem dPool_sendCopy_16 : decode cPool_sendCopy 16 = .ok (.invokevirtual 26, 3) := by decide +kernel
theorem dPool_sendCopy_19 : decode cPool_sendCopy 19 = .ok (.aload_n 0, 1) := by decide +kernel
theorem dPool_sendCopy_20 : decode cPool_sendCopy 20 = .ok (.iload_n 1, 1) := by decide +kernel
theorem dPool_sendCopy_21 : decode cPool_sendCopy 21 = .ok (.iconst 3, 1) := by decide +kernel
theorem dPool_sendCopy_22 : decode cPool_sendCopy 22 = .ok (.invokevirtual 26, 3) := by decide +kernel
theorem dPool_sendCopy_25 : decode cPool_sendCopy 25 = .ok (.aload_n 0, 1) := by decide +kernel
theorem dPool_sendCopy_26 : decode cPool_sendCopy 26 = .ok (.iload_n 1, 1) := by decide +kernel
theorem dPool_sendCopy_27 : decode cPool_sendCopy 27 = .ok (.iconst 4, 1) := by decide +kernel
theorem dPool_sendCopy_28 : decode cPool_sendCopy 28 = .ok (.invokevirtual 26, 3) := by decide +kernel
theorem dPool_sendCopy_31 : decode cPool_sendCopy 31 = .ok (.aload_n 0, 1) := by decide +kernel
theorem dPool_sendCopy_32 : decode cPool_sendCopy 32 = .ok (.iload_n 1, 1) := by decide +kernel
theorem dPool_sendCopy_33 : decode cPool_sendCopy 33 = .ok (.iconst 5, 1) := by decide +kernel
theorem dPool_sendCopy_34 : decode cPool_sendCopy 34 = .ok (.invokevirtual 26, 3) := by decide +kernel
theorem dPool_sendCopy_37 : decode cPool_sendCopy 37 = .ok (.aload_n 0, 1) := by decide +kernel
theorem dPool_sendCopy_38 : decode cPool_sendCopy 38 = .ok (.iload_n 1, 1) := by decide +kernel
theorem dPool_sendCopy_39 : decode cPool_sendCopy 39 = .ok (.bipush 6, 2) := by decide +kernel
theorem dPool_sendCopy_41 : decode cPool_sendCopy 41 = .ok (.invokevirtual 26, 3) := by decide +kernel
theorem dPool_sendCopy_44 : decode cPool_sendCopy 44 = .ok (.invokevirtual 34, 3) := by decide +kernel
theorem dPool_sendCopy_47 : decode cPool_sendCopy 47 = .ok (.ireturn, 1) := by decide +kernel
set_option maxRecDepth 100000 in
set_option maxHeartbeats 4000000 in
theorem c_sendCopy (l : Launch) (D : va_G) (cI cZ : ClassId) (q : Nat → Nat) (P : Nat) (g : Nat → Nat → Int32) (cn : Nat) (j : Nat) (hP64 : P ≤ 64) (hj : j < P) : MI l D [(cI, .int), (cZ, .boolean)] yPool_sendCopy wsPool_sendCopy ({ frames := 3, cells := 0, slots := 0, locals := 72 }) [.ref (q 1), .int (nI j)] (wPo q cI P g cn) (fun r w => (r = nI (lst (col g 0) P 0) ∧ (lst (col g 0) P 0 < P) ∧ w = (wPo q cI P (up7 g (lst (col g 0) P 0) (g j 0) (g j 1) (g j 2) (g j 3) (g j 4) (g j 5) (g j 6)) (cn + 1))) ∨ (r = -1 ∧ (lst (col g 0) P 0 = P) ∧ w = (wPo q cI P g cn))) := by
  intro sz
  refine Met.ofW (cc := cPool_sendCopy) (maxL := 2) (ret := (Option.some .int)) (by decide) rfl ?_
  intro p e s m args below meth c s₁ B hml hv
  obtain ⟨rfl, hsz, hP, hK, hD0, hZ⟩ := hv
  have hx := B.exec
  have hb := B.bytes
  have hr := B.returns
  have hts := atoms_spec (ws := wsPool_sendCopy) B.pre
  have hown : s.vm.findClass RPool = some m.cls := findClass_of_methodNamed B.named
  have hlocks := B.notSynchronized
  subst hsz
  have hD := hD0.self (sz := s.heap.size)
  generalize hAe : va_A (wPo q cI P g cn) s.heap.size = A at hD ⊢
  have hA : ∀ q : Nat, s.heap.size ≤ q → A q := fun q h => by rw [← hAe]; exact Or.inr h
  have hS : va_S A s.heap s.heap [] := va_S.rf
  have hP : va_P D vwCl (wPo q cI P g cn) s.heap := hP
  have hl := lv_entry ([.ref (q 1), .int (nI j)]) (n := 2) (Nat.le_of_ble_eq_true rfl)
  rw [lg_entry_eq]
  generalize (lg_sl ([.ref (q 1), .int (nI j)]) ++ List.replicate (2 - (lg_sl ([.ref (q 1), .int (nI j)])).length) Slot.unset).toArray = ls at hl ⊢
  have hl : lv_has ls 2 [(0, .ref (q 1)), (1, .int (nI j))] := hl
  refine lv_aload_n hx hb dPool_sendCopy_0 rfl (lv_at hl 0 rfl) ?_
  refine lv_aload_n hx hb dPool_sendCopy_1 rfl (lv_at hl 0 rfl) ?_
  refine lv_iload_n hx hb dPool_sendCopy_2 rfl (lv_at hl 1 rfl) ?_
  refine lv_iconst (v := nI 0) hx hb dPool_sendCopy_3 (by decide) ?_
  have hPc := hP.sub (ws' := (wPo q cI P g cn)) [0, 1] rfl
  have hDc := hD.sub (ws' := (wPo q cI P g cn)) [0, 1] (by decide) rfl
  refine kx_i (va_runV (As := [.int (nI j), .int (nI 0)]) (rest := [.ref (q 1)]) ⟨hx, hb, hml, hown, hts⟩ ((c_field l D cI cZ q P g cn j 0 (hP64) (hj) (by omega)) s.heap.size) (cwV 2 hts (gV wd181 wd182 wd183 wd2 wd184) rfl rfl rfl (by decide +kernel) ⟨Nat.le_of_ble_eq_true rfl, Nat.le_of_ble_eq_true rfl⟩) ⟨fb_PW, va_recv (q0 := 0) (ci := 1) hK hPc rfl rfl, pre_PW hK hPc hDc hZ⟩ rfl rfl hl.1 rfl (lv_room (Nat.le_of_ble_eq_true rfl)) dPool_sendCopy_4 ⟨Nat.zero_le _, Nat.zero_le _⟩) hP hD hS hA [0, 1] [] rfl rfl (by decide) (by decide) (fun r w1 H locs hw hP hD hS => ?_)
  obtain ⟨rfl, rfl⟩ := hw
  have hP : va_P D vwCl (wPo q cI P g cn) H := hP
  have hD : va_D A (wPo q cI P g cn) := hD
  refine lv_aload_n hx hb dPool_sendCopy_7 rfl (lv_at hl 0 rfl) ?_
  refine lv_iload_n hx hb dPool_sendCopy_8 rfl (lv_at hl 1 rfl) ?_
  refine lv_iconst (v := nI 1) hx hb dPool_sendCopy_9 (by decide) ?_
  have hPc := hP.sub (ws' := (wPo q cI P g cn)) [0, 1] rfl
  have hDc := hD.sub (ws' := (wPo q cI P g cn)) [0, 1] (by decide) rfl
  refine kx_i (va_runV (As := [.int (nI j), .int (nI 1)]) (rest := [.int (g j 0), .ref (q 1)]) ⟨hx, hb, hml, hown, hts⟩ ((c_field l D cI cZ q P g cn j 1 (hP64) (hj) (by omega)) H.size) (cwV 2 hts (gV wd181 wd182 wd183 wd2 wd184) rfl rfl rfl (by decide +kernel) ⟨Nat.le_of_ble_eq_true rfl, Nat.le_of_ble_eq_true rfl⟩) ⟨fb_PW, va_recv (q0 := 0) (ci := 1) hK hPc rfl rfl, pre_PW hK hPc hDc hZ⟩ rfl rfl hl.1 rfl (lv_room (Nat.le_of_ble_eq_true rfl)) dPool_sendCopy_10 ⟨Nat.zero_le _, Nat.zero_le _⟩) hP hD hS hA [0, 1] [] rfl rfl (by decide) (by decide) (fun r w1 H locs hw hP hD hS => ?_)
  obtain ⟨rfl, rfl⟩ := hw
  have hP : va_P D vwCl (wPo q cI P g cn) H := hP
  have hD : va_D A (wPo q cI P g cn) := hD
  refine lv_aload_n hx hb dPool_sendCopy_13 rfl (lv_at hl 0 rfl) ?_
  refine lv_iload_n hx hb dPool_sendCopy_14 rfl (lv_at hl 1 rfl) ?_
  refine lv_iconst (v := nI 2) hx hb dPool_sendCopy_15 (by decide) ?_
  have hPc := hP.sub (ws' := (wPo q cI P g cn)) [0, 1] rfl
  have hDc := hD.sub (ws' := (wPo q cI P g cn)) [0, 1] (by decide) rfl
  refine kx_i (va_runV (As := [.int (nI j), .int (nI 2)]) (rest := [.int (g j 1), .int (g j 0), .ref (q 1)]) ⟨hx, hb, hml, hown, hts⟩ ((c_field l D cI cZ q P g cn j 2 (hP64) (hj) (by omega)) H.size) (cwV 2 hts (gV wd181 wd182 wd183 wd2 wd184) rfl rfl rfl (by decide +kernel) ⟨Nat.le_of_ble_eq_true rfl, Nat.le_of_ble_eq_true rfl⟩) ⟨fb_PW, va_recv (q0 := 0) (ci := 1) hK hPc rfl rfl, pre_PW hK hPc hDc hZ⟩ rfl rfl hl.1 rfl (lv_room (Nat.le_of_ble_eq_true rfl)) dPool_sendCopy_16 ⟨Nat.zero_le _, Nat.zero_le _⟩) hP hD hS hA [0, 1] [] rfl rfl (by decide) (by decide) (fun r w1 H locs hw hP hD hS => ?_)
  obtain ⟨rfl, rfl⟩ := hw
  have hP : va_P D vwCl (wPo q cI P g cn) H := hP
  have hD : va_D A (wPo q cI P g cn) := hD
  refine lv_aload_n hx hb dPool_sendCopy_19 rfl (lv_at hl 0 rfl) ?_
  refine lv_iload_n hx hb dPool_sendCopy_20 rfl (lv_at hl 1 rfl) ?_
  refine lv_iconst (v := nI 3) hx hb dPool_sendCopy_21 (by decide) ?_
  have hPc := hP.sub (ws' := (wPo q cI P g cn)) [0, 1] rfl
  have hDc := hD.sub (ws' := (wPo q cI P g cn)) [0, 1] (by decide) rfl
  refine kx_i (va_runV (As := [.int (nI j), .int (nI 3)]) (rest := [.int (g j 2), .int (g j 1), .int (g j 0), .ref (q 1)]) ⟨hx, hb, hml, hown, hts⟩ ((c_field l D cI cZ q P g cn j 3 (hP64) (hj) (by omega)) H.size) (cwV 2 hts (gV wd181 wd182 wd183 wd2 wd184) rfl rfl rfl (by decide +kernel) ⟨Nat.le_of_ble_eq_true rfl, Nat.le_of_ble_eq_true rfl⟩) ⟨fb_PW, va_recv (q0 := 0) (ci := 1) hK hPc rfl rfl, pre_PW hK hPc hDc hZ⟩ rfl rfl hl.1 rfl (lv_room (Nat.le_of_ble_eq_true rfl)) dPool_sendCopy_22 ⟨Nat.zero_le _, Nat.zero_le _⟩) hP hD hS hA [0, 1] [] rfl rfl (by decide) (by decide) (fun r w1 H locs hw hP hD hS => ?_)
  obtain ⟨rfl, rfl⟩ := hw
  have hP : va_P D vwCl (wPo q cI P g cn) H := hP
  have hD : va_D A (wPo q cI P g cn) := hD
  refine lv_aload_n hx hb dPool_sendCopy_25 rfl (lv_at hl 0 rfl) ?_
  refine lv_iload_n hx hb dPool_sendCopy_26 rfl (lv_at hl 1 rfl) ?_
  refine lv_iconst (v := nI 4) hx hb dPool_sendCopy_27 (by decide) ?_
  have hPc := hP.sub (ws' := (wPo q cI P g cn)) [0, 1] rfl
  have hDc := hD.sub (ws' := (wPo q cI P g cn)) [0, 1] (by decide) rfl
  refine kx_i (va_runV (As := [.int (nI j), .int (nI 4)]) (rest := [.int (g j 3), .int (g j 2), .int (g j 1), .int (g j 0), .ref (q 1)]) ⟨hx, hb, hml, hown, hts⟩ ((c_field l D cI cZ q P g cn j 4 (hP64) (hj) (by omega)) H.size) (cwV 2 hts (gV wd181 wd182 wd183 wd2 wd184) rfl rfl rfl (by decide +kernel) ⟨Nat.le_of_ble_eq_true rfl, Nat.le_of_ble_eq_true rfl⟩) ⟨fb_PW, va_recv (q0 := 0) (ci := 1) hK hPc rfl rfl, pre_PW hK hPc hDc hZ⟩ rfl rfl hl.1 rfl (lv_room (Nat.le_of_ble_eq_true rfl)) dPool_sendCopy_28 ⟨Nat.zero_le _, Nat.zero_le _⟩) hP hD hS hA [0, 1] [] rfl rfl (by decide) (by decide) (fun r w1 H locs hw hP hD hS => ?_)
  obtain ⟨rfl, rfl⟩ := hw
  have hP : va_P D vwCl (wPo q cI P g cn) H := hP
  have hD : va_D A (wPo q cI P g cn) := hD
  refine lv_aload_n hx hb dPool_sendCopy_31 rfl (lv_at hl 0 rfl) ?_
  refine lv_iload_n hx hb dPool_sendCopy_32 rfl (lv_at hl 1 rfl) ?_
  refine lv_iconst (v := nI 5) hx hb dPool_sendCopy_33 (by decide) ?_
  have hPc := hP.sub (ws' := (wPo q cI P g cn)) [0, 1] rfl
  have hDc := hD.sub (ws' := (wPo q cI P g cn)) [0, 1] (by decide) rfl
  refine kx_i (va_runV (As := [.int (nI j), .int (nI 5)]) (rest := [.int (g j 4), .int (g j 3), .int (g j 2), .int (g j 1), .int (g j 0), .ref (q 1)]) ⟨hx, hb, hml, hown, hts⟩ ((c_field l D cI cZ q P g cn j 5 (hP64) (hj) (by omega)) H.size) (cwV 2 hts (gV wd181 wd182 wd183 wd2 wd184) rfl rfl rfl (by decide +kernel) ⟨Nat.le_of_ble_eq_true rfl, Nat.le_of_ble_eq_true rfl⟩) ⟨fb_PW, va_recv (q0 := 0) (ci := 1) hK hPc rfl rfl, pre_PW hK hPc hDc hZ⟩ rfl rfl hl.1 rfl (lv_room (Nat.le_of_ble_eq_true rfl)) dPool_sendCopy_34 ⟨Nat.zero_le _, Nat.zero_le _⟩) hP hD hS hA [0, 1] [] rfl rfl (by decide) (by decide) (fun r w1 H locs hw hP hD hS => ?_)
  obtain ⟨rfl, rfl⟩ := hw
  have hP : va_P D vwCl (wPo q cI P g cn) H := hP
  have hD : va_D A (wPo q cI P g cn) := hD
  refine lv_aload_n hx hb dPool_sendCopy_37 rfl (lv_at hl 0 rfl) ?_
  refine lv_iload_n hx hb dPool_sendCopy_38 rfl (lv_at hl 1 rfl) ?_
  refine lv_bipush (v := nI 6) hx hb dPool_sendCopy_39 (by decide) ?_
  have hPc := hP.sub (ws' := (wPo q cI P g cn)) [0, 1] rfl
  have hDc := hD.sub (ws' := (wPo q cI P g cn)) [0, 1] (by decide) rfl
  refine kx_i (va_runV (As := [.int (nI j), .int (nI 6)]) (rest := [.int (g j 5), .int (g j 4), .int (g j 3), .int (g j 2), .int (g j 1), .int (g j 0), .ref (q 1)]) ⟨hx, hb, hml, hown, hts⟩ ((c_field l D cI cZ q P g cn j 6 (hP64) (hj) (by omega)) H.size) (cwV 2 hts (gV wd181 wd182 wd183 wd2 wd184) rfl rfl rfl (by decide +kernel) ⟨Nat.le_of_ble_eq_true rfl, Nat.le_of_ble_eq_true rfl⟩) ⟨fb_PW, va_recv (q0 := 0) (ci := 1) hK hPc rfl rfl, pre_PW hK hPc hDc hZ⟩ rfl rfl hl.1 rfl (lv_room (Nat.le_of_ble_eq_true rfl)) dPool_sendCopy_41 ⟨Nat.zero_le _, Nat.zero_le _⟩) hP hD hS hA [0, 1] [] rfl rfl (by decide) (by decide) (fun r w1 H locs hw hP hD hS => ?_)
  obtain ⟨rfl, rfl⟩ := hw
  have hP : va_P D vwCl (wPo q cI P g cn) H := hP
  have hD : va_D A (wPo q cI P g cn) := hD
  have hPc := hP.sub (ws' := (wPo q cI P g cn)) [0, 1] rfl
  have hDc := hD.sub (ws' := (wPo q cI P g cn)) [0, 1] (by decide) rfl
  refine kx_i (va_runV (As := [.int (g j 0), .int (g j 1), .int (g j 2), .int (g j 3), .int (g j 4), .int (g j 5), .int (g j 6)]) (rest := []) ⟨hx, hb, hml, hown, hts⟩ ((c_send l D cI cZ q P g cn (g j 0) (g j 1) (g j 2) (g j 3) (g j 4) (g j 5) (g j 6) (hP64)) H.size) (cwV 7 hts (gV wd303 wd174 wd175 wd2 wd176) rfl rfl rfl (by decide +kernel) ⟨Nat.le_of_ble_eq_true rfl, Nat.le_of_ble_eq_true rfl⟩) ⟨fb_PW, va_recv (q0 := 0) (ci := 1) hK hPc rfl rfl, pre_PW hK hPc hDc hZ⟩ rfl rfl hl.1 rfl (lv_room (Nat.le_of_ble_eq_true rfl)) dPool_sendCopy_44 ⟨Nat.zero_le _, Nat.zero_le _⟩) hP hD hS hA [0, 1] [] rfl rfl (by decide) (by decide) (fun r w1 H locs hw hP hD hS => ?_)
  rcases hw with ⟨rfl, h44, rfl⟩ | ⟨rfl, h44, rfl⟩
  · have hP : va_P D vwCl (wPo q cI P (up7 g (lst (col g 0) P 0) (g j 0) (g j 1) (g j 2) (g j 3) (g j 4) (g j 5) (g j 6)) (cn + 1)) H := hP
    have hD : va_D A (wPo q cI P (up7 g (lst (col g 0) P 0) (g j 0) (g j 1) (g j 2) (g j 3) (g j 4) (g j 5) (g j 6)) (cn + 1)) := hD
    exact W.iret (v := nI (lst (col g 0) P 0)) hx hb hr (fun t9 ht9 hW9 => ⟨⟨nI (lst (col g 0) P 0), (wPo q cI P (up7 g (lst (col g 0) P 0) (g j 0) (g j 1) (g j 2) (g j 3) (g j 4) (g j 5) (g j 6)) (cn + 1)), rfl, Or.inl ⟨rfl, h44, rfl⟩, by rw [ht9]; exact hP, va_K.moved hW9.alike hK, hD⟩, hS.F ht9⟩) hS.2.2 dPool_sendCopy_47
  · have hP : va_P D vwCl (wPo q cI P g cn) H := hP
    have hD : va_D A (wPo q cI P g cn) := hD
    exact W.iret (v := (-1)) hx hb hr (fun t9 ht9 hW9 => ⟨⟨(-1), (wPo q cI P g cn), rfl, Or.inr ⟨rfl, h44, rfl⟩, by rw [ht9]; exact hP, va_K.moved hW9.alike hK, hD⟩, hS.F ht9⟩) hS.2.2 dPool_sendCopy_47
theorem dProposers_phase_0 : decode cProposers_phase 0 = .ok (.aload_n 0, 1) := by decide +kernel
theorem dProposers_phase_1 : decode cProposers_phase 1 = .ok (.getfield 15, 3) := by decide +kernel
theorem dProposers_phase_4 : decode cProposers_phase 4 = .ok (.iload_n 1, 1) := by decide +kernel
theorem dProposers_phase_5 : decode cProposers_phase 5 = .ok (.iaload, 1) := by decide +kernel
theorem dProposers_phase_6 : decode cProposers_phase 6 = .ok (.ireturn, 1) := by decide +kernel
set_option maxRecDepth 100000 in
set_option maxHeartbeats 4000000 in
theorem c_pr_phase (l : Launch) (D : va_G) (cI cZ : ClassId) (q : Nat → Nat) (n : Nat) (L : Nat) (f1 : Nat → Int32) (f2 : Nat → Int32) (f3 : Nat → Int32) (f4 : Nat → Int32) (f5 : Nat → Int32) (k : Nat) (hL20 : L ≤ 20) (hkL : k < L) : MI l D [(cI, .int), (cZ, .boolean)] yProposers_phase wsProposers_phase ({ frames := 0, cells := 0, slots := 0, locals := 0 }) [.ref (q 3), .int (nI k)] (wPr q cI n L f1 f2 f3 f4 f5) (fun r w => r = f1 k ∧ w = (wPr q cI n L f1 f2 f3 f4 f5)) := by
  intro sz
  refine Met.ofW (cc := cProposers_phase) (maxL := 2) (ret := (Option.some .int)) (by decide) rfl ?_
  intro p e s m args below meth c s₁ B hml hv
  obtain ⟨rfl, hsz, hP, hK, hD0, hZ⟩ := hv
  have hx := B.exec
  have hb := B.bytes
  have hr := B.returns
  have hts := atoms_spec (ws := wsProposers_phase) B.pre
  have hown : s.vm.findClass RProposers = some m.cls := findClass_of_methodNamed B.named
  have hlocks := B.notSynchronized
  subst hsz
  have hD := hD0.self (sz := s.heap.size)
  generalize hAe : va_A (wPr q cI n L f1 f2 f3 f4 f5) s.heap.size = A at hD ⊢
  have hA : ∀ q : Nat, s.heap.size ≤ q → A q := fun q h => by rw [← hAe]; exact Or.inr h
  have hS : va_S A s.heap s.heap [] := va_S.rf
  have hP : va_P D vwCl (wPr q cI n L f1 f2 f3 f4 f5) s.heap := hP
  have hl := lv_entry ([.ref (q 3), .int (nI k)]) (n := 2) (Nat.le_of_ble_eq_true rfl)
  rw [lg_entry_eq]
  generalize (lg_sl ([.ref (q 3), .int (nI k)]) ++ List.replicate (2 - (lg_sl ([.ref (q 3), .int (nI k)])).length) Slot.unset).toArray = ls at hl ⊢
  have hl : lv_has ls 2 [(0, .ref (q 3)), (1, .int (nI k))] := hl
  refine lv_aload_n hx hb dProposers_phase_0 rfl (lv_at hl 0 rfl) ?_
  refine va_get (D := D) (ci := 2) (v := .ref (q 4)) (C := RProposers) (T := TProposers) (N := 6) hx hb hts (fun w h => mc (uProposers_in w h)) hown hK hP 0 rfl rfl 1 (by decide) (hts _ (mc wd47)) (fun _ h9 => h9) rfl dProposers_phase_1 ?_
  refine lv_iload_n hx hb dProposers_phase_4 rfl (lv_at hl 1 rfl) ?_
  refine ka_ld (v := f1 k) hx hb hK hP 1 0 rfl rfl (by omega) (by omega) rfl dProposers_phase_5 ?_
  exact W.iret (v := f1 k) hx hb hr (fun t9 ht9 hW9 => ⟨⟨f1 k, (wPr q cI n L f1 f2 f3 f4 f5), rfl, ⟨rfl, rfl⟩, by rw [ht9]; exact hP, va_K.moved hW9.alike hK, hD⟩, hS.F ht9⟩) hS.2.2 dProposers_phase_6
theorem dProposers_lastBallot_0 : decode cProposers_lastBallot 0 = .ok (.aload_n 0, 1) := by decide +kernel
theorem dProposers_lastBallot_1 : decode cProposers_lastBallot 1 = .ok (.getfield 19, 3) := by decide +kernel
theorem dProposers_lastBallot_4 : decode cProposers_lastBallot 4 = .ok (.iload_n 1, 1) := by decide +kernel
theorem dProposers_lastBallot_5 : decode cProposers_lastBallot 5 = .ok (.iaload, 1) := by decide +kernel
theorem dProposers_lastBallot_6 : decode cProposers_lastBallot 6 = .ok (.ireturn, 1) := by decide +kernel
set_option maxRecDepth 100000 in
set_option maxHeartbeats 4000000 in
theorem c_pr_lastBallot (l : Launch) (D : va_G) (cI cZ : ClassId) (q : Nat → Nat) (n : Nat) (L : Nat) (f1 : Nat → Int32) (f2 : Nat → Int32) (f3 : Nat → Int32) (f4 : Nat → Int32) (f5 : Nat → Int32) (k : Nat) (hL20 : L ≤ 20) (hkL : k < L) : MI l D [(cI, .int), (cZ, .boolean)] yProposers_lastBallot wsProposers_lastBallot ({ frames := 0, cells := 0, slots := 0, locals := 0 }) [.ref (q 3), .int (nI k)] (wPr q cI n L f1 f2 f3 f4 f5) (fun r w => r = f2 k ∧ w = (wPr q cI n L f1 f2 f3 f4 f5)) := by
  intro sz
  refine Met.ofW (cc := cProposers_lastBallot) (maxL := 2) (ret := (Option.some .int)) (by decide) rfl ?_
  intro p e s m args below meth c s₁ B hml hv
  obtain ⟨rfl, hsz, hP, hK, hD0, hZ⟩ := hv
  have hx := B.exec
  have hb := B.bytes
  have hr := B.returns
  have hts := atoms_spec (ws := wsProposers_lastBallot) B.pre
  have hown : s.vm.findClass RProposers = some m.cls := findClass_of_methodNamed B.named
  have hlocks := B.notSynchronized
  subst hsz
  have hD := hD0.self (sz := s.heap.size)
  generalize hAe : va_A (wPr q cI n L f1 f2 f3 f4 f5) s.heap.size = A at hD ⊢
  have hA : ∀ q : Nat, s.heap.size ≤ q → A q := fun q h => by rw [← hAe]; exact Or.inr h
  have hS : va_S A s.heap s.heap [] := va_S.rf
  have hP : va_P D vwCl (wPr q cI n L f1 f2 f3 f4 f5) s.heap := hP
  have hl := lv_entry ([.ref (q 3), .int (nI k)]) (n := 2) (Nat.le_of_ble_eq_true rfl)
  rw [lg_entry_eq]
  generalize (lg_sl ([.ref (q 3), .int (nI k)]) ++ List.replicate (2 - (lg_sl ([.ref (q 3), .int (nI k)])).length) Slot.unset).toArray = ls at hl ⊢
  have hl : lv_has ls 2 [(0, .ref (q 3)), (1, .int (nI k))] := hl
  refine lv_aload_n hx hb dProposers_lastBallot_0 rfl (lv_at hl 0 rfl) ?_
  refine va_get (D := D) (ci := 2) (v := .ref (q 5)) (C := RProposers) (T := TProposers) (N := 6) hx hb hts (fun w h => mc (uProposers_in w h)) hown hK hP 0 rfl rfl 2 (by decide) (hts _ (mc wd48)) (fun _ h9 => h9) rfl dProposers_lastBallot_1 ?_
  refine lv_iload_n hx hb dProposers_lastBallot_4 rfl (lv_at hl 1 rfl) ?_
  refine ka_ld (v := f2 k) hx hb hK hP 2 0 rfl rfl (by omega) (by omega) rfl dProposers_lastBallot_5 ?_
  exact W.iret (v := f2 k) hx hb hr (fun t9 ht9 hW9 => ⟨⟨f2 k, (wPr q cI n L f1 f2 f3 f4 f5), rfl, ⟨rfl, rfl⟩, by rw [ht9]; exact hP, va_K.moved hW9.alike hK, hD⟩, hS.F ht9⟩) hS.2.2 dProposers_lastBallot_6
theorem dProposers_bestBallot_0 : decode cProposers_bestBallot 0 = .ok (.aload_n 0, 1) := by decide +kernel
theorem dProposers_bestBallot_1 : decode cProposers_bestBallot 1 = .ok (.getfield 25, 3) := by decide +kernel
theorem dProposers_bestBallot_4 : decode cProposers_bestBallot 4 = .ok (.iload_n 1, 1) := by decide +kernel
theorem dProposers_bestBallot_5 : decode cProposers_bestBallot 5 = .ok (.iaload, 1) := by decide +kernel
theorem dProposers_bestBallot_6 : decode cProposers_bestBallot 6 = .ok (.ireturn, 1) := by decide +kernel
set_option maxRecDepth 100000 in
set_option maxHeartbeats 4000000 in
theorem c_pr_bestBallot (l : Launch) (D : va_G) (cI cZ : ClassId) (q : Nat → Nat) (n : Nat) (L : Nat) (f1 : Nat → Int32) (f2 : Nat → Int32) (f3 : Nat → Int32) (f4 : Nat → Int32) (f5 : Nat → Int32) (k : Nat) (hL20 : L ≤ 20) (hkL : k < L) : MI l D [(cI, .int), (cZ, .boolean)] yProposers_bestBallot wsProposers_bestBallot ({ frames := 0, cells := 0, slots := 0, locals := 0 }) [.ref (q 3), .int (nI k)] (wPr q cI n L f1 f2 f3 f4 f5) (fun r w => r = f4 k ∧ w = (wPr q cI n L f1 f2 f3 f4 f5)) := by
  intro sz
  refine Met.ofW (cc := cProposers_bestBallot) (maxL := 2) (ret := (Option.some .int)) (by decide) rfl ?_
  intro p e s m args below meth c s₁ B hml hv
  obtain ⟨rfl, hsz, hP, hK, hD0, hZ⟩ := hv
  have hx := B.exec
  have hb := B.bytes
  have hr := B.returns
  have hts := atoms_spec (ws := wsProposers_bestBallot) B.pre
  have hown : s.vm.findClass RProposers = some m.cls := findClass_of_methodNamed B.named
  have hlocks := B.notSynchronized
  subst hsz
  have hD := hD0.self (sz := s.heap.size)
  generalize hAe : va_A (wPr q cI n L f1 f2 f3 f4 f5) s.heap.size = A at hD ⊢
  have hA : ∀ q : Nat, s.heap.size ≤ q → A q := fun q h => by rw [← hAe]; exact Or.inr h
  have hS : va_S A s.heap s.heap [] := va_S.rf
  have hP : va_P D vwCl (wPr q cI n L f1 f2 f3 f4 f5) s.heap := hP
  have hl := lv_entry ([.ref (q 3), .int (nI k)]) (n := 2) (Nat.le_of_ble_eq_true rfl)
  rw [lg_entry_eq]
  generalize (lg_sl ([.ref (q 3), .int (nI k)]) ++ List.replicate (2 - (lg_sl ([.ref (q 3), .int (nI k)])).length) Slot.unset).toArray = ls at hl ⊢
  have hl : lv_has ls 2 [(0, .ref (q 3)), (1, .int (nI k))] := hl
  refine lv_aload_n hx hb dProposers_bestBallot_0 rfl (lv_at hl 0 rfl) ?_
  refine va_get (D := D) (ci := 2) (v := .ref (q 7)) (C := RProposers) (T := TProposers) (N := 6) hx hb hts (fun w h => mc (uProposers_in w h)) hown hK hP 0 rfl rfl 4 (by decide) (hts _ (mc wd50)) (fun _ h9 => h9) rfl dProposers_bestBallot_1 ?_
  refine lv_iload_n hx hb dProposers_bestBallot_4 rfl (lv_at hl 1 rfl) ?_
  refine ka_ld (v := f4 k) hx hb hK hP 4 0 rfl rfl (by omega) (by omega) rfl dProposers_bestBallot_5 ?_
  exact W.iret (v := f4 k) hx hb hr (fun t9 ht9 hW9 => ⟨⟨f4 k, (wPr q cI n L f1 f2 f3 f4 f5), rfl, ⟨rfl, rfl⟩, by rw [ht9]; exact hP, va_K.moved hW9.alike hK, hD⟩, hS.F ht9⟩) hS.2.2 dProposers_bestBallot_6
theorem dProposers_value_0 : decode cProposers_value 0 = .ok (.aload_n 0, 1) := by decide +kernel
theorem dProposers_value_1 : decode cProposers_value 1 = .ok (.getfield 28, 3) := by decide +kernel
theorem dProposers_value_4 : decode cProposers_value 4 = .ok (.iload_n 1, 1) := by decide +kernel
theorem dProposers_value_5 : decode cProposers_value 5 = .ok (.iaload, 1) := by decide +kernel
theorem dProposers_value_6 : decode cProposers_value 6 = .ok (.ireturn, 1) := by decide +kernel
set_option maxRecDepth 100000 in
set_option maxHeartbeats 4000000 in
theorem c_pr_value (l : Launch) (D : va_G) (cI cZ : ClassId) (q : Nat → Nat) (n : Nat) (L : Nat) (f1 : Nat → Int32) (f2 : Nat → Int32) (f3 : Nat → Int32) (f4 : Nat → Int32) (f5 : Nat → Int32) (k : Nat) (hL20 : L ≤ 20) (hkL : k < L) : MI l D [(cI, .int), (cZ, .boolean)] yProposers_value wsProposers_value ({ frames := 0, cells := 0, slots := 0, locals := 0 }) [.ref (q 3), .int (nI k)] (wPr q cI n L f1 f2 f3 f4 f5) (fun r w => r = f5 k ∧ w = (wPr q cI n L f1 f2 f3 f4 f5)) := by
  intro sz
  refine Met.ofW (cc := cProposers_value) (maxL := 2) (ret := (Option.some .int)) (by decide) rfl ?_
  intro p e s m args below meth c s₁ B hml hv
  obtain ⟨rfl, hsz, hP, hK, hD0, hZ⟩ := hv
  have hx := B.exec
  have hb := B.bytes
  have hr := B.returns
  have hts := atoms_spec (ws := wsProposers_value) B.pre
  have hown : s.vm.findClass RProposers = some m.cls := findClass_of_methodNamed B.named
  have hlocks := B.notSynchronized
  subst hsz
  have hD := hD0.self (sz := s.heap.size)
  generalize hAe : va_A (wPr q cI n L f1 f2 f3 f4 f5) s.heap.size = A at hD ⊢
  have hA : ∀ q : Nat, s.heap.size ≤ q → A q := fun q h => by rw [← hAe]; exact Or.inr h
  have hS : va_S A s.heap s.heap [] := va_S.rf
  have hP : va_P D vwCl (wPr q cI n L f1 f2 f3 f4 f5) s.heap := hP
  have hl := lv_entry ([.ref (q 3), .int (nI k)]) (n := 2) (Nat.le_of_ble_eq_true rfl)
  rw [lg_entry_eq]
  generalize (lg_sl ([.ref (q 3), .int (nI k)]) ++ List.replicate (2 - (lg_sl ([.ref (q 3), .int (nI k)])).length) Slot.unset).toArray = ls at hl ⊢
  have hl : lv_has ls 2 [(0, .ref (q 3)), (1, .int (nI k))] := hl
  refine lv_aload_n hx hb dProposers_value_0 rfl (lv_at hl 0 rfl) ?_
  refine va_get (D := D) (ci := 2) (v := .ref (q 8)) (C := RProposers) (T := TProposers) (N := 6) hx hb hts (fun w h => mc (uProposers_in w h)) hown hK hP 0 rfl rfl 5 (by decide) (hts _ (mc wd51)) (fun _ h9 => h9) rfl dProposers_value_1 ?_
  refine lv_iload_n hx hb dProposers_value_4 rfl (lv_at hl 1 rfl) ?_
  refine ka_ld (v := f5 k) hx hb hK hP 5 0 rfl rfl (by omega) (by omega) rfl dProposers_value_5 ?_
  exact W.iret (v := f5 k) hx hb hr (fun t9 ht9 hW9 => ⟨⟨f5 k, (wPr q cI n L f1 f2 f3 f4 f5), rfl, ⟨rfl, rfl⟩, by rw [ht9]; exact hP, va_K.moved hW9.alike hK, hD⟩, hS.F ht9⟩) hS.2.2 dProposers_value_6
theorem dProposers_begin_0 : decode cProposers_begin 0 = .ok (.aload_n 0, 1) := by decide +kernel
theorem dProposers_begin_1 : decode cProposers_begin 1 = .ok (.getfield 15, 3) := by decide +kernel
theorem dProposers_begin_4 : decode cProposers_begin 4 = .ok (.iload_n 1, 1) := by decide +kernel
theorem dProposers_begin_5 : decode cProposers_begin 5 = .ok (.iconst 1, 1) := by decide +kernel
theorem dProposers_begin_6 : decode cProposers_begin 6 = .ok (.iastore, 1) := by decide +kernel
theorem dProposers_begin_7 : decode cProposers_begin 7 = .ok (.aload_n 0, 1) := by decide +kernel
theorem dProposers_begin_8 : decode cProposers_begin 8 = .ok (.getfield 19, 3) := by decide +kernel
theorem dProposers_begin_11 : decode cProposers_begin 11 = .ok (.iload_n 1, 1) := by decide +kernel
theorem dProposers_begin_12 : decode cProposers_begin 12 = .ok (.iload_n 2, 1) := by decide +kernel
theorem dProposers_begin_13 : decode cProposers_begin 13 = .ok (.iastore, 1) := by decide +kernel
theorem dProposers_begin_14 : decode cProposers_begin 14 = .ok (.aload_n 0, 1) := by decide +kernel
theorem dProposers_begin_15 : decode cProposers_begin 15 = .ok (.getfield 22, 3) := by decide +kernel
theorem dProposers_begin_18 : decode cProposers_begin 18 = .ok (.iload_n 1, 1) := by decide +kernel
theorem dProposers_begin_19 : decode cProposers_begin 19 = .ok (.iconst 0, 1) := by decide +kernel
theorem dProposers_begin_20 : decode cProposers_begin 20 = .ok (.iastore, 1) := by decide +kernel
theorem dProposers_begin_21 : decode cProposers_begin 21 = .ok (.aload_n 0, 1) := by decide +kernel
theorem dProposers_begin_22 : decode cProposers_begin 22 = .ok (.getfield 25, 3) := by decide +kernel
theorem dProposers_begin_25 : decode cProposers_begin 25 = .ok (.iload_n 1, 1) := by decide +kernel
theorem dProposers_begin_26 : decode cProposers_begin 26 = .ok (.iconst (-1), 1) := by decide +kernel
theorem dProposers_begin_27 : decode cProposers_begin 27 = .ok (.iastore, 1) := by decide +kernel
theorem dProposers_begin_28 : decode cProposers_begin 28 = .ok (.aload_n 0, 1) := by decide +kernel
theorem dProposers_begin_29 : decode cProposers_begin 29 = .ok (.getfield 28, 3) := by decide +kernel
theorem dProposers_begin_32 : decode cProposers_begin 32 = .ok (.iload_n 1, 1) := by decide +kernel
theorem dProposers_begin_33 : decode cProposers_begin 33 = .ok (.iload_n 3, 1) := by decide +kernel
theorem dProposers_begin_34 : decode cProposers_begin 34 = .ok (.iastore, 1) := by decide +kernel
theorem dProposers_begin_35 : decode cProposers_begin 35 = .ok (.return_, 1) := by decide +kernel
set_option maxRecDepth 100000 in
set_option maxHeartbeats 4000000 in
theorem c_begin (l : Launch) (D : va_G) (cI cZ : ClassId) (q : Nat → Nat) (n : Nat) (L : Nat) (f1 : Nat → Int32) (f2 : Nat → Int32) (f3 : Nat → Int32) (f4 : Nat → Int32) (f5 : Nat → Int32) (k : Nat) (b : Int32) (v : Int32) (hL20 : L ≤ 20) (hkL : k < L) : MV l D [(cI, .int), (cZ, .boolean)] yProposers_begin wsProposers_begin ({ frames := 0, cells := 0, slots := 0, locals := 0 }) [.ref (q 3), .int (nI k), .int b, .int v] (wPr q cI n L f1 f2 f3 f4 f5) (fun w => w = (wPr q cI n L (upd f1 k (nI 1)) (upd f2 k b) (upd f3 k (nI 0)) (upd f4 k (-1)) (upd f5 k v))) := by
  intro sz
  refine Met.ofW (cc := cProposers_begin) (maxL := 4) (ret := (Option.none : Option ClassFile.FieldType)) (by decide) rfl ?_
  intro p e s m args below meth c s₁ B hml hv
  obtain ⟨rfl, hsz, hP, hK, hD0, hZ⟩ := hv
  have hx := B.exec
  have hb := B.bytes
  have hr := B.returns
  have hts := atoms_spec (ws := wsProposers_begin) B.pre
  have hown : s.vm.findClass RProposers = some m.cls := findClass_of_methodNamed B.named
  have hlocks := B.notSynchronized
  subst hsz
  have hD := hD0.self (sz := s.heap.size)
  generalize hAe : va_A (wPr q cI n L f1 f2 f3 f4 f5) s.heap.size = A at hD ⊢
  have hA : ∀ q : Nat, s.heap.size ≤ q → A q := fun q h => by rw [← hAe]; exact Or.inr h
  have hS : va_S A s.heap s.heap [] := va_S.rf
  have hP : va_P D vwCl (wPr q cI n L f1 f2 f3 f4 f5) s.heap := hP
  have hl := lv_entry ([.ref (q 3), .int (nI k), .int b, .int v]) (n := 4) (Nat.le_of_ble_eq_true rfl)
  rw [lg_entry_eq]
  generalize (lg_sl ([.ref (q 3), .int (nI k), .int b, .int v]) ++ List.replicate (4 - (lg_sl ([.ref (q 3), .int (nI k), .int b, .int v])).length) Slot.unset).toArray = ls at hl ⊢
  have hl : lv_has ls 4 [(0, .ref (q 3)), (1, .int (nI k)), (2, .int b), (3, .int v)] := hl
  refine lv_aload_n hx hb dProposers_begin_0 rfl (lv_at hl 0 rfl) ?_
  refine va_get (D := D) (ci := 2) (v := .ref (q 4)) (C := RProposers) (T := TProposers) (N := 6) hx hb hts (fun w h => mc (uProposers_in w h)) hown hK hP 0 rfl rfl 1 (by decide) (hts _ (mc wd47)) (fun _ h9 => h9) rfl dProposers_begin_1 ?_
  refine lv_iload_n hx hb dProposers_begin_4 rfl (lv_at hl 1 rfl) ?_
  refine lv_iconst (v := nI 1) hx hb dProposers_begin_5 (by decide) ?_
  refine ka_st (f' := upd f1 k (nI 1)) hx hb hK hP hD hS 1 0 rfl rfl (by omega) (by omega) rfl dProposers_begin_6 (fun H locs hP hD hS => ?_)
  have hP : va_P D vwCl (wPr q cI n L (upd f1 k (nI 1)) f2 f3 f4 f5) H := hP
  have hD : va_D A (wPr q cI n L (upd f1 k (nI 1)) f2 f3 f4 f5) := hD
  refine lv_aload_n hx hb dProposers_begin_7 rfl (lv_at hl 0 rfl) ?_
  refine va_get (D := D) (ci := 2) (v := .ref (q 5)) (C := RProposers) (T := TProposers) (N := 6) hx hb hts (fun w h => mc (uProposers_in w h)) hown hK hP 0 rfl rfl 2 (by decide) (hts _ (mc wd48)) (fun _ h9 => h9) rfl dProposers_begin_8 ?_
  refine lv_iload_n hx hb dProposers_begin_11 rfl (lv_at hl 1 rfl) ?_
  refine lv_iload_n hx hb dProposers_begin_12 rfl (lv_at hl 2 rfl) ?_
  refine ka_st (f' := upd f2 k b) hx hb hK hP hD hS 2 0 rfl rfl (by omega) (by omega) rfl dProposers_begin_13 (fun H locs hP hD hS => ?_)
  have hP : va_P D vwCl (wPr q cI n L (upd f1 k (nI 1)) (upd f2 k b) f3 f4 f5) H := hP
  have hD : va_D A (wPr q cI n L (upd f1 k (nI 1)) (upd f2 k b) f3 f4 f5) := hD
  refine lv_aload_n hx hb dProposers_begin_14 rfl (lv_at hl 0 rfl) ?_
  refine va_get (D := D) (ci := 2) (v := .ref (q 6)) (C := RProposers) (T := TProposers) (N := 6) hx hb hts (fun w h => mc (uProposers_in w h)) hown hK hP 0 rfl rfl 3 (by decide) (hts _ (mc wd49)) (fun _ h9 => h9) rfl dProposers_begin_15 ?_
  refine lv_iload_n hx hb dProposers_begin_18 rfl (lv_at hl 1 rfl) ?_
  refine lv_iconst (v := nI 0) hx hb dProposers_begin_19 (by decide) ?_
  refine ka_st (f' := upd f3 k (nI 0)) hx hb hK hP hD hS 3 0 rfl rfl (by omega) (by omega) rfl dProposers_begin_20 (fun H locs hP hD hS => ?_)
  have hP : va_P D vwCl (wPr q cI n L (upd f1 k (nI 1)) (upd f2 k b) (upd f3 k (nI 0)) f4 f5) H := hP
  have hD : va_D A (wPr q cI n L (upd f1 k (nI 1)) (upd f2 k b) (upd f3 k (nI 0)) f4 f5) := hD
  refine lv_aload_n hx hb dProposers_begin_21 rfl (lv_at hl 0 rfl) ?_
  refine va_get (D := D) (ci := 2) (v := .ref (q 7)) (C := RProposers) (T := TProposers) (N := 6) hx hb hts (fun w h => mc (uProposers_in w h)) hown hK hP 0 rfl rfl 4 (by decide) (hts _ (mc wd50)) (fun _ h9 => h9) rfl dProposers_begin_22 ?_
  refine lv_iload_n hx hb dProposers_begin_25 rfl (lv_at hl 1 rfl) ?_
  refine lv_iconst (v := (-1)) hx hb dProposers_begin_26 (by decide) ?_
  refine ka_st (f' := upd f4 k (-1)) hx hb hK hP hD hS 4 0 rfl rfl (by omega) (by omega) rfl dProposers_begin_27 (fun H locs hP hD hS => ?_)
  have hP : va_P D vwCl (wPr q cI n L (upd f1 k (nI 1)) (upd f2 k b) (upd f3 k (nI 0)) (upd f4 k (-1)) f5) H := hP
  have hD : va_D A (wPr q cI n L (upd f1 k (nI 1)) (upd f2 k b) (upd f3 k (nI 0)) (upd f4 k (-1)) f5) := hD
  refine lv_aload_n hx hb dProposers_begin_28 rfl (lv_at hl 0 rfl) ?_
  refine va_get (D := D) (ci := 2) (v := .ref (q 8)) (C := RProposers) (T := TProposers) (N := 6) hx hb hts (fun w h => mc (uProposers_in w h)) hown hK hP 0 rfl rfl 5 (by decide) (hts _ (mc wd51)) (fun _ h9 => h9) rfl dProposers_begin_29 ?_
  refine lv_iload_n hx hb dProposers_begin_32 rfl (lv_at hl 1 rfl) ?_
  refine lv_iload_n hx hb dProposers_begin_33 rfl (lv_at hl 3 rfl) ?_
  refine ka_st (f' := upd f5 k v) hx hb hK hP hD hS 5 0 rfl rfl (by omega) (by omega) rfl dProposers_begin_34 (fun H locs hP hD hS => ?_)
  have hP : va_P D vwCl (wPr q cI n L (upd f1 k (nI 1)) (upd f2 k b) (upd f3 k (nI 0)) (upd f4 k (-1)) (upd f5 k v)) H := hP
  have hD : va_D A (wPr q cI n L (upd f1 k (nI 1)) (upd f2 k b) (upd f3 k (nI 0)) (upd f4 k (-1)) (upd f5 k v)) := hD
  exact W.vret hx hb hr (fun t9 ht9 hW9 => ⟨⟨(wPr q cI n L (upd f1 k (nI 1)) (upd f2 k b) (upd f3 k (nI 0)) (upd f4 k (-1)) (upd f5 k v)), rfl, rfl, by rw [ht9]; exact hP, va_K.moved hW9.alike hK, hD⟩, hS.F ht9⟩) hS.2.2 dProposers_begin_35
theorem dProposers_comeBack_0 : decode cProposers_comeBack 0 = .ok (.aload_n 0, 1) := by decide +kernel
theorem dProposers_comeBack_1 : decode cProposers_comeBack 1 = .ok (.getfield 15, 3) := by decide +kernel
theorem dProposers_comeBack_4 : decode cProposers_comeBack 4 = .ok (.iload_n 1, 1) := by decide +kernel
theorem dProposers_comeBack_5 : decode cProposers_comeBack 5 = .ok (.iconst 0, 1) := by decide +kernel
theorem dProposers_comeBack_6 : decode cProposers_comeBack 6 = .ok (.iastore, 1) := by decide +kernel
theorem dProposers_comeBack_7 : decode cProposers_comeBack 7 = .ok (.aload_n 0, 1) := by decide +kernel
theorem dProposers_comeBack_8 : decode cProposers_comeBack 8 = .ok (.getfield 22, 3) := by decide +kernel
theorem dProposers_comeBack_11 : decode cProposers_comeBack 11 = .ok (.iload_n 1, 1) := by decide +kernel
theorem dProposers_comeBack_12 : decode cProposers_comeBack 12 = .ok (.iconst 0, 1) := by decide +kernel
theorem dProposers_comeBack_13 : decode cProposers_comeBack 13 = .ok (.iastore, 1) := by decide +kernel
theorem dProposers_comeBack_14 : decode cProposers_comeBack 14 = .ok (.aload_n 0, 1) := by decide +kernel
theorem dProposers_comeBack_15 : decode cProposers_comeBack 15 = .ok (.getfield 25, 3) := by decide +kernel
theorem dProposers_comeBack_18 : decode cProposers_comeBack 18 = .ok (.iload_n 1, 1) := by decide +kernel
theorem dProposers_comeBack_19 : decode cProposers_comeBack 19 = .ok (.iconst (-1), 1) := by decide +kernel
theorem dProposers_comeBack_20 : decode cProposers_comeBack 20 = .ok (.iastore, 1) := by decide +kernel
theorem dProposers_comeBack_21 : decode cProposers_comeBack 21 = .ok (.return_, 1) := by decide +kernel
set_option maxRecDepth 100000 in
set_option maxHeartbeats 4000000 in
theorem c_prBack (l : Launch) (D : va_G) (cI cZ : ClassId) (q : Nat → Nat) (n : Nat) (L : Nat) (f1 : Nat → Int32) (f2 : Nat → Int32) (f3 : Nat → Int32) (f4 : Nat → Int32) (f5 : Nat → Int32) (k : Nat) (hL20 : L ≤ 20) (hkL : k < L) : MV l D [(cI, .int), (cZ, .boolean)] yProposers_comeBack wsProposers_comeBack ({ frames := 0, cells := 0, slots := 0, locals := 0 }) [.ref (q 3), .int (nI k)] (wPr q cI n L f1 f2 f3 f4 f5) (fun w => w = (wPr q cI n L (upd f1 k (nI 0)) f2 (upd f3 k (nI 0)) (upd f4 k (-1)) f5)) := by
  intro sz
  refine Met.ofW (cc := cProposers_comeBack) (maxL := 2) (ret := (Option.none : Option ClassFile.FieldType)) (by decide) rfl ?_
  intro p e s m args below meth c s₁ B hml hv
  obtain ⟨rfl, hsz, hP, hK, hD0, hZ⟩ := hv
  have hx := B.exec
  have hb := B.bytes
  have hr := B.returns
  have hts := atoms_spec (ws := wsProposers_comeBack) B.pre
  have hown : s.vm.findClass RProposers = some m.cls := findClass_of_methodNamed B.named
  have hlocks := B.notSynchronized
  subst hsz
  have hD := hD0.self (sz := s.heap.size)
  generalize hAe : va_A (wPr q cI n L f1 f2 f3 f4 f5) s.heap.size = A at hD ⊢
  have hA : ∀ q : Nat, s.heap.size ≤ q → A q := fun q h => by rw [← hAe]; exact Or.inr h
  have hS : va_S A s.heap s.heap [] := va_S.rf
  have hP : va_P D vwCl (wPr q cI n L f1 f2 f3 f4 f5) s.heap := hP
  have hl := lv_entry ([.ref (q 3), .int (nI k)]) (n := 2) (Nat.le_of_ble_eq_true rfl)
  rw [lg_entry_eq]
  generalize (lg_sl ([.ref (q 3), .int (nI k)]) ++ List.replicate (2 - (lg_sl ([.ref (q 3), .int (nI k)])).length) Slot.unset).toArray = ls at hl ⊢
  have hl : lv_has ls 2 [(0, .ref (q 3)), (1, .int (nI k))] := hl
  refine lv_aload_n hx hb dProposers_comeBack_0 rfl (lv_at hl 0 rfl) ?_
  refine va_get (D := D) (ci := 2) (v := .ref (q 4)) (C := RProposers) (T := TProposers) (N := 6) hx hb hts (fun w h => mc (uProposers_in w h)) hown hK hP 0 rfl rfl 1 (by decide) (hts _ (mc wd47)) (fun _ h9 => h9) rfl dProposers_comeBack_1 ?_
  refine lv_iload_n hx hb dProposers_comeBack_4 rfl (lv_at hl 1 rfl) ?_
  refine lv_iconst (v := nI 0) hx hb dProposers_comeBack_5 (by decide) ?_
  refine ka_st (f' := upd f1 k (nI 0)) hx hb hK hP hD hS 1 0 rfl rfl (by omega) (by omega) rfl dProposers_comeBack_6 (fun H locs hP hD hS => ?_)
  have hP : va_P D vwCl (wPr q cI n L (upd f1 k (nI 0)) f2 f3 f4 f5) H := hP
  have hD : va_D A (wPr q cI n L (upd f1 k (nI 0)) f2 f3 f4 f5) := hD
  refine lv_aload_n hx hb dProposers_comeBack_7 rfl (lv_at hl 0 rfl) ?_
  refine va_get (D := D) (ci := 2) (v := .ref (q 6)) (C := RProposers) (T := TProposers) (N := 6) hx hb hts (fun w h => mc (uProposers_in w h)) hown hK hP 0 rfl rfl 3 (by decide) (hts _ (mc wd49)) (fun _ h9 => h9) rfl dProposers_comeBack_8 ?_
  refine lv_iload_n hx hb dProposers_comeBack_11 rfl (lv_at hl 1 rfl) ?_
  refine lv_iconst (v := nI 0) hx hb dProposers_comeBack_12 (by decide) ?_
  refine ka_st (f' := upd f3 k (nI 0)) hx hb hK hP hD hS 3 0 rfl rfl (by omega) (by omega) rfl dProposers_comeBack_13 (fun H locs hP hD hS => ?_)
  have hP : va_P D vwCl (wPr q cI n L (upd f1 k (nI 0)) f2 (upd f3 k (nI 0)) f4 f5) H := hP
  have hD : va_D A (wPr q cI n L (upd f1 k (nI 0)) f2 (upd f3 k (nI 0)) f4 f5) := hD
  refine lv_aload_n hx hb dProposers_comeBack_14 rfl (lv_at hl 0 rfl) ?_
  refine va_get (D := D) (ci := 2) (v := .ref (q 7)) (C := RProposers) (T := TProposers) (N := 6) hx hb hts (fun w h => mc (uProposers_in w h)) hown hK hP 0 rfl rfl 4 (by decide) (hts _ (mc wd50)) (fun _ h9 => h9) rfl dProposers_comeBack_15 ?_
  refine lv_iload_n hx hb dProposers_comeBack_18 rfl (lv_at hl 1 rfl) ?_
  refine lv_iconst (v := (-1)) hx hb dProposers_comeBack_19 (by decide) ?_
  refine ka_st (f' := upd f4 k (-1)) hx hb hK hP hD hS 4 0 rfl rfl (by omega) (by omega) rfl dProposers_comeBack_20 (fun H locs hP hD hS => ?_)
  have hP : va_P D vwCl (wPr q cI n L (upd f1 k (nI 0)) f2 (upd f3 k (nI 0)) (upd f4 k (-1)) f5) H := hP
  have hD : va_D A (wPr q cI n L (upd f1 k (nI 0)) f2 (upd f3 k (nI 0)) (upd f4 k (-1)) f5) := hD
  exact W.vret hx hb hr (fun t9 ht9 hW9 => ⟨⟨(wPr q cI n L (upd f1 k (nI 0)) f2 (upd f3 k (nI 0)) (upd f4 k (-1)) f5), rfl, rfl, by rw [ht9]; exact hP, va_K.moved hW9.alike hK, hD⟩, hS.F ht9⟩) hS.2.2 dProposers_comeBack_21
theorem dProposers_awaits_0 : decode cProposers_awaits 0 = .ok (.aload_n 0, 1) := by decide +kernel
theorem dProposers_awaits_1 : decode cProposers_awaits 1 = .ok (.getfield 15, 3) := by decide +kernel
theorem dProposers_awaits_4 : decode cProposers_awaits 4 = .ok (.iload_n 1, 1) := by decide +kernel
theorem dProposers_awaits_5 : decode cProposers_awaits 5 = .ok (.iaload, 1) := by decide +kernel
theorem dProposers_awaits_6 : decode cProposers_awaits 6 = .ok (.iconst 1, 1) := by decide +kernel
theorem dProposers_awaits_7 : decode cProposers_awaits 7 = .ok (.if_icmp .ne 17, 3) := by decide +kernel
theorem dProposers_awaits_10 : decode cProposers_awaits 10 = .ok (.aload_n 0, 1) := by decide +kernel
theorem dProposers_awaits_11 : decode cProposers_awaits 11 = .ok (.getfield 19, 3) := by decide +kernel
theorem dProposers_awaits_14 : decode cProposers_awaits 14 = .ok (.iload_n 1, 1) := by decide +kernel
theorem dProposers_awaits_15 : decode cProposers_awaits 15 = .ok (.iaload, 1) := by decide +kernel
theorem dProposers_awaits_16 : decode cProposers_awaits 16 = .ok (.iload_n 2, 1) := by decide +kernel
theorem dProposers_awaits_17 : decode cProposers_awaits 17 = .ok (.if_icmp .ne 7, 3) := by decide +kernel
theorem dProposers_awaits_20 : decode cProposers_awaits 20 = .ok (.iconst 1, 1) := by decide +kernel
theorem dProposers_awaits_21 : decode cProposers_awaits 21 = .ok (.goto 4, 3) := by decide +kernel
theorem dProposers_awaits_24 : decode cProposers_awaits 24 = .ok (.iconst 0, 1) := by decide +kernel
theorem dProposers_awaits_25 : decode cProposers_awaits 25 = .ok (.ireturn, 1) := by decide +kernel
set_option maxRecDepth 100000 in
set_option maxHeartbeats 4000000 in
theorem c_awaits (l : Launch) (D : va_G) (cI cZ : ClassId) (q : Nat → Nat) (n : Nat) (L : Nat) (f1 : Nat → Int32) (f2 : Nat → Int32) (f3 : Nat → Int32) (f4 : Nat → Int32) (f5 : Nat → Int32) (k : Nat) (b : Int32) (hL20 : L ≤ 20) (hkL : k < L) : MI l D [(cI, .int), (cZ, .boolean)] yProposers_awaits wsProposers_awaits ({ frames := 0, cells := 0, slots := 0, locals := 0 }) [.ref (q 3), .int (nI k), .int b] (wPr q cI n L f1 f2 f3 f4 f5) (fun r w => (r = nI 1 ∧ (f1 k = nI 1 ∧ f2 k = b) ∧ w = (wPr q cI n L f1 f2 f3 f4 f5)) ∨ (r = nI 0 ∧ (¬ (f1 k = nI 1 ∧ f2 k = b)) ∧ w = (wPr q cI n L f1 f2 f3 f4 f5))) := by
  intro sz
  refine Met.ofW (cc := cProposers_awaits) (maxL := 3) (ret := (Option.some .boolean)) (by decide) rfl ?_
  intro p e s m args below meth c s₁ B hml hv
  obtain ⟨rfl, hsz, hP, hK, hD0, hZ⟩ := hv
  have hx := B.exec
  have hb := B.bytes
  have hr := B.returns
  have hts := atoms_spec (ws := wsProposers_awaits) B.pre
  have hown : s.vm.findClass RProposers = some m.cls := findClass_of_methodNamed B.named
  have hlocks := B.notSynchronized
  subst hsz
  have hD := hD0.self (sz := s.heap.size)
  generalize hAe : va_A (wPr q cI n L f1 f2 f3 f4 f5) s.heap.size = A at hD ⊢
  have hA : ∀ q : Nat, s.heap.size ≤ q → A q := fun q h => by rw [← hAe]; exact Or.inr h
  have hS : va_S A s.heap s.heap [] := va_S.rf
  have hP : va_P D vwCl (wPr q cI n L f1 f2 f3 f4 f5) s.heap := hP
  have hl := lv_entry ([.ref (q 3), .int (nI k), .int b]) (n := 3) (Nat.le_of_ble_eq_true rfl)
  rw [lg_entry_eq]
  generalize (lg_sl ([.ref (q 3), .int (nI k), .int b]) ++ List.replicate (3 - (lg_sl ([.ref (q 3), .int (nI k), .int b])).length) Slot.unset).toArray = ls at hl ⊢
  have hl : lv_has ls 3 [(0, .ref (q 3)), (1, .int (nI k)), (2, .int b)] := hl
  refine lv_aload_n hx hb dProposers_awaits_0 rfl (lv_at hl 0 rfl) ?_
  refine va_get (D := D) (ci := 2) (v := .ref (q 4)) (C := RProposers) (T := TProposers) (N := 6) hx hb hts (fun w h => mc (uProposers_in w h)) hown hK hP 0 rfl rfl 1 (by decide) (hts _ (mc wd47)) (fun _ h9 => h9) rfl dProposers_awaits_1 ?_
  refine lv_iload_n hx hb dProposers_awaits_4 rfl (lv_at hl 1 rfl) ?_
  refine ka_ld (v := f1 k) hx hb hK hP 1 0 rfl rfl (by omega) (by omega) rfl dProposers_awaits_5 ?_
  refine lv_iconst (v := nI 1) hx hb dProposers_awaits_6 (by decide) ?_
  refine lv_icmp_ne (tgt := 24) hx hb dProposers_awaits_7 (by decide) (fun c7 => ?_) (fun c7 => ?_)
  · refine lv_iconst (v := nI 0) hx hb dProposers_awaits_24 (by decide) ?_
    exact W.zret (v := nI 0) (ty := .boolean) hx hb hr (by decide) (fun t9 ht9 hW9 => ⟨⟨nI 0, (wPr q cI n L f1 f2 f3 f4 f5), rfl, Or.inr ⟨rfl, fun h => c7 h.1, rfl⟩, by rw [ht9]; exact hP, va_K.moved hW9.alike hK, hD⟩, hS.F ht9⟩) hS.2.2 dProposers_awaits_25
  · refine lv_aload_n hx hb dProposers_awaits_10 rfl (lv_at hl 0 rfl) ?_
    refine va_get (D := D) (ci := 2) (v := .ref (q 5)) (C := RProposers) (T := TProposers) (N := 6) hx hb hts (fun w h => mc (uProposers_in w h)) hown hK hP 0 rfl rfl 2 (by decide) (hts _ (mc wd48)) (fun _ h9 => h9) rfl dProposers_awaits_11 ?_
    refine lv_iload_n hx hb dProposers_awaits_14 rfl (lv_at hl 1 rfl) ?_
    refine ka_ld (v := f2 k) hx hb hK hP 2 0 rfl rfl (by omega) (by omega) rfl dProposers_awaits_15 ?_
    refine lv_iload_n hx hb dProposers_awaits_16 rfl (lv_at hl 2 rfl) ?_
    refine lv_icmp_ne (tgt := 24) hx hb dProposers_awaits_17 (by decide) (fun c17 => ?_) (fun c17 => ?_)
    · refine lv_iconst (v := nI 0) hx hb dProposers_awaits_24 (by decide) ?_
      exact W.zret (v := nI 0) (ty := .boolean) hx hb hr (by decide) (fun t9 ht9 hW9 => ⟨⟨nI 0, (wPr q cI n L f1 f2 f3 f4 f5), rfl, Or.inr ⟨rfl, fun h => c17 h.2, rfl⟩, by rw [ht9]; exact hP, va_K.moved hW9.alike hK, hD⟩, hS.F ht9⟩) hS.2.2 dProposers_awaits_25
    · refine lv_iconst (v := nI 1) hx hb dProposers_awaits_20 (by decide) ?_
      refine lv_goto (tgt := 25) hx hb dProposers_awaits_21 (by decide) ?_
      exact W.zret (v := nI 1) (ty := .boolean) hx hb hr (by decide) (fun t9 ht9 hW9 => ⟨⟨nI 1, (wPr q cI n L f1 f2 f3 f4 f5), rfl, Or.inl ⟨rfl, ⟨c7, c17⟩, rfl⟩, by rw [ht9]; exact hP, va_K.moved hW9.alike hK, hD⟩, hS.F ht9⟩) hS.2.2 dProposers_awaits_25
theorem dAcceptors_promisedBallot_0 : decode cAcceptors_promisedBallot 0 = .ok (.aload_n 0, 1) := by decide +kernel
theorem dAcceptors_promisedBallot_1 : decode cAcceptors_promisedBallot 1 = .ok (.getfield 18, 3) := by decide +kernel
theorem dAcceptors_promisedBallot_4 : decode cAcceptors_promisedBallot 4 = .ok (.iload_n 1, 1) := by decide +kernel
theorem dAcceptors_promisedBallot_5 : decode cAcceptors_promisedBallot 5 = .ok (.iaload, 1) := by decide +kernel
theorem dAcceptors_promisedBallot_6 : decode cAcceptors_promisedBallot 6 = .ok (.ireturn, 1) := by decide +kernel
set_option maxRecDepth 100000 in
set_option maxHeartbeats 4000000 in
theorem c_ac_promisedBallot (l : Launch) (D : va_G) (cI cZ : ClassId) (q : Nat → Nat) (n : Nat) (S : Nat) (L : Nat) (f6 : Nat → Int32) (f7 : Nat → Int32) (f8 : Nat → Int32) (k : Nat) (hL20 : L ≤ 20) (hkL : k < L) : MI l D [(cI, .int), (cZ, .boolean)] yAcceptors_promisedBallot wsAcceptors_promisedBallot ({ frames := 0, cells := 0, slots := 0, locals := 0 }) [.ref (q 9), .int (nI k)] (wAc q cI n S L f6 f7 f8) (fun r w => r = f6 k ∧ w = (wAc q cI n S L f6 f7 f8)) := by
  intro sz
  refine Met.ofW (cc := cAcceptors_promisedBallot) (maxL := 2) (ret := (Option.some .int)) (by decide) rfl ?_
  intro p e s m args below meth c s₁ B hml hv
  obtain ⟨rfl, hsz, hP, hK, hD0, hZ⟩ := hv
  have hx := B.exec
  have hb := B.bytes
  have hr := B.returns
  have hts := atoms_spec (ws := wsAcceptors_promisedBallot) B.pre
  have hown : s.vm.findClass RAcceptors = some m.cls := findClass_of_methodNamed B.named
  have hlocks := B.notSynchronized
  subst hsz
  have hD := hD0.self (sz := s.heap.size)
  generalize hAe : va_A (wAc q cI n S L f6 f7 f8) s.heap.size = A at hD ⊢
  have hA : ∀ q : Nat, s.heap.size ≤ q → A q := fun q h => by rw [← hAe]; exact Or.inr h
  have hS : va_S A s.heap s.heap [] := va_S.rf
  have hP : va_P D vwCl (wAc q cI n S L f6 f7 f8) s.heap := hP
  have hl := lv_entry ([.ref (q 9), .int (nI k)]) (n := 2) (Nat.le_of_ble_eq_true rfl)
  rw [lg_entry_eq]
  generalize (lg_sl ([.ref (q 9), .int (nI k)]) ++ List.replicate (2 - (lg_sl ([.ref (q 9), .int (nI k)])).length) Slot.unset).toArray = ls at hl ⊢
  have hl : lv_has ls 2 [(0, .ref (q 9)), (1, .int (nI k))] := hl
  refine lv_aload_n hx hb dAcceptors_promisedBallot_0 rfl (lv_at hl 0 rfl) ?_
  refine va_get (D := D) (ci := 3) (v := .ref (q 10)) (C := RAcceptors) (T := TAcceptors) (N := 5) hx hb hts (fun w h => mc (uAcceptors_in w h)) hown hK hP 0 rfl rfl 2 (by decide) (hts _ (mc wd74)) (fun _ h9 => h9) rfl dAcceptors_promisedBallot_1 ?_
  refine lv_iload_n hx hb dAcceptors_promisedBallot_4 rfl (lv_at hl 1 rfl) ?_
  refine ka_ld (v := f6 k) hx hb hK hP 1 0 rfl rfl (by omega) (by omega) rfl dAcceptors_promisedBallot_5 ?_
  exact W.iret (v := f6 k) hx hb hr (fun t9 ht9 hW9 => ⟨⟨f6 k, (wAc q cI n S L f6 f7 f8), rfl, ⟨rfl, rfl⟩, by rw [ht9]; exact hP, va_K.moved hW9.alike hK, hD⟩, hS.F ht9⟩) hS.2.2 dAcceptors_promisedBallot_6
theorem dAcceptors_acceptedBallot_0 : decode cAcceptors_acceptedBallot 0 = .ok (.aload_n 0, 1) := by decide +kernel
theorem dAcceptors_acceptedBallot_1 : decode cAcceptors_acceptedBallot 1 = .ok (.getfield 22, 3) := by decide +kernel
theorem dAcceptors_acceptedBallot_4 : decode cAcceptors_acceptedBallot 4 = .ok (.iload_n 1, 1) := by decide +kernel
theorem dAcceptors_acceptedBallot_5 : decode cAcceptors_acceptedBallot 5 = .ok (.iaload, 1) := by decide +kernel
theorem dAcceptors_acceptedBallot_6 : decode cAcceptors_acceptedBallot 6 = .ok (.ireturn, 1) := by decide +kernel
set_option maxRecDepth 100000 in
set_option maxHeartbeats 4000000 in
theorem c_ac_acceptedBallot (l : Launch) (D : va_G) (cI cZ : ClassId) (q : Nat → Nat) (n : Nat) (S : Nat) (L : Nat) (f6 : Nat → Int32) (f7 : Nat → Int32) (f8 : Nat → Int32) (k : Nat) (hL20 : L ≤ 20) (hkL : k < L) : MI l D [(cI, .int), (cZ, .boolean)] yAcceptors_acceptedBallot wsAcceptors_acceptedBallot ({ frames := 0, cells := 0, slots := 0, locals := 0 }) [.ref (q 9), .int (nI k)] (wAc q cI n S L f6 f7 f8) (fun r w => r = f7 k ∧ w = (wAc q cI n S L f6 f7 f8)) := by
  intro sz
  refine Met.ofW (cc := cAcceptors_acceptedBallot) (maxL := 2) (ret := (Option.some .int)) (by decide) rfl ?_
  intro p e s m args below meth c s₁ B hml hv
  obtain ⟨rfl, hsz, hP, hK, hD0, hZ⟩ := hv
  have hx := B.exec
  have hb := B.bytes
  have hr := B.returns
  have hts := atoms_spec (ws := wsAcceptors_acceptedBallot) B.pre
  have hown : s.vm.findClass RAcceptors = some m.cls := findClass_of_methodNamed B.named
  have hlocks := B.notSynchronized
  subst hsz
  have hD := hD0.self (sz := s.heap.size)
  generalize hAe : va_A (wAc q cI n S L f6 f7 f8) s.heap.size = A at hD ⊢
  have hA : ∀ q : Nat, s.heap.size ≤ q → A q := fun q h => by rw [← hAe]; exact Or.inr h
  have hS : va_S A s.heap s.heap [] := va_S.rf
  have hP : va_P D vwCl (wAc q cI n S L f6 f7 f8) s.heap := hP
  have hl := lv_entry ([.ref (q 9), .int (nI k)]) (n := 2) (Nat.le_of_ble_eq_true rfl)
  rw [lg_entry_eq]
  generalize (lg_sl ([.ref (q 9), .int (nI k)]) ++ List.replicate (2 - (lg_sl ([.ref (q 9), .int (nI k)])).length) Slot.unset).toArray = ls at hl ⊢
  have hl : lv_has ls 2 [(0, .ref (q 9)), (1, .int (nI k))] := hl
  refine lv_aload_n hx hb dAcceptors_acceptedBallot_0 rfl (lv_at hl 0 rfl) ?_
  refine va_get (D := D) (ci := 3) (v := .ref (q 11)) (C := RAcceptors) (T := TAcceptors) (N := 5) hx hb hts (fun w h => mc (uAcceptors_in w h)) hown hK hP 0 rfl rfl 3 (by decide) (hts _ (mc wd75)) (fun _ h9 => h9) rfl dAcceptors_acceptedBallot_1 ?_
  refine lv_iload_n hx hb dAcceptors_acceptedBallot_4 rfl (lv_at hl 1 rfl) ?_
  refine ka_ld (v := f7 k) hx hb hK hP 2 0 rfl rfl (by omega) (by omega) rfl dAcceptors_acceptedBallot_5 ?_
  exact W.iret (v := f7 k) hx hb hr (fun t9 ht9 hW9 => ⟨⟨f7 k, (wAc q cI n S L f6 f7 f8), rfl, ⟨rfl, rfl⟩, by rw [ht9]; exact hP, va_K.moved hW9.alike hK, hD⟩, hS.F ht9⟩) hS.2.2 dAcceptors_acceptedBallot_6
theorem dAcceptors_acceptedValue_0 : decode cAcceptors_acceptedValue 0 = .ok (.aload_n 0, 1) := by decide +kernel
theorem dAcceptors_acceptedValue_1 : decode cAcceptors_acceptedValue 1 = .ok (.getfield 25, 3) := by decide +kernel
theorem dAcceptors_acceptedValue_4 : decode cAcceptors_acceptedValue 4 = .ok (.iload_n 1, 1) := by decide +kernel
theorem dAcceptors_acceptedValue_5 : decode cAcceptors_acceptedValue 5 = .ok (.iaload, 1) := by decide +kernel
theorem dAcceptors_acceptedValue_6 : decode cAcceptors_acceptedValue 6 = .ok (.ireturn, 1) := by decide +kernel
set_option maxRecDepth 100000 in
set_option maxHeartbeats 4000000 in
theorem c_ac_acceptedValue (l : Launch) (D : va_G) (cI cZ : ClassId) (q : Nat → Nat) (n : Nat) (S : Nat) (L : Nat) (f6 : Nat → Int32) (f7 : Nat → Int32) (f8 : Nat → Int32) (k : Nat) (hL20 : L ≤ 20) (hkL : k < L) : MI l D [(cI, .int), (cZ, .boolean)] yAcceptors_acceptedValue wsAcceptors_acceptedValue ({ frames := 0, cells := 0, slots := 0, locals := 0 }) [.ref (q 9), .int (nI k)] (wAc q cI n S L f6 f7 f8) (fun r w => r = f8 k ∧ w = (wAc q cI n S L f6 f7 f8)) := by
  intro sz
  refine Met.ofW (cc := cAcceptors_acceptedValue) (maxL := 2) (ret := (Option.some .int)) (by decide) rfl ?_
  intro p e s m args below meth c s₁ B hml hv
  obtain ⟨rfl, hsz, hP, hK, hD0, hZ⟩ := hv
  have hx := B.exec
  have hb := B.bytes
  have hr := B.returns
  have hts := atoms_spec (ws := wsAcceptors_acceptedValue) B.pre
  have hown : s.vm.findClass RAcceptors = some m.cls := findClass_of_methodNamed B.named
  have hlocks := B.notSynchronized
  subst hsz
  have hD := hD0.self (sz := s.heap.size)
  generalize hAe : va_A (wAc q cI n S L f6 f7 f8) s.heap.size = A at hD ⊢
  have hA : ∀ q : Nat, s.heap.size ≤ q → A q := fun q h => by rw [← hAe]; exact Or.inr h
  have hS : va_S A s.heap s.heap [] := va_S.rf
  have hP : va_P D vwCl (wAc q cI n S L f6 f7 f8) s.heap := hP
  have hl := lv_entry ([.ref (q 9), .int (nI k)]) (n := 2) (Nat.le_of_ble_eq_true rfl)
  rw [lg_entry_eq]
  generalize (lg_sl ([.ref (q 9), .int (nI k)]) ++ List.replicate (2 - (lg_sl ([.ref (q 9), .int (nI k)])).length) Slot.unset).toArray = ls at hl ⊢
  have hl : lv_has ls 2 [(0, .ref (q 9)), (1, .int (nI k))] := hl
  refine lv_aload_n hx hb dAcceptors_acceptedValue_0 rfl (lv_at hl 0 rfl) ?_
  refine va_get (D := D) (ci := 3) (v := .ref (q 12)) (C := RAcceptors) (T := TAcceptors) (N := 5) hx hb hts (fun w h => mc (uAcceptors_in w h)) hown hK hP 0 rfl rfl 4 (by decide) (hts _ (mc wd76)) (fun _ h9 => h9) rfl dAcceptors_acceptedValue_1 ?_
  refine lv_iload_n hx hb dAcceptors_acceptedValue_4 rfl (lv_at hl 1 rfl) ?_
  refine ka_ld (v := f8 k) hx hb hK hP 3 0 rfl rfl (by omega) (by omega) rfl dAcceptors_acceptedValue_5 ?_
  exact W.iret (v := f8 k) hx hb hr (fun t9 ht9 hW9 => ⟨⟨f8 k, (wAc q cI n S L f6 f7 f8), rfl, ⟨rfl, rfl⟩, by rw [ht9]; exact hP, va_K.moved hW9.alike hK, hD⟩, hS.F ht9⟩) hS.2.2 dAcceptors_acceptedValue_6
theorem dAcceptors_promise_0 : decode cAcceptors_promise 0 = .ok (.iload_n 2, 1) := by decide +kernel
theorem dAcceptors_promise_1 : decode cAcceptors_promise 1 = .ok (.aload_n 0, 1) := by decide +kernel
theorem dAcceptors_promise_2 : decode cAcceptors_promise 2 = .ok (.getfield 18, 3) := by decide +kernel
theorem dAcceptors_promise_5 : decode cAcceptors_promise 5 = .ok (.iload_n 1, 1) := by decide +kernel
theorem dAcceptors_promise_6 : decode cAcceptors_promise 6 = .ok (.iaload, 1) := by decide +kernel
theorem dAcceptors_promise_7 : decode cAcceptors_promise 7 = .ok (.if_icmp .gt 5, 3) := by decide +kernel
theorem dAcceptors_promise_10 : decode cAcceptors_promise 10 = .ok (.iconst 0, 1) := by decide +kernel
theorem dAcceptors_promise_11 : decode cAcceptors_promise 11 = .ok (.ireturn, 1) := by decide +kernel
theorem dAcceptors_promise_12 : decode cAcceptors_promise 12 = .ok (.aload_n 0, 1) := by decide +kernel
theorem dAcceptors_promise_13 : decode cAcceptors_promise 13 = .ok (.getfield 18, 3) := by decide +kernel
theorem dAcceptors_promise_16 : decode cAcceptors_promise 16 = .ok (.iload_n 1, 1) := by decide +kernel
theorem dAcceptors_promise_17 : decode cAcceptors_promise 17 = .ok (.iload_n 2, 1) := by decide +kernel
theorem dAcceptors_promise_18 : decode cAcceptors_promise 18 = .ok (.iastore, 1) := by decide +kernel
theorem dAcceptors_promise_19 : decode cAcceptors_promise 19 = .ok (.iconst 1, 1) := by decide +kernel
theorem dAcceptors_promise_20 : decode cAcceptors_promise 20 = .ok (.ireturn, 1) := by decide +kernel
set_option maxRecDepth 100000 in
set_option maxHeartbeats 4000000 in
theorem c_promise (l : Launch) (D : va_G) (cI cZ : ClassId) (q : Nat → Nat) (n : Nat) (S : Nat) (L : Nat) (f6 : Nat → Int32) (f7 : Nat → Int32) (f8 : Nat → Int32) (k : Nat) (b : Int32) (hL20 : L ≤ 20) (hkL : k < L) : MI l D [(cI, .int), (cZ, .boolean)] yAcceptors_promise wsAcceptors_promise ({ frames := 0, cells := 0, slots := 0, locals := 0 }) [.ref (q 9), .int (nI k), .int b] (wAc q cI n S L f6 f7 f8) (fun r w => (r = nI 1 ∧ (f6 k < b) ∧ w = (wAc q cI n S L (upd f6 k b) f7 f8)) ∨ (r = nI 0 ∧ (¬ f6 k < b) ∧ w = (wAc q cI n S L f6 f7 f8))) := by
  intro sz
  refine Met.ofW (cc := cAcceptors_promise) (maxL := 3) (ret := (Option.some .boolean)) (by decide) rfl ?_
  intro p e s m args below meth c s₁ B hml hv
  obtain ⟨rfl, hsz, hP, hK, hD0, hZ⟩ := hv
  have hx := B.exec
  have hb := B.bytes
  have hr := B.returns
  have hts := atoms_spec (ws := wsAcceptors_promise) B.pre
  have hown : s.vm.findClass RAcceptors = some m.cls := findClass_of_methodNamed B.named
  have hlocks := B.notSynchronized
  subst hsz
  have hD := hD0.self (sz := s.heap.size)
  generalize hAe : va_A (wAc q cI n S L f6 f7 f8) s.heap.size = A at hD ⊢
  have hA : ∀ q : Nat, s.heap.size ≤ q → A q := fun q h => by rw [← hAe]; exact Or.inr h
  have hS : va_S A s.heap s.heap [] := va_S.rf
  have hP : va_P D vwCl (wAc q cI n S L f6 f7 f8) s.heap := hP
  have hl := lv_entry ([.ref (q 9), .int (nI k), .int b]) (n := 3) (Nat.le_of_ble_eq_true rfl)
  rw [lg_entry_eq]
  generalize (lg_sl ([.ref (q 9), .int (nI k), .int b]) ++ List.replicate (3 - (lg_sl ([.ref (q 9), .int (nI k), .int b])).length) Slot.unset).toArray = ls at hl ⊢
  have hl : lv_has ls 3 [(0, .ref (q 9)), (1, .int (nI k)), (2, .int b)] := hl
  refine lv_iload_n hx hb dAcceptors_promise_0 rfl (lv_at hl 2 rfl) ?_
  refine lv_aload_n hx hb dAcceptors_promise_1 rfl (lv_at hl 0 rfl) ?_
  refine va_get (D := D) (ci := 3) (v := .ref (q 10)) (C := RAcceptors) (T := TAcceptors) (N := 5) hx hb hts (fun w h => mc (uAcceptors_in w h)) hown hK hP 0 rfl rfl 2 (by decide) (hts _ (mc wd74)) (fun _ h9 => h9) rfl dAcceptors_promise_2 ?_
  refine lv_iload_n hx hb dAcceptors_promise_5 rfl (lv_at hl 1 rfl) ?_
  refine ka_ld (v := f6 k) hx hb hK hP 1 0 rfl rfl (by omega) (by omega) rfl dAcceptors_promise_6 ?_
  refine lv_icmp_gt (tgt := 12) hx hb dAcceptors_promise_7 (by decide) (fun c7 => ?_) (fun c7 => ?_)
  · refine lv_aload_n hx hb dAcceptors_promise_12 rfl (lv_at hl 0 rfl) ?_
    refine va_get (D := D) (ci := 3) (v := .ref (q 10)) (C := RAcceptors) (T := TAcceptors) (N := 5) hx hb hts (fun w h => mc (uAcceptors_in w h)) hown hK hP 0 rfl rfl 2 (by decide) (hts _ (mc wd74)) (fun _ h9 => h9) rfl dAcceptors_promise_13 ?_
    refine lv_iload_n hx hb dAcceptors_promise_16 rfl (lv_at hl 1 rfl) ?_
    refine lv_iload_n hx hb dAcceptors_promise_17 rfl (lv_at hl 2 rfl) ?_
    refine ka_st (f' := upd f6 k b) hx hb hK hP hD hS 1 0 rfl rfl (by omega) (by omega) rfl dAcceptors_promise_18 (fun H locs hP hD hS => ?_)
    have hP : va_P D vwCl (wAc q cI n S L (upd f6 k b) f7 f8) H := hP
    have hD : va_D A (wAc q cI n S L (upd f6 k b) f7 f8) := hD
    refine lv_iconst (v := nI 1) hx hb dAcceptors_promise_19 (by decide) ?_
    exact W.zret (v := nI 1) (ty := .boolean) hx hb hr (by decide) (fun t9 ht9 hW9 => ⟨⟨nI 1, (wAc q cI n S L (upd f6 k b) f7 f8), rfl, Or.inl ⟨rfl, c7, rfl⟩, by rw [ht9]; exact hP, va_K.moved hW9.alike hK, hD⟩, hS.F ht9⟩) hS.2.2 dAcceptors_promise_20
  · refine lv_iconst (v := nI 0) hx hb dAcceptors_promise_10 (by decide) ?_
    exact W.zret (v := nI 0) (ty := .boolean) hx hb hr (by decide) (fun t9 ht9 hW9 => ⟨⟨nI 0, (wAc q cI n S L f6 f7 f8), rfl, Or.inr ⟨rfl, c7, rfl⟩, by rw [ht9]; exact hP, va_K.moved hW9.alike hK, hD⟩, hS.F ht9⟩) hS.2.2 dAcceptors_promise_11
theorem dAcceptors_wouldAccept_0 : decode cAcceptors_wouldAccept 0 = .ok (.iload_n 2, 1) := by decide +kernel
theorem dAcceptors_wouldAccept_1 : decode cAcceptors_wouldAccept 1 = .ok (.aload_n 0, 1) := by decide +kernel
theorem dAcceptors_wouldAccept_2 : decode cAcceptors_wouldAccept 2 = .ok (.getfield 18, 3) := by decide +kernel
theorem dAcceptors_wouldAccept_5 : decode cAcceptors_wouldAccept 5 = .ok (.iload_n 1, 1) := by decide +kernel
theorem dAcceptors_wouldAccept_6 : decode cAcceptors_wouldAccept 6 = .ok (.iaload, 1) := by decide +kernel
theorem dAcceptors_wouldAccept_7 : decode cAcceptors_wouldAccept 7 = .ok (.if_icmp .lt 7, 3) := by decide +kernel
theorem dAcceptors_wouldAccept_10 : decode cAcceptors_wouldAccept 10 = .ok (.iconst 1, 1) := by decide +kernel
theorem dAcceptors_wouldAccept_11 : decode cAcceptors_wouldAccept 11 = .ok (.goto 4, 3) := by decide +kernel
theorem dAcceptors_wouldAccept_14 : decode cAcceptors_wouldAccept 14 = .ok (.iconst 0, 1) := by decide +kernel
theorem dAcceptors_wouldAccept_15 : decode cAcceptors_wouldAccept 15 = .ok (.ireturn, 1) := by decide +kernel
set_option maxRecDepth 100000 in
set_option maxHeartbeats 4000000 in
theorem c_wouldAccept (l : Launch) (D : va_G) (cI cZ : ClassId) (q : Nat → Nat) (n : Nat) (S : Nat) (L : Nat) (f6 : Nat → Int32) (f7 : Nat → Int32) (f8 : Nat → Int32) (k : Nat) (b : Int32) (hL20 : L ≤ 20) (hkL : k < L) : MI l D [(cI, .int), (cZ, .boolean)] yAcceptors_wouldAccept wsAcceptors_wouldAccept ({ frames := 0, cells := 0, slots := 0, locals := 0 }) [.ref (q 9), .int (nI k), .int b] (wAc q cI n S L f6 f7 f8) (fun r w => (r = nI 1 ∧ (f6 k ≤ b) ∧ w = (wAc q cI n S L f6 f7 f8)) ∨ (r = nI 0 ∧ (¬ f6 k ≤ b) ∧ w = (wAc q cI n S L f6 f7 f8))) := by
  intro sz
  refine Met.ofW (cc := cAcceptors_wouldAccept) (maxL := 3) (ret := (Option.some .boolean)) (by decide) rfl ?_
  intro p e s m args below meth c s₁ B hml hv
  obtain ⟨rfl, hsz, hP, hK, hD0, hZ⟩ := hv
  have hx := B.exec
  have hb := B.bytes
  have hr := B.returns
  have hts := atoms_spec (ws := wsAcceptors_wouldAccept) B.pre
  have hown : s.vm.findClass RAcceptors = some m.cls := findClass_of_methodNamed B.named
  have hlocks := B.notSynchronized
  subst hsz
  have hD := hD0.self (sz := s.heap.size)
  generalize hAe : va_A (wAc q cI n S L f6 f7 f8) s.heap.size = A at hD ⊢
  have hA : ∀ q : Nat, s.heap.size ≤ q → A q := fun q h => by rw [← hAe]; exact Or.inr h
  have hS : va_S A s.heap s.heap [] := va_S.rf
  have hP : va_P D vwCl (wAc q cI n S L f6 f7 f8) s.heap := hP
  have hl := lv_entry ([.ref (q 9), .int (nI k), .int b]) (n := 3) (Nat.le_of_ble_eq_true rfl)
  rw [lg_entry_eq]
  generalize (lg_sl ([.ref (q 9), .int (nI k), .int b]) ++ List.replicate (3 - (lg_sl ([.ref (q 9), .int (nI k), .int b])).length) Slot.unset).toArray = ls at hl ⊢
  have hl : lv_has ls 3 [(0, .ref (q 9)), (1, .int (nI k)), (2, .int b)] := hl
  refine lv_iload_n hx hb dAcceptors_wouldAccept_0 rfl (lv_at hl 2 rfl) ?_
  refine lv_aload_n hx hb dAcceptors_wouldAccept_1 rfl (lv_at hl 0 rfl) ?_
  refine va_get (D := D) (ci := 3) (v := .ref (q 10)) (C := RAcceptors) (T := TAcceptors) (N := 5) hx hb hts (fun w h => mc (uAcceptors_in w h)) hown hK hP 0 rfl rfl 2 (by decide) (hts _ (mc wd74)) (fun _ h9 => h9) rfl dAcceptors_wouldAccept_2 ?_
  refine lv_iload_n hx hb dAcceptors_wouldAccept_5 rfl (lv_at hl 1 rfl) ?_
  refine ka_ld (v := f6 k) hx hb hK hP 1 0 rfl rfl (by omega) (by omega) rfl dAcceptors_wouldAccept_6 ?_
  refine lv_icmp_lt (tgt := 14) hx hb dAcceptors_wouldAccept_7 (by decide) (fun c7 => ?_) (fun c7 => ?_)
  · refine lv_iconst (v := nI 0) hx hb dAcceptors_wouldAccept_14 (by decide) ?_
    exact W.zret (v := nI 0) (ty := .boolean) hx hb hr (by decide) (fun t9 ht9 hW9 => ⟨⟨nI 0, (wAc q cI n S L f6 f7 f8), rfl, Or.inr ⟨rfl, Int32.not_le.mpr c7, rfl⟩, by rw [ht9]; exact hP, va_K.moved hW9.alike hK, hD⟩, hS.F ht9⟩) hS.2.2 dAcceptors_wouldAccept_15
  · refine lv_iconst (v := nI 1) hx hb dAcceptors_wouldAccept_10 (by decide) ?_
    refine lv_goto (tgt := 15) hx hb dAcceptors_wouldAccept_11 (by decide) ?_
    exact W.zret (v := nI 1) (ty := .boolean) hx hb hr (by decide) (fun t9 ht9 hW9 => ⟨⟨nI 1, (wAc q cI n S L f6 f7 f8), rfl, Or.inl ⟨rfl, Int32.not_lt.mp c7, rfl⟩, by rw [ht9]; exact hP, va_K.moved hW9.alike hK, hD⟩, hS.F ht9⟩) hS.2.2 dAcceptors_wouldAccept_15
theorem dAcceptors_accept_0 : decode cAcceptors_accept 0 = .ok (.aload_n 0, 1) := by decide +kernel
theorem dAcceptors_accept_1 : decode cAcceptors_accept 1 = .ok (.iload_n 1, 1) := by decide +kernel
theorem dAcceptors_accept_2 : decode cAcceptors_accept 2 = .ok (.iload_n 2, 1) := by decide +kernel
theorem dAcceptors_accept_3 : decode cAcceptors_accept 3 = .ok (.invokevirtual 34, 3) := by decide +kernel
theorem dAcceptors_accept_6 : decode cAcceptors_accept 6 = .ok (.ifCond .ne 5, 3) := by decide +kernel
theorem dAcceptors_accept_9 : decode cAcceptors_accept 9 = .ok (.iconst 0, 1) := by decide +kernel
theorem dAcceptors_accept_10 : decode cAcceptors_accept 10 = .ok (.ireturn, 1) := by decide +kernel
theorem dAcceptors_accept_11 : decode cAcceptors_accept 11 = .ok (.aload_n 0, 1) := by decide +kernel
theorem dAcceptors_accept_12 : decode cAcceptors_accept 12 = .ok (.getfield 18, 3) := by decide +kernel
theorem dAcceptors_accept_15 : decode cAcceptors_accept 15 = .ok (.iload_n 1, 1) := by decide +kernel
theorem dAcceptors_accept_16 : decode cAcceptors_accept 16 = .ok (.iload_n 2, 1) := by decide +kernel
theorem dAcceptors_accept_17 : decode cAcceptors_accept 17 = .ok (.iastore, 1) := by decide +kernel
theorem dAcceptors_accept_18 : decode cAcceptors_accept 18 = .ok (.aload_n 0, 1) := by decide +kernel
theorem dAcceptors_accept_19 : decode cAcceptors_accept 19 = .ok (.getfield 22, 3) := by decide +kernel
theorem dAcceptors_accept_22 : decode cAcceptors_accept 22 = .ok (.iload_n 1, 1) := by decide +kernel
theorem dAcceptors_accept_23 : decode cAcceptors_accept 23 = .ok (.iload_n 2, 1) := by decide +kernel
theorem dAcceptors_accept_24 : decode cAcceptors_accept 24 = .ok (.iastore, 1) := by decide +kernel
theorem dAcceptors_accept_25 : decode cAcceptors_accept 25 = .ok (.aload_n 0, 1) := by decide +kernel
theorem dAcceptors_accept_26 : decode cAcceptors_accept 26 = .ok (.getfield 25, 3) := by decide +kernel
theorem dAcceptors_accept_29 : decode cAcceptors_accept 29 = .ok (.iload_n 1, 1) := by decide +kernel
theorem dAcceptors_accept_30 : decode cAcceptors_accept 30 = .ok (.iload_n 3, 1) := by decide +kernel
theorem dAcceptors_accept_31 : decode cAcceptors_accept 31 = .ok (.iastore, 1) := by decide +kernel
theorem dAcceptors_accept_32 : decode cAcceptors_accept 32 = .ok (.iconst 1, 1) := by decide +kernel
theorem dAcceptors_accept_33 : decode cAcceptors_accept 33 = .ok (.ireturn, 1) := by decide +kernel
set_option maxRecDepth 100000 in
set_option maxHeartbeats 4000000 in
theorem c_accept (l : Launch) (D : va_G) (cI cZ : ClassId) (q : Nat → Nat) (n : Nat) (S : Nat) (L : Nat) (f6 : Nat → Int32) (f7 : Nat → Int32) (f8 : Nat → Int32) (k : Nat) (b : Int32) (v : Int32) (hL20 : L ≤ 20) (hkL : k < L) : MI l D [(cI, .int), (cZ, .boolean)] yAcceptors_accept wsAcceptors_accept ({ frames := 1, cells := 0, slots := 0, locals := 22 }) [.ref (q 9), .int (nI k), .int b, .int v] (wAc q cI n S L f6 f7 f8) (fun r w => (r = nI 1 ∧ (f6 k ≤ b) ∧ w = (wAc q cI n S L (upd f6 k b) (upd f7 k b) (upd f8 k v))) ∨ (r = nI 0 ∧ (¬ f6 k ≤ b) ∧ w = (wAc q cI n S L f6 f7 f8))) := by
  intro sz
  refine Met.ofW (cc := cAcceptors_accept) (maxL := 4) (ret := (Option.some .boolean)) (by decide) rfl ?_
  intro p e s m args below meth c s₁ B hml hv
  obtain ⟨rfl, hsz, hP, hK, hD0, hZ⟩ := hv
  have hx := B.exec
  have hb := B.bytes
  have hr := B.returns
  have hts := atoms_spec (ws := wsAcceptors_accept) B.pre
  have hown : s.vm.findClass RAcceptors = some m.cls := findClass_of_methodNamed B.named
  have hlocks := B.notSynchronized
  subst hsz
  have hD := hD0.self (sz := s.heap.size)
  generalize hAe : va_A (wAc q cI n S L f6 f7 f8) s.heap.size = A at hD ⊢
  have hA : ∀ q : Nat, s.heap.size ≤ q → A q := fun q h => by rw [← hAe]; exact Or.inr h
  have hS : va_S A s.heap s.heap [] := va_S.rf
  have hP : va_P D vwCl (wAc q cI n S L f6 f7 f8) s.heap := hP
  have hl := lv_entry ([.ref (q 9), .int (nI k), .int b, .int v]) (n := 4) (Nat.le_of_ble_eq_true rfl)
  rw [lg_entry_eq]
  generalize (lg_sl ([.ref (q 9), .int (nI k), .int b, .int v]) ++ List.replicate (4 - (lg_sl ([.ref (q 9), .int (nI k), .int b, .int v])).length) Slot.unset).toArray = ls at hl ⊢
  have hl : lv_has ls 4 [(0, .ref (q 9)), (1, .int (nI k)), (2, .int b), (3, .int v)] := hl
  refine lv_aload_n hx hb dAcceptors_accept_0 rfl (lv_at hl 0 rfl) ?_
  refine lv_iload_n hx hb dAcceptors_accept_1 rfl (lv_at hl 1 rfl) ?_
  refine lv_iload_n hx hb dAcceptors_accept_2 rfl (lv_at hl 2 rfl) ?_
  have hPc := hP.sub (ws' := (wAc q cI n S L f6 f7 f8)) [0, 1, 2, 3] rfl
  have hDc := hD.sub (ws' := (wAc q cI n S L f6 f7 f8)) [0, 1, 2, 3] (by decide) rfl
  refine kx_i (va_runV (As := [.int (nI k), .int b]) (rest := []) ⟨hx, hb, hml, hown, hts⟩ ((c_wouldAccept l D cI cZ q n S L f6 f7 f8 k b (hL20) (hkL)) s.heap.size) (cwV 2 hts (gV wd260 wd221 wd222 wd5 wd223) rfl rfl rfl (by decide +kernel) ⟨Nat.le_of_ble_eq_true rfl, Nat.le_of_ble_eq_true rfl⟩) ⟨fb_PW, va_recv (q0 := 0) (ci := 3) hK hPc rfl rfl, pre_PW hK hPc hDc hZ⟩ rfl rfl hl.1 rfl (lv_room (Nat.le_of_ble_eq_true rfl)) dAcceptors_accept_3 ⟨Nat.zero_le _, Nat.zero_le _⟩) hP hD hS hA [0, 1, 2, 3] [] rfl rfl (by decide) (by decide) (fun r w1 H locs hw hP hD hS => ?_)
  rcases hw with ⟨rfl, h3, rfl⟩ | ⟨rfl, h3, rfl⟩
  · have hP : va_P D vwCl (wAc q cI n S L f6 f7 f8) H := hP
    have hD : va_D A (wAc q cI n S L f6 f7 f8) := hD
    refine lv_if_ne (tgt := 11) hx hb dAcceptors_accept_6 (by decide) (fun _ => ?_) (fun h9 => absurd h9 (by decide))
    refine lv_aload_n hx hb dAcceptors_accept_11 rfl (lv_at hl 0 rfl) ?_
    refine va_get (D := D) (ci := 3) (v := .ref (q 10)) (C := RAcceptors) (T := TAcceptors) (N := 5) hx hb hts (fun w h => mc (uAcceptors_in w h)) hown hK hP 0 rfl rfl 2 (by decide) (hts _ (mc wd74)) (fun _ h9 => h9) rfl dAcceptors_accept_12 ?_
    refine lv_iload_n hx hb dAcceptors_accept_15 rfl (lv_at hl 1 rfl) ?_
    refine lv_iload_n hx hb dAcceptors_accept_16 rfl (lv_at hl 2 rfl) ?_
    refine ka_st (f' := upd f6 k b) hx hb hK hP hD hS 1 0 rfl rfl (by omega) (by omega) rfl dAcceptors_accept_17 (fun H locs hP hD hS => ?_)
    have hP : va_P D vwCl (wAc q cI n S L (upd f6 k b) f7 f8) H := hP
    have hD : va_D A (wAc q cI n S L (upd f6 k b) f7 f8) := hD
    refine lv_aload_n hx hb dAcceptors_accept_18 rfl (lv_at hl 0 rfl) ?_
    refine va_get (D := D) (ci := 3) (v := .ref (q 11)) (C := RAcceptors) (T := TAcceptors) (N := 5) hx hb hts (fun w h => mc (uAcceptors_in w h)) hown hK hP 0 rfl rfl 3 (by decide) (hts _ (mc wd75)) (fun _ h9 => h9) rfl dAcceptors_accept_19 ?_
    refine lv_iload_n hx hb dAcceptors_accept_22 rfl (lv_at hl 1 rfl) ?_
    refine lv_iload_n hx hb dAcceptors_accept_23 rfl (lv_at hl 2 rfl) ?_
    refine ka_st (f' := upd f7 k b) hx hb hK hP hD hS 2 0 rfl rfl (by omega) (by omega) rfl dAcceptors_accept_24 (fun H locs hP hD hS => ?_)
    have hP : va_P D vwCl (wAc q cI n S L (upd f6 k b) (upd f7 k b) f8) H := hP
    have hD : va_D A (wAc q cI n S L (upd f6 k b) (upd f7 k b) f8) := hD
    refine lv_aload_n hx hb dAcceptors_accept_25 rfl (lv_at hl 0 rfl) ?_
    refine va_get (D := D) (ci := 3) (v := .ref (q 12)) (C := RAcceptors) (T := TAcceptors) (N := 5) hx hb hts (fun w h => mc (uAcceptors_in w h)) hown hK hP 0 rfl rfl 4 (by decide) (hts _ (mc wd76)) (fun _ h9 => h9) rfl dAcceptors_accept_26 ?_
    refine lv_iload_n hx hb dAcceptors_accept_29 rfl (lv_at hl 1 rfl) ?_
    refine lv_iload_n hx hb dAcceptors_accept_30 rfl (lv_at hl 3 rfl) ?_
    refine ka_st (f' := upd f8 k v) hx hb hK hP hD hS 3 0 rfl rfl (by omega) (by omega) rfl dAcceptors_accept_31 (fun H locs hP hD hS => ?_)
    have hP : va_P D vwCl (wAc q cI n S L (upd f6 k b) (upd f7 k b) (upd f8 k v)) H := hP
    have hD : va_D A (wAc q cI n S L (upd f6 k b) (upd f7 k b) (upd f8 k v)) := hD
    refine lv_iconst (v := nI 1) hx hb dAcceptors_accept_32 (by decide) ?_
    exact W.zret (v := nI 1) (ty := .boolean) hx hb hr (by decide) (fun t9 ht9 hW9 => ⟨⟨nI 1, (wAc q cI n S L (upd f6 k b) (upd f7 k b) (upd f8 k v)), rfl, Or.inl ⟨rfl, h3, rfl⟩, by rw [ht9]; exact hP, va_K.moved hW9.alike hK, hD⟩, hS.F ht9⟩) hS.2.2 dAcceptors_accept_33
  · have hP : va_P D vwCl (wAc q cI n S L f6 f7 f8) H := hP
    have hD : va_D A (wAc q cI n S L f6 f7 f8) := hD
    refine lv_if_ne (tgt := 11) hx hb dAcceptors_accept_6 (by decide) (fun h9 => absurd (by decide) h9) (fun _ => ?_)
    refine lv_iconst (v := nI 0) hx hb dAcceptors_accept_9 (by decide) ?_
    exact W.zret (v := nI 0) (ty := .boolean) hx hb hr (by decide) (fun t9 ht9 hW9 => ⟨⟨nI 0, (wAc q cI n S L f6 f7 f8), rfl, Or.inr ⟨rfl, h3, rfl⟩, by rw [ht9]; exact hP, va_K.moved hW9.alike hK, hD⟩, hS.F ht9⟩) hS.2.2 dAcceptors_accept_10
theorem dAcceptors_acceptorsOf_0 : decode cAcceptors_acceptorsOf 0 = .ok (.iconst 0, 1) := by decide +kernel
theorem dAcceptors_acceptorsOf_1 : decode cAcceptors_acceptorsOf 1 = .ok (.istore_n 3, 1) := by decide +kernel
theorem dAcceptors_acceptorsOf_2 : decode cAcceptors_acceptorsOf 2 = .ok (.iconst 0, 1) := by decide +kernel
theorem dAcceptors_acceptorsOf_3 : decode cAcceptors_acceptorsOf 3 = .ok (.istore 4, 2) := by decide +kernel
theorem dAcceptors_acceptorsOf_5 : decode cAcceptors_acceptorsOf 5 = .ok (.iload 4, 2) := by decide +kernel
theorem dAcceptors_acceptorsOf_7 : decode cAcceptors_acceptorsOf 7 = .ok (.aload_n 0, 1) := by decide +kernel
theorem dAcceptors_acceptorsOf_8 : decode cAcceptors_acceptorsOf 8 = .ok (.getfield 9, 3) := by decide +kernel
theorem dAcceptors_acceptorsOf_11 : decode cAcceptors_acceptorsOf 11 = .ok (.if_icmp .ge 30, 3) := by decide +kernel
theorem dAcceptors_acceptorsOf_14 : decode cAcceptors_acceptorsOf 14 = .ok (.aload_n 0, 1) := by decide +kernel
theorem dAcceptors_acceptorsOf_15 : decode cAcceptors_acceptorsOf 15 = .ok (.getfield 22, 3) := by decide +kernel
theorem dAcceptors_acceptorsOf_18 : decode cAcceptors_acceptorsOf 18 = .ok (.iload 4, 2) := by decide +kernel
theorem dAcceptors_acceptorsOf_20 : decode cAcceptors_acceptorsOf 20 = .ok (.aload_n 0, 1) := by decide +kernel
theorem dAcceptors_acceptorsOf_21 : decode cAcceptors_acceptorsOf 21 = .ok (.getfield 15, 3) := by decide +kernel
theorem dAcceptors_acceptorsOf_24 : decode cAcceptors_acceptorsOf 24 = .ok (.imul, 1) := by decide +kernel
theorem dAcceptors_acceptorsOf_25 : decode cAcceptors_acceptorsOf 25 = .ok (.iload_n 1, 1) := by decide +kernel
theorem dAcceptors_acceptorsOf_26 : decode cAcceptors_acceptorsOf 26 = .ok (.iadd, 1) := by decide +kernel
theorem dAcceptors_acceptorsOf_27 : decode cAcceptors_acceptorsOf 27 = .ok (.iaload, 1) := by decide +kernel
theorem dAcceptors_acceptorsOf_28 : decode cAcceptors_acceptorsOf 28 = .ok (.iload_n 2, 1) := by decide +kernel
theorem dAcceptors_acceptorsOf_29 : decode cAcceptors_acceptorsOf 29 = .ok (.if_icmp .ne 6, 3) := by decide +kernel
theorem dAcceptors_acceptorsOf_32 : decode cAcceptors_acceptorsOf 32 = .ok (.iinc 3  1, 3) := by decide +kernel
theorem dAcceptors_acceptorsOf_35 : decode cAcceptors_acceptorsOf 35 = .ok (.iinc 4  1, 3) := by decide +kernel
theorem dAcceptors_acceptorsOf_38 : decode cAcceptors_acceptorsOf 38 = .ok (.goto (-33), 3) := by decide +kernel
theorem dAcceptors_acceptorsOf_41 : decode cAcceptors_acceptorsOf 41 = .ok (.iload_n 3, 1) := by decide +kernel
theorem dAcceptors_acceptorsOf_42 : decode cAcceptors_acceptorsOf 42 = .ok (.ireturn, 1) := by decide +kernel
set_option maxRecDepth 100000 in
set_option maxHeartbeats 4000000 in
theorem c_acceptorsOf (l : Launch) (D : va_G) (cI cZ : ClassId) (q : Nat → Nat) (n : Nat) (S : Nat) (L : Nat) (f6 : Nat → Int32) (f7 : Nat → Int32) (f8 : Nat → Int32) (sx : Nat) (b : Int32) (hL20 : L ≤ 20) (hn5 : n ≤ 5) (hS4 : S ≤ 4) (hsS : sx < S) (hLx : ∀ a t : Nat, a < n → t < S → a * S + t < L) : MI l D [(cI, .int), (cZ, .boolean)] yAcceptors_acceptorsOf wsAcceptors_acceptorsOf ({ frames := 0, cells := 0, slots := 0, locals := 0 }) [.ref (q 9), .int (nI sx), .int b] (wAc q cI n S L f6 f7 f8) (fun r w => r = nI (cntE (fun a => f7 (a * S + sx)) b n) ∧ w = (wAc q cI n S L f6 f7 f8)) := by
  intro sz
  refine Met.ofW (cc := cAcceptors_acceptorsOf) (maxL := 5) (ret := (Option.some .int)) (by decide) rfl ?_
  intro p e s m args below meth c s₁ B hml hv
  obtain ⟨rfl, hsz, hP, hK, hD0, hZ⟩ := hv
  have hx := B.exec
  have hb := B.bytes
  have hr := B.returns
  have hts := atoms_spec (ws := wsAcceptors_acceptorsOf) B.pre
  have hown : s.vm.findClass RAcceptors = some m.cls := findClass_of_methodNamed B.named
  have hlocks := B.notSynchronized
  subst hsz
  have hD := hD0.self (sz := s.heap.size)
  generalize hAe : va_A (wAc q cI n S L f6 f7 f8) s.heap.size = A at hD ⊢
  have hA : ∀ q : Nat, s.heap.size ≤ q → A q := fun q h => by rw [← hAe]; exact Or.inr h
  have hS : va_S A s.heap s.heap [] := va_S.rf
  have hP : va_P D vwCl (wAc q cI n S L f6 f7 f8) s.heap := hP
  have hl := lv_entry ([.ref (q 9), .int (nI sx), .int b]) (n := 5) (Nat.le_of_ble_eq_true rfl)
  rw [lg_entry_eq]
  generalize (lg_sl ([.ref (q 9), .int (nI sx), .int b]) ++ List.replicate (5 - (lg_sl ([.ref (q 9), .int (nI sx), .int b])).length) Slot.unset).toArray = ls at hl ⊢
  have hl : lv_has ls 5 [(0, .ref (q 9)), (1, .int (nI sx)), (2, .int b)] := hl
  refine lv_iconst (v := nI 0) hx hb dAcceptors_acceptorsOf_0 (by decide) ?_
  refine lv_istore_n hx hb dAcceptors_acceptorsOf_1 rfl hl (by decide) rfl (fun ls hl => ?_)
  have hl : lv_has ls 5 [(3, .int (nI 0)), (0, .ref (q 9)), (1, .int (nI sx)), (2, .int b)] := hl
  refine lv_iconst (v := nI 0) hx hb dAcceptors_acceptorsOf_2 (by decide) ?_
  refine lv_istore hx hb dAcceptors_acceptorsOf_3 hl (by decide) rfl (fun ls hl => ?_)
  have hl : lv_has ls 5 [(4, .int (nI 0)), (3, .int (nI 0)), (0, .ref (q 9)), (1, .int (nI sx)), (2, .int b)] := hl
  have loop5 : ∀ (d5 i : Nat) (ls : Array Slot) (H : Heap) (locs : List Loc), i + d5 = n → lv_has ls 5 [(4, .int (nI i)), (3, .int (nI (cntE (fun a => f7 (a * S + sx)) b i))), (0, .ref (q 9)), (1, .int (nI sx)), (2, .int b)] → va_P D vwCl (wAc q cI n S L f6 f7 f8) H → va_D A (wAc q cI n S L f6 f7 f8) → va_S A s.heap H locs → W p l e (headSpec wsAcceptors_acceptorsOf { frames := 0, cells := 0, slots := 0, locals := 0 }).room s m [.ref (q 9), .int (nI sx), .int b].toArray below meth c H locs 0 0 (MQ below (va_Qi (fun r w => r = nI (cntE (fun a => f7 (a * S + sx)) b n) ∧ w = (wAc q cI n S L f6 f7 f8)) (QW D [(cI, .int), (cZ, .boolean)] A) A) [.ref (q 9), .int (nI sx), .int b].toArray s 0 0 A) (F0 m 5 ls []) := by
    intro d5
    induction d5 with
    | zero =>
      intro i ls H locs hid5  hl hP hD hS
      refine lv_iload hx hb dAcceptors_acceptorsOf_5 (lv_at hl 0 rfl) ?_
      refine lv_aload_n hx hb dAcceptors_acceptorsOf_7 rfl (lv_at hl 2 rfl) ?_
      refine va_get (D := D) (ci := 3) (v := .int (nI n)) (C := RAcceptors) (T := TAcceptors) (N := 5) hx hb hts (fun w h => mc (uAcceptors_in w h)) hown hK hP 0 rfl rfl 0 (by decide) (hts _ (mc wd72)) (fun _ h9 => h9) rfl dAcceptors_acceptorsOf_8 ?_
      refine lv_icmp_ge (tgt := 41) hx hb dAcceptors_acceptorsOf_11 (by decide) (fun _ => ?_) (fun h9 => absurd (nI_le (by omega) (by omega)) h9)
      refine lv_iload_n hx hb dAcceptors_acceptorsOf_41 rfl (lv_at hl 1 rfl) ?_
      have hin : n = i := by omega
      subst hin
      exact W.iret (v := nI (cntE (fun a => f7 (a * S + sx)) b n)) hx hb hr (fun t9 ht9 hW9 => ⟨⟨nI (cntE (fun a => f7 (a * S + sx)) b n), (wAc q cI n S L f6 f7 f8), rfl, ⟨rfl, rfl⟩, by rw [ht9]; exact hP, va_K.moved hW9.alike hK, hD⟩, hS.F ht9⟩) hS.2.2 dAcceptors_acceptorsOf_42
    | succ d5 ih5 =>
      intro i ls H locs hid5  hl hP hD hS
      refine lv_iload hx hb dAcceptors_acceptorsOf_5 (lv_at hl 0 rfl) ?_
      refine lv_aload_n hx hb dAcceptors_acceptorsOf_7 rfl (lv_at hl 2 rfl) ?_
      refine va_get (D := D) (ci := 3) (v := .int (nI n)) (C := RAcceptors) (T := TAcceptors) (N := 5) hx hb hts (fun w h => mc (uAcceptors_in w h)) hown hK hP 0 rfl rfl 0 (by decide) (hts _ (mc wd72)) (fun _ h9 => h9) rfl dAcceptors_acceptorsOf_8 ?_
      refine lv_icmp_ge (tgt := 41) hx hb dAcceptors_acceptorsOf_11 (by decide) (fun h9 => absurd h9 (nI_ge (by omega) (by omega))) (fun _ => ?_)
      refine lv_aload_n hx hb dAcceptors_acceptorsOf_14 rfl (lv_at hl 2 rfl) ?_
      refine va_get (D := D) (ci := 3) (v := .ref (q 11)) (C := RAcceptors) (T := TAcceptors) (N := 5) hx hb hts (fun w h => mc (uAcceptors_in w h)) hown hK hP 0 rfl rfl 3 (by decide) (hts _ (mc wd75)) (fun _ h9 => h9) rfl dAcceptors_acceptorsOf_15 ?_
      refine lv_iload hx hb dAcceptors_acceptorsOf_18 (lv_at hl 0 rfl) ?_
      refine lv_aload_n hx hb dAcceptors_acceptorsOf_20 rfl (lv_at hl 2 rfl) ?_
      refine va_get (D := D) (ci := 3) (v := .int (nI S)) (C := RAcceptors) (T := TAcceptors) (N := 5) hx hb hts (fun w h => mc (uAcceptors_in w h)) hown hK hP 0 rfl rfl 1 (by decide) (hts _ (mc wd73)) (fun _ h9 => h9) rfl dAcceptors_acceptorsOf_21 ?_
      refine lv_imul hx hb dAcceptors_acceptorsOf_24 ?_
      refine lv_topi (nm_r (pk_mul _ _) ?_)
      refine lv_iload_n hx hb dAcceptors_acceptorsOf_25 rfl (lv_at hl 3 rfl) ?_
      refine lv_iadd hx hb dAcceptors_acceptorsOf_26 ?_
      refine lv_topi (nm_r (nI_add _ _) ?_)
      refine ka_ld (v := f7 (i * S + sx)) hx hb hK hP 2 0 rfl rfl (hLx i sx (by omega) hsS) (by omega) rfl dAcceptors_acceptorsOf_27 ?_
      refine lv_iload_n hx hb dAcceptors_acceptorsOf_28 rfl (lv_at hl 4 rfl) ?_
      refine lv_icmp_ne (tgt := 35) hx hb dAcceptors_acceptorsOf_29 (by decide) (fun c29 => ?_) (fun c29 => ?_)
      · have hz : nI (cntE (fun a => f7 (a * S + sx)) b i) = nI (cntE (fun a => f7 (a * S + sx)) b (i + 1)) := by show _ = nI (cntE _ _ _ + _); rw [if_neg c29]; rfl
        rw [hz] at hl
        refine lv_iinc (k := 0) (v := nI (i + 1)) hx hb dAcceptors_acceptorsOf_35 hl rfl ((nI_succ _).symm) (by decide) rfl (fun ls hl => ?_)
        have hl : lv_has ls 5 [(4, .int (nI (i + 1))), (3, .int (nI (cntE (fun a => f7 (a * S + sx)) b (i + 1)))), (0, .ref (q 9)), (1, .int (nI sx)), (2, .int b)] := hl
        refine lv_goto (tgt := 5) hx hb dAcceptors_acceptorsOf_38 (by decide) ?_
        exact ih5 (i + 1) ls H locs (by omega) hl hP hD hS
      · refine lv_iinc (k := 1) (v := nI (cntE (fun a => f7 (a * S + sx)) b (i + 1))) hx hb dAcceptors_acceptorsOf_32 hl rfl (by show nI _ + 1 = nI (cntE _ _ _ + _); rw [if_pos c29, nI_1]) (by decide) rfl (fun ls hl => ?_)
        have hl : lv_has ls 5 [(3, .int (nI (cntE (fun a => f7 (a * S + sx)) b (i + 1)))), (4, .int (nI i)), (0, .ref (q 9)), (1, .int (nI sx)), (2, .int b)] := hl
        refine lv_iinc (k := 1) (v := nI (i + 1)) hx hb dAcceptors_acceptorsOf_35 hl rfl ((nI_succ _).symm) (by decide) rfl (fun ls hl => ?_)
        have hl : lv_has ls 5 [(4, .int (nI (i + 1))), (3, .int (nI (cntE (fun a => f7 (a * S + sx)) b (i + 1)))), (0, .ref (q 9)), (1, .int (nI sx)), (2, .int b)] := hl
        refine lv_goto (tgt := 5) hx hb dAcceptors_acceptorsOf_38 (by decide) ?_
        exact ih5 (i + 1) ls H locs (by omega) hl hP hD hS
  exact loop5 n 0 ls s.heap [] (by omega) hl hP hD hS
theorem dAcceptors_majorityValue_0 : decode cAcceptors_majorityValue 0 = .ok (.iconst 0, 1) := by decide +kernel
theorem dAcceptors_majorityValue_1 : decode cAcceptors_majorityValue 1 = .ok (.istore_n 2, 1) := by decide +kernel
theorem dAcceptors_majorityValue_2 : decode cAcceptors_majorityValue 2 = .ok (.iload_n 2, 1) := by decide +kernel
theorem dAcceptors_majorityValue_3 : decode cAcceptors_majorityValue 3 = .ok (.aload_n 0, 1) := by decide +kernel
theorem dAcceptors_majorityValue_4 : decode cAcceptors_majorityValue 4 = .ok (.getfield 9, 3) := by decide +kernel
theorem dAcceptors_majorityValue_7 : decode cAcceptors_majorityValue 7 = .ok (.if_icmp .ge 46, 3) := by decide +kernel
theorem dAcceptors_majorityValue_10 : decode cAcceptors_majorityValue 10 = .ok (.iload_n 2, 1) := by decide +kernel
theorem dAcceptors_majorityValue_11 : decode cAcceptors_majorityValue 11 = .ok (.aload_n 0, 1) := by decide +kernel
theorem dAcceptors_majorityValue_12 : decode cAcceptors_majorityValue 12 = .ok (.getfield 15, 3) := by decide +kernel
theorem dAcceptors_majorityValue_15 : decode cAcceptors_majorityValue 15 = .ok (.imul, 1) := by decide +kernel
theorem dAcceptors_majorityValue_16 : decode cAcceptors_majorityValue 16 = .ok (.iload_n 1, 1) := by decide +kernel
theorem dAcceptors_majorityValue_17 : decode cAcceptors_majorityValue 17 = .ok (.iadd, 1) := by decide +kernel
theorem dAcceptors_majorityValue_18 : decode cAcceptors_majorityValue 18 = .ok (.istore_n 3, 1) := by decide +kernel
theorem dAcceptors_majorityValue_19 : decode cAcceptors_majorityValue 19 = .ok (.aload_n 0, 1) := by decide +kernel
theorem dAcceptors_majorityValue_20 : decode cAcceptors_majorityValue 20 = .ok (.iload_n 1, 1) := by decide +kernel
theorem dAcceptors_majorityValue_21 : decode cAcceptors_majorityValue 21 = .ok (.aload_n 0, 1) := by decide +kernel
theorem dAcceptors_majorityValue_22 : decode cAcceptors_majorityValue 22 = .ok (.getfield 22, 3) := by decide +kernel
theorem dAcceptors_majorityValue_25 : decode cAcceptors_majorityValue 25 = .ok (.iload_n 3, 1) := by decide +kernel
theorem dAcceptors_majorityValue_26 : decode cAcceptors_majorityValue 26 = .ok (.iaload, 1) := by decide +kernel
theorem dAcceptors_majorityValue_27 : decode cAcceptors_majorityValue 27 = .ok (.invokevirtual 38, 3) := by decide +kernel
theorem dAcceptors_majorityValue_30 : decode cAcceptors_majorityValue 30 = .ok (.aload_n 0, 1) := by decide +kernel
theorem dAcceptors_majorityValue_31 : decode cAcceptors_majorityValue 31 = .ok (.getfield 9, 3) := by decide +kernel
theorem dAcceptors_majorityValue_34 : decode cAcceptors_majorityValue 34 = .ok (.invokestatic 42, 3) := by decide +kernel
theorem dAcceptors_majorityValue_37 : decode cAcceptors_majorityValue 37 = .ok (.ifCond .eq 10, 3) := by decide +kernel
theorem dAcceptors_majorityValue_40 : decode cAcceptors_majorityValue 40 = .ok (.aload_n 0, 1) := by decide +kernel
theorem dAcceptors_majorityValue_41 : decode cAcceptors_majorityValue 41 = .ok (.getfield 25, 3) := by decide +kernel
theorem dAcceptors_majorityValue_44 : decode cAcceptors_majorityValue 44 = .ok (.iload_n 3, 1) := by decide +kernel
theorem dAcceptors_majorityValue_45 : decode cAcceptors_majorityValue 45 = .ok (.iaload, 1) := by decide +kernel
theorem dAcceptors_majorityValue_46 : decode cAcceptors_majorityValue 46 = .ok (.ireturn, 1) := by decide +kernel
theorem dAcceptors_majorityValue_47 : decode cAcceptors_majorityValue 47 = .ok (.iinc 2  1, 3) := by decide +kernel
theorem dAcceptors_majorityValue_50 : decode cAcceptors_majorityValue 50 = .ok (.goto (-48), 3) := by decide +kernel
theorem dAcceptors_majorityValue_53 : decode cAcceptors_majorityValue 53 = .ok (.iconst 0, 1) := by decide +kernel
theorem dAcceptors_majorityValue_54 : decode cAcceptors_majorityValue 54 = .ok (.ireturn, 1) := by decide +kernel
set_option maxRecDepth 100000 in
set_option maxHeartbeats 4000000 in
theorem c_majorityValue (l : Launch) (D : va_G) (cI cZ : ClassId) (q : Nat → Nat) (n : Nat) (S : Nat) (L : Nat) (f6 : Nat → Int32) (f7 : Nat → Int32) (f8 : Nat → Int32) (sx : Nat) (hL20 : L ≤ 20) (hn5 : n ≤ 5) (hS4 : S ≤ 4) (hsS : sx < S) (hLx : ∀ a t : Nat, a < n → t < S → a * S + t < L) : MI l D [(cI, .int), (cZ, .boolean)] yAcceptors_majorityValue wsAcceptors_majorityValue ({ frames := 1, cells := 0, slots := 0, locals := 24 }) [.ref (q 9), .int (nI sx)] (wAc q cI n S L f6 f7 f8) (fun r w => r = cho n (fun a => f7 (a * S + sx)) (fun a => f8 (a * S + sx)) n 0 ∧ w = (wAc q cI n S L f6 f7 f8)) := by
  intro sz
  refine Met.ofW (cc := cAcceptors_majorityValue) (maxL := 4) (ret := (Option.some .int)) (by decide) rfl ?_
  intro p e s m args below meth c s₁ B hml hv
  obtain ⟨rfl, hsz, hP, hK, hD0, hZ⟩ := hv
  have hx := B.exec
  have hb := B.bytes
  have hr := B.returns
  have hts := atoms_spec (ws := wsAcceptors_majorityValue) B.pre
  have hown : s.vm.findClass RAcceptors = some m.cls := findClass_of_methodNamed B.named
  have hlocks := B.notSynchronized
  subst hsz
  have hD := hD0.self (sz := s.heap.size)
  generalize hAe : va_A (wAc q cI n S L f6 f7 f8) s.heap.size = A at hD ⊢
  have hA : ∀ q : Nat, s.heap.size ≤ q → A q := fun q h => by rw [← hAe]; exact Or.inr h
  have hS : va_S A s.heap s.heap [] := va_S.rf
  have hP : va_P D vwCl (wAc q cI n S L f6 f7 f8) s.heap := hP
  have hl := lv_entry ([.ref (q 9), .int (nI sx)]) (n := 4) (Nat.le_of_ble_eq_true rfl)
  rw [lg_entry_eq]
  generalize (lg_sl ([.ref (q 9), .int (nI sx)]) ++ List.replicate (4 - (lg_sl ([.ref (q 9), .int (nI sx)])).length) Slot.unset).toArray = ls at hl ⊢
  have hl : lv_has ls 4 [(0, .ref (q 9)), (1, .int (nI sx))] := hl
  refine lv_iconst (v := nI 0) hx hb dAcceptors_majorityValue_0 (by decide) ?_
  refine lv_istore_n hx hb dAcceptors_majorityValue_1 rfl hl (by decide) rfl (fun ls hl => ?_)
  have hl : lv_has ls 4 [(2, .int (nI 0)), (0, .ref (q 9)), (1, .int (nI sx))] := hl
  have loop2 : ∀ (d2 i : Nat) (ls : Array Slot) (H : Heap) (locs : List Loc), i + d2 = n → cho n (fun a => f7 (a * S + sx)) (fun a => f8 (a * S + sx)) d2 i = cho n (fun a => f7 (a * S + sx)) (fun a => f8 (a * S + sx)) n 0 → lv_has ls 4 [(2, .int (nI i)), (0, .ref (q 9)), (1, .int (nI sx))] → va_P D vwCl (wAc q cI n S L f6 f7 f8) H → va_D A (wAc q cI n S L f6 f7 f8) → va_S A s.heap H locs → W p l e (headSpec wsAcceptors_majorityValue { frames := 1, cells := 0, slots := 0, locals := 24 }).room s m [.ref (q 9), .int (nI sx)].toArray below meth c H locs 0 0 (MQ below (va_Qi (fun r w => r = cho n (fun a => f7 (a * S + sx)) (fun a => f8 (a * S + sx)) n 0 ∧ w = (wAc q cI n S L f6 f7 f8)) (QW D [(cI, .int), (cZ, .boolean)] A) A) [.ref (q 9), .int (nI sx)].toArray s 0 0 A) (F0 m 2 ls []) := by
    intro d2
    induction d2 with
    | zero =>
      intro i ls H locs hid2 hC hl hP hD hS
      refine lv_iload_n hx hb dAcceptors_majorityValue_2 rfl (lv_at hl 0 rfl) ?_
      refine lv_aload_n hx hb dAcceptors_majorityValue_3 rfl (lv_at hl 1 rfl) ?_
      refine va_get (D := D) (ci := 3) (v := .int (nI n)) (C := RAcceptors) (T := TAcceptors) (N := 5) hx hb hts (fun w h => mc (uAcceptors_in w h)) hown hK hP 0 rfl rfl 0 (by decide) (hts _ (mc wd72)) (fun _ h9 => h9) rfl dAcceptors_majorityValue_4 ?_
      refine lv_icmp_ge (tgt := 53) hx hb dAcceptors_majorityValue_7 (by decide) (fun _ => ?_) (fun h9 => absurd (nI_le (by omega) (by omega)) h9)
      refine lv_iconst (v := nI 0) hx hb dAcceptors_majorityValue_53 (by decide) ?_
      have hCi : nI 0 = cho n (fun a => f7 (a * S + sx)) (fun a => f8 (a * S + sx)) n 0 := by rw [← hC]; rfl
      rw [hCi]
      exact W.iret (v := cho n (fun a => f7 (a * S + sx)) (fun a => f8 (a * S + sx)) n 0) hx hb hr (fun t9 ht9 hW9 => ⟨⟨cho n (fun a => f7 (a * S + sx)) (fun a => f8 (a * S + sx)) n 0, (wAc q cI n S L f6 f7 f8), rfl, ⟨rfl, rfl⟩, by rw [ht9]; exact hP, va_K.moved hW9.alike hK, hD⟩, hS.F ht9⟩) hS.2.2 dAcceptors_majorityValue_54
    | succ d2 ih2 =>
      intro i ls H locs hid2 hC hl hP hD hS
      refine lv_iload_n hx hb dAcceptors_majorityValue_2 rfl (lv_at hl 0 rfl) ?_
      refine lv_aload_n hx hb dAcceptors_majorityValue_3 rfl (lv_at hl 1 rfl) ?_
      refine va_get (D := D) (ci := 3) (v := .int (nI n)) (C := RAcceptors) (T := TAcceptors) (N := 5) hx hb hts (fun w h => mc (uAcceptors_in w h)) hown hK hP 0 rfl rfl 0 (by decide) (hts _ (mc wd72)) (fun _ h9 => h9) rfl dAcceptors_majorityValue_4 ?_
      refine lv_icmp_ge (tgt := 53) hx hb dAcceptors_majorityValue_7 (by decide) (fun h9 => absurd h9 (nI_ge (by omega) (by omega))) (fun _ => ?_)
      refine lv_iload_n hx hb dAcceptors_majorityValue_10 rfl (lv_at hl 0 rfl) ?_
      refine lv_aload_n hx hb dAcceptors_majorityValue_11 rfl (lv_at hl 1 rfl) ?_
      refine va_get (D := D) (ci := 3) (v := .int (nI S)) (C := RAcceptors) (T := TAcceptors) (N := 5) hx hb hts (fun w h => mc (uAcceptors_in w h)) hown hK hP 0 rfl rfl 1 (by decide) (hts _ (mc wd73)) (fun _ h9 => h9) rfl dAcceptors_majorityValue_12 ?_
      refine lv_imul hx hb dAcceptors_majorityValue_15 ?_
      refine lv_topi (nm_r (pk_mul _ _) ?_)
      refine lv_iload_n hx hb dAcceptors_majorityValue_16 rfl (lv_at hl 2 rfl) ?_
      refine lv_iadd hx hb dAcceptors_majorityValue_17 ?_
      refine lv_topi (nm_r (nI_add _ _) ?_)
      refine lv_istore_n hx hb dAcceptors_majorityValue_18 rfl hl (by decide) rfl (fun ls hl => ?_)
      have hl : lv_has ls 4 [(3, .int (nI (i * S + sx))), (2, .int (nI i)), (0, .ref (q 9)), (1, .int (nI sx))] := hl
      refine lv_aload_n hx hb dAcceptors_majorityValue_19 rfl (lv_at hl 2 rfl) ?_
      refine lv_iload_n hx hb dAcceptors_majorityValue_20 rfl (lv_at hl 3 rfl) ?_
      refine lv_aload_n hx hb dAcceptors_majorityValue_21 rfl (lv_at hl 2 rfl) ?_
      refine va_get (D := D) (ci := 3) (v := .ref (q 11)) (C := RAcceptors) (T := TAcceptors) (N := 5) hx hb hts (fun w h => mc (uAcceptors_in w h)) hown hK hP 0 rfl rfl 3 (by decide) (hts _ (mc wd75)) (fun _ h9 => h9) rfl dAcceptors_majorityValue_22 ?_
      refine lv_iload_n hx hb dAcceptors_majorityValue_25 rfl (lv_at hl 0 rfl) ?_
      refine ka_ld (v := f7 (i * S + sx)) hx hb hK hP 2 0 rfl rfl (hLx i sx (by omega) hsS) (by omega) rfl dAcceptors_majorityValue_26 ?_
      have hPc := hP.sub (ws' := (wAc q cI n S L f6 f7 f8)) [0, 1, 2, 3] rfl
      have hDc := hD.sub (ws' := (wAc q cI n S L f6 f7 f8)) [0, 1, 2, 3] (by decide) rfl
      refine kx_i (va_runV (As := [.int (nI sx), .int (f7 (i * S + sx))]) (rest := []) ⟨hx, hb, hml, hown, hts⟩ ((c_acceptorsOf l D cI cZ q n S L f6 f7 f8 sx (f7 (i * S + sx)) (hL20) (hn5) (hS4) (hsS) (hLx)) H.size) (cwV 2 hts (gV wd371 wd373 sl_Acceptors_acceptorsOf wd5 wd374) rfl rfl rfl (by decide +kernel) ⟨Nat.le_of_ble_eq_true rfl, Nat.le_of_ble_eq_true rfl⟩) ⟨fb_PW, va_recv (q0 := 0) (ci := 3) hK hPc rfl rfl, pre_PW hK hPc hDc hZ⟩ rfl rfl hl.1 rfl (lv_room (Nat.le_of_ble_eq_true rfl)) dAcceptors_majorityValue_27 ⟨Nat.zero_le _, Nat.zero_le _⟩) hP hD hS hA [0, 1, 2, 3] [] rfl rfl (by decide) (by decide) (fun r w1 H locs hw hP hD hS => ?_)
      obtain ⟨rfl, rfl⟩ := hw
      have hP : va_P D vwCl (wAc q cI n S L f6 f7 f8) H := hP
      have hD : va_D A (wAc q cI n S L f6 f7 f8) := hD
      refine lv_aload_n hx hb dAcceptors_majorityValue_30 rfl (lv_at hl 2 rfl) ?_
      refine va_get (D := D) (ci := 3) (v := .int (nI n)) (C := RAcceptors) (T := TAcceptors) (N := 5) hx hb hts (fun w h => mc (uAcceptors_in w h)) hown hK hP 0 rfl rfl 0 (by decide) (hts _ (mc wd72)) (fun _ h9 => h9) rfl dAcceptors_majorityValue_31 ?_
      have hPc := hP.sub (ws' := ([] : va_W)) [] rfl
      have hDc := hD.sub (ws' := ([] : va_W)) [] (by decide) rfl
      refine kx_i (va_runSN (As := [.int (nI (cntE (fun a => f7 (a * S + sx)) (f7 (i * S + sx)) n)), .int (nI n)]) (rest := []) ⟨hx, hb, hml, hown, hts⟩ ((c_isMajority l D cI cZ (cntE (fun a => f7 (a * S + sx)) (f7 (i * S + sx)) n) n (Nat.le_trans (cntE_le _ _ _) hn5) (hn5)) H.size) ⟨va_cnB 2 hts (gC wd219) rfl rfl rfl (hZ.n4) (hts _ (mc wd1)) (by decide +kernel) ⟨Nat.le_of_ble_eq_true rfl, Nat.le_of_ble_eq_true rfl⟩, hts _ (mc wd218), trivial⟩ ⟨fb_PW, pre_PW hK hPc hDc hZ⟩ rfl rfl hl.1 rfl (lv_room (Nat.le_of_ble_eq_true rfl)) dAcceptors_majorityValue_34 ⟨Nat.zero_le _, Nat.zero_le _⟩) hP hD hS hA [] [0, 1, 2, 3] rfl rfl (by decide) (by decide) (fun r w1 H locs hw hP hD hS => ?_)
      rcases hw with ⟨rfl, h34, rfl⟩ | ⟨rfl, h34, rfl⟩
      · have hP : va_P D vwCl (wAc q cI n S L f6 f7 f8) H := hP
        have hD : va_D A (wAc q cI n S L f6 f7 f8) := hD
        refine lv_if_eq (tgt := 47) hx hb dAcceptors_majorityValue_37 (by decide) (fun h9 => absurd h9 (by decide)) (fun _ => ?_)
        refine lv_aload_n hx hb dAcceptors_majorityValue_40 rfl (lv_at hl 2 rfl) ?_
        refine va_get (D := D) (ci := 3) (v := .ref (q 12)) (C := RAcceptors) (T := TAcceptors) (N := 5) hx hb hts (fun w h => mc (uAcceptors_in w h)) hown hK hP 0 rfl rfl 4 (by decide) (hts _ (mc wd76)) (fun _ h9 => h9) rfl dAcceptors_majorityValue_41 ?_
        refine lv_iload_n hx hb dAcceptors_majorityValue_44 rfl (lv_at hl 0 rfl) ?_
        refine ka_ld (v := f8 (i * S + sx)) hx hb hK hP 3 0 rfl rfl (hLx i sx (by omega) hsS) (by omega) rfl dAcceptors_majorityValue_45 ?_
        have hCi : f8 (i * S + sx) = cho n (fun a => f7 (a * S + sx)) (fun a => f8 (a * S + sx)) n 0 := by rw [← hC]; exact (cho_s (g := (fun a => f8 (a * S + sx))) h34).symm
        rw [hCi]
        exact W.iret (v := cho n (fun a => f7 (a * S + sx)) (fun a => f8 (a * S + sx)) n 0) hx hb hr (fun t9 ht9 hW9 => ⟨⟨cho n (fun a => f7 (a * S + sx)) (fun a => f8 (a * S + sx)) n 0, (wAc q cI n S L f6 f7 f8), rfl, ⟨rfl, rfl⟩, by rw [ht9]; exact hP, va_K.moved hW9.alike hK, hD⟩, hS.F ht9⟩) hS.2.2 dAcceptors_majorityValue_46
      · have hP : va_P D vwCl (wAc q cI n S L f6 f7 f8) H := hP
        have hD : va_D A (wAc q cI n S L f6 f7 f8) := hD
        refine lv_if_eq (tgt := 47) hx hb dAcceptors_majorityValue_37 (by decide) (fun _ => ?_) (fun h9 => absurd (by decide) h9)
        refine lv_iinc (k := 1) (v := nI (i + 1)) hx hb dAcceptors_majorityValue_47 hl rfl ((nI_succ _).symm) (by decide) rfl (fun ls hl => ?_)
        have hl : lv_has ls 4 [(2, .int (nI (i + 1))), (3, .int (nI (i * S + sx))), (0, .ref (q 9)), (1, .int (nI sx))] := hl
        refine lv_goto (tgt := 2) hx hb dAcceptors_majorityValue_50 (by decide) ?_
        exact ih2 (i + 1) ls H locs (by omega) (by rw [← hC]; exact (cho_n h34).symm) (lv_sub hl [0, 2, 3] rfl) hP hD hS
  exact loop2 n 0 ls s.heap [] (by omega) (rfl) hl hP hD hS
theorem dInteger_bitCount_0 : decode cInteger_bitCount 0 = .ok (.iload_n 0, 1) := by decide +kernel
theorem dInteger_bitCount_1 : decode cInteger_bitCount 1 = .ok (.iload_n 0, 1) := by decide +kernel
theorem dInteger_bitCount_2 : decode cInteger_bitCount 2 = .ok (.iconst 1, 1) := by decide +kernel
theorem dInteger_bitCount_3 : decode cInteger_bitCount 3 = .ok (.iushr, 1) := by decide +kernel
theorem dInteger_bitCount_4 : decode cInteger_bitCount 4 = .ok (.ldc_w 265, 3) := by decide +kernel
theorem dInteger_bitCount_7 : decode cInteger_bitCount 7 = .ok (.iand, 1) := by decide +kernel
theorem dInteger_bitCount_8 : decode cInteger_bitCount 8 = .ok (.isub, 1) := by decide +kernel
theorem dInteger_bitCount_9 : decode cInteger_bitCount 9 = .ok (.istore_n 0, 1) := by decide +kernel
theorem dInteger_bitCount_10 : decode cInteger_bitCount 10 = .ok (.iload_n 0, 1) := by decide +kernel
theorem dInteger_bitCount_11 : decode cInteger_bitCount 11 = .ok (.ldc_w 266, 3) := by decide +kernel
theorem dInteger_bitCount_14 : decode cInteger_bitCount 14 = .ok (.iand, 1) := by decide +kernel
theorem dInteger_bitCount_15 : decode cInteger_bitCount 15 = .ok (.iload_n 0, 1) := by decide +kernel
theorem dInteger_bitCount_16 : decode cInteger_bitCount 16 = .ok (.iconst 2, 1) := by decide +kernel
theorem dInteger_bitCount_17 : decode cInteger_bitCount 17 = .ok (.iushr, 1) := by decide +kernel
theorem dInteger_bitCount_18 : decode cInteger_bitCount 18 = .ok (.ldc_w 266, 3) := by decide +kernel
theorem dInteger_bitCount_21 : decode cInteger_bitCount 21 = .ok (.iand, 1) := by decide +kernel
theorem dInteger_bitCount_22 : decode cInteger_bitCount 22 = .ok (.iadd, 1) := by decide +kernel
theorem dInteger_bitCount_23 : decode cInteger_bitCount 23 = .ok (.istore_n 0, 1) := by decide +kernel
theorem dInteger_bitCount_24 : decode cInteger_bitCount 24 = .ok (.iload_n 0, 1) := by decide +kernel
theorem dInteger_bitCount_25 : decode cInteger_bitCount 25 = .ok (.iload_n 0, 1) := by decide +kernel
theorem dInteger_bitCount_26 : decode cInteger_bitCount 26 = .ok (.iconst 4, 1) := by decide +kernel
theorem dInteger_bitCount_27 : decode cInteger_bitCount 27 = .ok (.iushr, 1) := by decide +kernel
theorem dInteger_bitCount_28 : decode cInteger_bitCount 28 = .ok (.iadd, 1) := by decide +kernel
theorem dInteger_bitCount_29 : decode cInteger_bitCount 29 = .ok (.ldc_w 267, 3) := by decide +kernel
theorem dInteger_bitCount_32 : decode cInteger_bitCount 32 = .ok (.iand, 1) := by decide +kernel
theorem dInteger_bitCount_33 : decode cInteger_bitCount 33 = .ok (.istore_n 0, 1) := by decide +kernel
theorem dInteger_bitCount_34 : decode cInteger_bitCount 34 = .ok (.iload_n 0, 1) := by decide +kernel
theorem dInteger_bitCount_35 : decode cInteger_bitCount 35 = .ok (.iload_n 0, 1) := by decide +kernel
theorem dInteger_bitCount_36 : decode cInteger_bitCount 36 = .ok (.bipush 8, 2) := by decide +kernel
theorem dInteger_bitCount_38 : decode cInteger_bitCount 38 = .ok (.iushr, 1) := by decide +kernel
theorem dInteger_bitCount_39 : decode cInteger_bitCount 39 = .ok (.iadd, 1) := by decide +kernel
theorem dInteger_bitCount_40 : decode cInteger_bitCount 40 = .ok (.istore_n 0, 1) := by decide +kernel
theorem dInteger_bitCount_41 : decode cInteger_bitCount 41 = .ok (.iload_n 0, 1) := by decide +kernel
theorem dInteger_bitCount_42 : decode cInteger_bitCount 42 = .ok (.iload_n 0, 1) := by decide +kernel
theorem dInteger_bitCount_43 : decode cInteger_bitCount 43 = .ok (.bipush 16, 2) := by decide +kernel
theorem dInteger_bitCount_45 : decode cInteger_bitCount 45 = .ok (.iushr, 1) := by decide +kernel
theorem dInteger_bitCount_46 : decode cInteger_bitCount 46 = .ok (.iadd, 1) := by decide +kernel
theorem dInteger_bitCount_47 : decode cInteger_bitCount 47 = .ok (.istore_n 0, 1) := by decide +kernel
theorem dInteger_bitCount_48 : decode cInteger_bitCount 48 = .ok (.iload_n 0, 1) := by decide +kernel
theorem dInteger_bitCount_49 : decode cInteger_bitCount 49 = .ok (.bipush 63, 2) := by decide +kernel
theorem dInteger_bitCount_51 : decode cInteger_bitCount 51 = .ok (.iand, 1) := by decide +kernel
theorem dInteger_bitCount_52 : decode cInteger_bitCount 52 = .ok (.ireturn, 1) := by decide +kernel
set_option maxRecDepth 100000 in
set_option maxHeartbeats 4000000 in
theorem c_bitCount (l : Launch) (D : va_G) (cI cZ : ClassId) (k : Nat) (hk32 : k < 32) : MI l D [(cI, .int), (cZ, .boolean)] yInteger_bitCount wsInteger_bitCount ({ frames := 0, cells := 0, slots := 0, locals := 0 }) [.int (nI k)] ([] : va_W) (fun r w => r = nI (popn k) ∧ w = ([] : va_W)) := by
  intro sz
  refine Met.ofW (cc := cInteger_bitCount) (maxL := 1) (ret := (Option.some .int)) (by decide) rfl ?_
  intro p e s m args below meth c s₁ B hml hv
  obtain ⟨rfl, hsz, hP, hK, hD0, hZ⟩ := hv
  have hx := B.exec
  have hb := B.bytes
  have hr := B.returns
  have hts := atoms_spec (ws := wsInteger_bitCount) B.pre
  have hown : s.vm.findClass RInteger = some m.cls := findClass_of_methodNamed B.named
  have hlocks := B.notSynchronized
  subst hsz
  have hD := hD0.self (sz := s.heap.size)
  generalize hAe : va_A ([] : va_W) s.heap.size = A at hD ⊢
  have hA : ∀ q : Nat, s.heap.size ≤ q → A q := fun q h => by rw [← hAe]; exact Or.inr h
  have hS : va_S A s.heap s.heap [] := va_S.rf
  have hP : va_P D vwCl ([] : va_W) s.heap := hP
  have hl := lv_entry ([.int (nI k)]) (n := 1) (Nat.le_of_ble_eq_true rfl)
  rw [lg_entry_eq]
  generalize (lg_sl ([.int (nI k)]) ++ List.replicate (1 - (lg_sl ([.int (nI k)])).length) Slot.unset).toArray = ls at hl ⊢
  have hl : lv_has ls 1 [(0, .int (nI k))] := hl
  refine lv_iload_n hx hb dInteger_bitCount_0 rfl (lv_at hl 0 rfl) ?_
  refine lv_iload_n hx hb dInteger_bitCount_1 rfl (lv_at hl 0 rfl) ?_
  refine lv_iconst (v := nI 1) hx hb dInteger_bitCount_2 (by decide) ?_
  refine lv_iushr (v := ush (nI k) (nI 1)) hx hb dInteger_bitCount_3 rfl ?_
  refine lv_ldcw (v := 1431655765) hx hb hown (hts _ (mc wd214)) dInteger_bitCount_4 ?_
  refine lv_iand hx hb dInteger_bitCount_7 ?_
  refine lv_isub hx hb dInteger_bitCount_8 ?_
  refine lv_topi (nm_r (rfl) ?_)
  refine lv_istore_n hx hb dInteger_bitCount_9 rfl hl (by decide) rfl (fun ls hl => ?_)
  have hl : lv_has ls 1 [(0, .int (bc1 (nI k)))] := hl
  refine lv_iload_n hx hb dInteger_bitCount_10 rfl (lv_at hl 0 rfl) ?_
  refine lv_ldcw (v := 858993459) hx hb hown (hts _ (mc wd215)) dInteger_bitCount_11 ?_
  refine lv_iand hx hb dInteger_bitCount_14 ?_
  refine lv_iload_n hx hb dInteger_bitCount_15 rfl (lv_at hl 0 rfl) ?_
  refine lv_iconst (v := nI 2) hx hb dInteger_bitCount_16 (by decide) ?_
  refine lv_iushr (v := ush (bc1 (nI k)) (nI 2)) hx hb dInteger_bitCount_17 rfl ?_
  refine lv_ldcw (v := 858993459) hx hb hown (hts _ (mc wd215)) dInteger_bitCount_18 ?_
  refine lv_iand hx hb dInteger_bitCount_21 ?_
  refine lv_iadd hx hb dInteger_bitCount_22 ?_
  refine lv_topi (nm_r (rfl) ?_)
  refine lv_istore_n hx hb dInteger_bitCount_23 rfl hl (by decide) rfl (fun ls hl => ?_)
  have hl : lv_has ls 1 [(0, .int (bc2 (bc1 (nI k))))] := hl
  refine lv_iload_n hx hb dInteger_bitCount_24 rfl (lv_at hl 0 rfl) ?_
  refine lv_iload_n hx hb dInteger_bitCount_25 rfl (lv_at hl 0 rfl) ?_
  refine lv_iconst (v := nI 4) hx hb dInteger_bitCount_26 (by decide) ?_
  refine lv_iushr (v := ush (bc2 (bc1 (nI k))) (nI 4)) hx hb dInteger_bitCount_27 rfl ?_
  refine lv_iadd hx hb dInteger_bitCount_28 ?_
  refine lv_ldcw (v := 252645135) hx hb hown (hts _ (mc wd216)) dInteger_bitCount_29 ?_
  refine lv_iand hx hb dInteger_bitCount_32 ?_
  refine lv_topi (nm_r (rfl) ?_)
  refine lv_istore_n hx hb dInteger_bitCount_33 rfl hl (by decide) rfl (fun ls hl => ?_)
  have hl : lv_has ls 1 [(0, .int (bc3 (bc2 (bc1 (nI k)))))] := hl
  refine lv_iload_n hx hb dInteger_bitCount_34 rfl (lv_at hl 0 rfl) ?_
  refine lv_iload_n hx hb dInteger_bitCount_35 rfl (lv_at hl 0 rfl) ?_
  refine lv_bipush (v := nI 8) hx hb dInteger_bitCount_36 (by decide) ?_
  refine lv_iushr (v := ush (bc3 (bc2 (bc1 (nI k)))) (nI 8)) hx hb dInteger_bitCount_38 rfl ?_
  refine lv_iadd hx hb dInteger_bitCount_39 ?_
  refine lv_topi (nm_r (rfl) ?_)
  refine lv_istore_n hx hb dInteger_bitCount_40 rfl hl (by decide) rfl (fun ls hl => ?_)
  have hl : lv_has ls 1 [(0, .int (bc4 (bc3 (bc2 (bc1 (nI k))))))] := hl
  refine lv_iload_n hx hb dInteger_bitCount_41 rfl (lv_at hl 0 rfl) ?_
  refine lv_iload_n hx hb dInteger_bitCount_42 rfl (lv_at hl 0 rfl) ?_
  refine lv_bipush (v := nI 16) hx hb dInteger_bitCount_43 (by decide) ?_
  refine lv_iushr (v := ush (bc4 (bc3 (bc2 (bc1 (nI k))))) (nI 16)) hx hb dInteger_bitCount_45 rfl ?_
  refine lv_iadd hx hb dInteger_bitCount_46 ?_
  refine lv_topi (nm_r (rfl) ?_)
  refine lv_istore_n hx hb dInteger_bitCount_47 rfl hl (by decide) rfl (fun ls hl => ?_)
  have hl : lv_has ls 1 [(0, .int (bc5 (bc4 (bc3 (bc2 (bc1 (nI k)))))))] := hl
  refine lv_iload_n hx hb dInteger_bitCount_48 rfl (lv_at hl 0 rfl) ?_
  refine lv_bipush (v := nI 63) hx hb dInteger_bitCount_49 (by decide) ?_
  refine lv_iand hx hb dInteger_bitCount_51 ?_
  refine lv_topi (nm_r (bc_fin k hk32) ?_)
  exact W.iret (v := nI (popn k)) hx hb hr (fun t9 ht9 hW9 => ⟨⟨nI (popn k), ([] : va_W), rfl, ⟨rfl, rfl⟩, by rw [ht9]; exact hP, va_K.moved hW9.alike hK, hD⟩, hS.F ht9⟩) hS.2.2 dInteger_bitCount_52
theorem dProposers_promises_0 : decode cProposers_promises 0 = .ok (.aload_n 0, 1) := by decide +kernel
theorem dProposers_promises_1 : decode cProposers_promises 1 = .ok (.getfield 22, 3) := by decide +kernel
theorem dProposers_promises_4 : decode cProposers_promises 4 = .ok (.iload_n 1, 1) := by decide +kernel
theorem dProposers_promises_5 : decode cProposers_promises 5 = .ok (.iaload, 1) := by decide +kernel
theorem dProposers_promises_6 : decode cProposers_promises 6 = .ok (.invokestatic 37, 3) := by decide +kernel
theorem dProposers_promises_9 : decode cProposers_promises 9 = .ok (.ireturn, 1) := by decide +kernel
set_option maxRecDepth 100000 in
set_option maxHeartbeats 4000000 in
theorem c_promises (l : Launch) (D : va_G) (cI cZ : ClassId) (q : Nat → Nat) (n : Nat) (L : Nat) (f1 : Nat → Int32) (f2 : Nat → Int32) (f3 : Nat → Int32) (f4 : Nat → Int32) (f5 : Nat → Int32) (k : Nat) (e0 : Nat) (hL20 : L ≤ 20) (hkL : k < L) (hE : f3 k = nI e0) (he32 : e0 < 32) : MI l D [(cI, .int), (cZ, .boolean)] yProposers_promises wsProposers_promises ({ frames := 1, cells := 0, slots := 0, locals := 20 }) [.ref (q 3), .int (nI k)] (wPr q cI n L f1 f2 f3 f4 f5) (fun r w => r = nI (popn e0) ∧ w = (wPr q cI n L f1 f2 f3 f4 f5)) := by
  intro sz
  refine Met.ofW (cc := cProposers_promises) (maxL := 2) (ret := (Option.some .int)) (by decide) rfl ?_
  intro p e s m args below meth c s₁ B hml hv
  obtain ⟨rfl, hsz, hP, hK, hD0, hZ⟩ := hv
  have hx := B.exec
  have hb := B.bytes
  have hr := B.returns
  have hts := atoms_spec (ws := wsProposers_promises) B.pre
  have hown : s.vm.findClass RProposers = some m.cls := findClass_of_methodNamed B.named
  have hlocks := B.notSynchronized
  subst hsz
  have hD := hD0.self (sz := s.heap.size)
  generalize hAe : va_A (wPr q cI n L f1 f2 f3 f4 f5) s.heap.size = A at hD ⊢
  have hA : ∀ q : Nat, s.heap.size ≤ q → A q := fun q h => by rw [← hAe]; exact Or.inr h
  have hS : va_S A s.heap s.heap [] := va_S.rf
  have hP : va_P D vwCl (wPr q cI n L f1 f2 f3 f4 f5) s.heap := hP
  have hl := lv_entry ([.ref (q 3), .int (nI k)]) (n := 2) (Nat.le_of_ble_eq_true rfl)
  rw [lg_entry_eq]
  generalize (lg_sl ([.ref (q 3), .int (nI k)]) ++ List.replicate (2 - (lg_sl ([.ref (q 3), .int (nI k)])).length) Slot.unset).toArray = ls at hl ⊢
  have hl : lv_has ls 2 [(0, .ref (q 3)), (1, .int (nI k))] := hl
  refine lv_aload_n hx hb dProposers_promises_0 rfl (lv_at hl 0 rfl) ?_
  refine va_get (D := D) (ci := 2) (v := .ref (q 6)) (C := RProposers) (T := TProposers) (N := 6) hx hb hts (fun w h => mc (uProposers_in w h)) hown hK hP 0 rfl rfl 3 (by decide) (hts _ (mc wd49)) (fun _ h9 => h9) rfl dProposers_promises_1 ?_
  refine lv_iload_n hx hb dProposers_promises_4 rfl (lv_at hl 1 rfl) ?_
  refine ka_ld (v := nI e0) hx hb hK hP 3 0 rfl rfl (by omega) (by omega) hE dProposers_promises_5 ?_
  have hPc := hP.sub (ws' := ([] : va_W)) [] rfl
  have hDc := hD.sub (ws' := ([] : va_W)) [] (by decide) rfl
  refine kx_i (va_runS (As := [.int (nI e0)]) (rest := []) ⟨hx, hb, hml, hown, hts⟩ ((c_bitCount l D cI cZ e0 (he32)) s.heap.size) (va_cwS 1 hts (gS wd211 wd212 wd8 wd213) rfl rfl rfl (by decide +kernel) ⟨Nat.le_of_ble_eq_true rfl, Nat.le_of_ble_eq_true rfl⟩) ⟨fb_PW, pre_PW hK hPc hDc hZ⟩ rfl rfl hl.1 rfl (lv_room (Nat.le_of_ble_eq_true rfl)) dProposers_promises_6 ⟨Nat.zero_le _, Nat.zero_le _⟩) hP hD hS hA [] [0, 1, 2, 3, 4, 5] rfl rfl (by decide) (by decide) (fun r w1 H locs hw hP hD hS => ?_)
  obtain ⟨rfl, rfl⟩ := hw
  have hP : va_P D vwCl (wPr q cI n L f1 f2 f3 f4 f5) H := hP
  have hD : va_D A (wPr q cI n L f1 f2 f3 f4 f5) := hD
  exact W.iret (v := nI (popn e0)) hx hb hr (fun t9 ht9 hW9 => ⟨⟨nI (popn e0), (wPr q cI n L f1 f2 f3 f4 f5), rfl, ⟨rfl, rfl⟩, by rw [ht9]; exact hP, va_K.moved hW9.alike hK, hD⟩, hS.F ht9⟩) hS.2.2 dProposers_promises_9
theorem dProposers_wouldWin_0 : decode cProposers_wouldWin 0 = .ok (.aload_n 0, 1) := by decide +kernel
theorem dProposers_wouldWin_1 : decode cProposers_wouldWin 1 = .ok (.iload_n 1, 1) := by decide +kernel
theorem dProposers_wouldWin_2 : decode cProposers_wouldWin 2 = .ok (.iload_n 3, 1) := by decide +kernel
theorem dProposers_wouldWin_3 : decode cProposers_wouldWin 3 = .ok (.invokevirtual 43, 3) := by decide +kernel
theorem dProposers_wouldWin_6 : decode cProposers_wouldWin 6 = .ok (.ifCond .eq 30, 3) := by decide +kernel
theorem dProposers_wouldWin_9 : decode cProposers_wouldWin 9 = .ok (.aload_n 0, 1) := by decide +kernel
theorem dProposers_wouldWin_10 : decode cProposers_wouldWin 10 = .ok (.getfield 22, 3) := by decide +kernel
theorem dProposers_wouldWin_13 : decode cProposers_wouldWin 13 = .ok (.iload_n 1, 1) := by decide +kernel
theorem dProposers_wouldWin_14 : decode cProposers_wouldWin 14 = .ok (.iaload, 1) := by decide +kernel
theorem dProposers_wouldWin_15 : decode cProposers_wouldWin 15 = .ok (.iconst 1, 1) := by decide +kernel
theorem dProposers_wouldWin_16 : decode cProposers_wouldWin 16 = .ok (.iload_n 2, 1) := by decide +kernel
theorem dProposers_wouldWin_17 : decode cProposers_wouldWin 17 = .ok (.ishl, 1) := by decide +kernel
theorem dProposers_wouldWin_18 : decode cProposers_wouldWin 18 = .ok (.ior, 1) := by decide +kernel
theorem dProposers_wouldWin_19 : decode cProposers_wouldWin 19 = .ok (.invokestatic 37, 3) := by decide +kernel
theorem dProposers_wouldWin_22 : decode cProposers_wouldWin 22 = .ok (.aload_n 0, 1) := by decide +kernel
theorem dProposers_wouldWin_23 : decode cProposers_wouldWin 23 = .ok (.getfield 9, 3) := by decide +kernel
theorem dProposers_wouldWin_26 : decode cProposers_wouldWin 26 = .ok (.invokestatic 47, 3) := by decide +kernel
theorem dProposers_wouldWin_29 : decode cProposers_wouldWin 29 = .ok (.ifCond .eq 7, 3) := by decide +kernel
theorem dProposers_wouldWin_32 : decode cProposers_wouldWin 32 = .ok (.iconst 1, 1) := by decide +kernel
theorem dProposers_wouldWin_33 : decode cProposers_wouldWin 33 = .ok (.goto 4, 3) := by decide +kernel
theorem dProposers_wouldWin_36 : decode cProposers_wouldWin 36 = .ok (.iconst 0, 1) := by decide +kernel
theorem dProposers_wouldWin_37 : decode cProposers_wouldWin 37 = .ok (.ireturn, 1) := by decide +kernel
set_option maxRecDepth 100000 in
set_option maxHeartbeats 4000000 in
theorem c_wouldWin (l : Launch) (D : va_G) (cI cZ : ClassId) (q : Nat → Nat) (n : Nat) (L : Nat) (f1 : Nat → Int32) (f2 : Nat → Int32) (f3 : Nat → Int32) (f4 : Nat → Int32) (f5 : Nat → Int32) (k : Nat) (sd : Int32) (b : Int32) (e0 : Nat) (hL20 : L ≤ 20) (hkL : k < L) (hn5 : n ≤ 5) (hE : orb (f3 k) sd = nI e0) (he32 : e0 < 32) : MI l D [(cI, .int), (cZ, .boolean)] yProposers_wouldWin wsProposers_wouldWin ({ frames := 1, cells := 0, slots := 0, locals := 22 }) [.ref (q 3), .int (nI k), .int sd, .int b] (wPr q cI n L f1 f2 f3 f4 f5) (fun r w => (r = nI 1 ∧ ((f1 k = nI 1 ∧ f2 k = b) ∧ n < 2 * popn e0) ∧ w = (wPr q cI n L f1 f2 f3 f4 f5)) ∨ (r = nI 0 ∧ (¬ ((f1 k = nI 1 ∧ f2 k = b) ∧ n < 2 * popn e0)) ∧ w = (wPr q cI n L f1 f2 f3 f4 f5))) := by
  intro sz
  refine Met.ofW (cc := cProposers_wouldWin) (maxL := 4) (ret := (Option.some .boolean)) (by decide) rfl ?_
  intro p e s m args below meth c s₁ B hml hv
  obtain ⟨rfl, hsz, hP, hK, hD0, hZ⟩ := hv
  have hx := B.exec
  have hb := B.bytes
  have hr := B.returns
  have hts := atoms_spec (ws := wsProposers_wouldWin) B.pre
  have hown : s.vm.findClass RProposers = some m.cls := findClass_of_methodNamed B.named
  have hlocks := B.notSynchronized
  subst hsz
  have hD := hD0.self (sz := s.heap.size)
  generalize hAe : va_A (wPr q cI n L f1 f2 f3 f4 f5) s.heap.size = A at hD ⊢
  have hA : ∀ q : Nat, s.heap.size ≤ q → A q := fun q h => by rw [← hAe]; exact Or.inr h
  have hS : va_S A s.heap s.heap [] := va_S.rf
  have hP : va_P D vwCl (wPr q cI n L f1 f2 f3 f4 f5) s.heap := hP
  have hl := lv_entry ([.ref (q 3), .int (nI k), .int sd, .int b]) (n := 4) (Nat.le_of_ble_eq_true rfl)
  rw [lg_entry_eq]
  generalize (lg_sl ([.ref (q 3), .int (nI k), .int sd, .int b]) ++ List.replicate (4 - (lg_sl ([.ref (q 3), .int (nI k), .int sd, .int b])).length) Slot.unset).toArray = ls at hl ⊢
  have hl : lv_has ls 4 [(0, .ref (q 3)), (1, .int (nI k)), (2, .int sd), (3, .int b)] := hl
  refine lv_aload_n hx hb dProposers_wouldWin_0 rfl (lv_at hl 0 rfl) ?_
  refine lv_iload_n hx hb dProposers_wouldWin_1 rfl (lv_at hl 1 rfl) ?_
  refine lv_iload_n hx hb dProposers_wouldWin_2 rfl (lv_at hl 3 rfl) ?_
  have hPc := hP.sub (ws' := (wPr q cI n L f1 f2 f3 f4 f5)) [0, 1, 2, 3, 4, 5] rfl
  have hDc := hD.sub (ws' := (wPr q cI n L f1 f2 f3 f4 f5)) [0, 1, 2, 3, 4, 5] (by decide) rfl
  refine kx_i (va_runV (As := [.int (nI k), .int b]) (rest := []) ⟨hx, hb, hml, hown, hts⟩ ((c_awaits l D cI cZ q n L f1 f2 f3 f4 f5 k b (hL20) (hkL)) s.heap.size) (cwV 2 hts (gV wd207 wd209 sl_Proposers_awaits wd3 wd210) rfl rfl rfl (by decide +kernel) ⟨Nat.le_of_ble_eq_true rfl, Nat.le_of_ble_eq_true rfl⟩) ⟨fb_PW, va_recv (q0 := 0) (ci := 2) hK hPc rfl rfl, pre_PW hK hPc hDc hZ⟩ rfl rfl hl.1 rfl (lv_room (Nat.le_of_ble_eq_true rfl)) dProposers_wouldWin_3 ⟨Nat.zero_le _, Nat.zero_le _⟩) hP hD hS hA [0, 1, 2, 3, 4, 5] [] rfl rfl (by decide) (by decide) (fun r w1 H locs hw hP hD hS => ?_)
  rcases hw with ⟨rfl, h3, rfl⟩ | ⟨rfl, h3, rfl⟩
  · have hP : va_P D vwCl (wPr q cI n L f1 f2 f3 f4 f5) H := hP
    have hD : va_D A (wPr q cI n L f1 f2 f3 f4 f5) := hD
    refine lv_if_eq (tgt := 36) hx hb dProposers_wouldWin_6 (by decide) (fun h9 => absurd h9 (by decide)) (fun _ => ?_)
    refine lv_aload_n hx hb dProposers_wouldWin_9 rfl (lv_at hl 0 rfl) ?_
    refine va_get (D := D) (ci := 2) (v := .ref (q 6)) (C := RProposers) (T := TProposers) (N := 6) hx hb hts (fun w h => mc (uProposers_in w h)) hown hK hP 0 rfl rfl 3 (by decide) (hts _ (mc wd49)) (fun _ h9 => h9) rfl dProposers_wouldWin_10 ?_
    refine lv_iload_n hx hb dProposers_wouldWin_13 rfl (lv_at hl 1 rfl) ?_
    refine ka_ld (v := f3 k) hx hb hK hP 3 0 rfl rfl (by omega) (by omega) rfl dProposers_wouldWin_14 ?_
    refine lv_iconst (v := nI 1) hx hb dProposers_wouldWin_15 (by decide) ?_
    refine lv_iload_n hx hb dProposers_wouldWin_16 rfl (lv_at hl 2 rfl) ?_
    refine lv_ishl hx hb dProposers_wouldWin_17 ?_
    refine lv_ior hx hb dProposers_wouldWin_18 ?_
    refine lv_topi (nm_r (hE) ?_)
    have hPc := hP.sub (ws' := ([] : va_W)) [] rfl
    have hDc := hD.sub (ws' := ([] : va_W)) [] (by decide) rfl
    refine kx_i (va_runS (As := [.int (nI e0)]) (rest := []) ⟨hx, hb, hml, hown, hts⟩ ((c_bitCount l D cI cZ e0 (he32)) H.size) (va_cwS 1 hts (gS wd211 wd212 wd8 wd213) rfl rfl rfl (by decide +kernel) ⟨Nat.le_of_ble_eq_true rfl, Nat.le_of_ble_eq_true rfl⟩) ⟨fb_PW, pre_PW hK hPc hDc hZ⟩ rfl rfl hl.1 rfl (lv_room (Nat.le_of_ble_eq_true rfl)) dProposers_wouldWin_19 ⟨Nat.zero_le _, Nat.zero_le _⟩) hP hD hS hA [] [0, 1, 2, 3, 4, 5] rfl rfl (by decide) (by decide) (fun r w1 H locs hw hP hD hS => ?_)
    obtain ⟨rfl, rfl⟩ := hw
    have hP : va_P D vwCl (wPr q cI n L f1 f2 f3 f4 f5) H := hP
    have hD : va_D A (wPr q cI n L f1 f2 f3 f4 f5) := hD
    refine lv_aload_n hx hb dProposers_wouldWin_22 rfl (lv_at hl 0 rfl) ?_
    refine va_get (D := D) (ci := 2) (v := .int (nI n)) (C := RProposers) (T := TProposers) (N := 6) hx hb hts (fun w h => mc (uProposers_in w h)) hown hK hP 0 rfl rfl 0 (by decide) (hts _ (mc wd46)) (fun _ h9 => h9) rfl dProposers_wouldWin_23 ?_
    have hPc := hP.sub (ws' := ([] : va_W)) [] rfl
    have hDc := hD.sub (ws' := ([] : va_W)) [] (by decide) rfl
    refine kx_i (va_runSN (As := [.int (nI (popn e0)), .int (nI n)]) (rest := []) ⟨hx, hb, hml, hown, hts⟩ ((c_isMajority l D cI cZ (popn e0) n (popn_le _) (hn5)) H.size) ⟨va_cnB 2 hts (gC wd219) rfl rfl rfl (hZ.n2) (hts _ (mc wd1)) (by decide +kernel) ⟨Nat.le_of_ble_eq_true rfl, Nat.le_of_ble_eq_true rfl⟩, hts _ (mc wd218), trivial⟩ ⟨fb_PW, pre_PW hK hPc hDc hZ⟩ rfl rfl hl.1 rfl (lv_room (Nat.le_of_ble_eq_true rfl)) dProposers_wouldWin_26 ⟨Nat.zero_le _, Nat.zero_le _⟩) hP hD hS hA [] [0, 1, 2, 3, 4, 5] rfl rfl (by decide) (by decide) (fun r w1 H locs hw hP hD hS => ?_)
    rcases hw with ⟨rfl, h26, rfl⟩ | ⟨rfl, h26, rfl⟩
    · have hP : va_P D vwCl (wPr q cI n L f1 f2 f3 f4 f5) H := hP
      have hD : va_D A (wPr q cI n L f1 f2 f3 f4 f5) := hD
      refine lv_if_eq (tgt := 36) hx hb dProposers_wouldWin_29 (by decide) (fun h9 => absurd h9 (by decide)) (fun _ => ?_)
      refine lv_iconst (v := nI 1) hx hb dProposers_wouldWin_32 (by decide) ?_
      refine lv_goto (tgt := 37) hx hb dProposers_wouldWin_33 (by decide) ?_
      exact W.zret (v := nI 1) (ty := .boolean) hx hb hr (by decide) (fun t9 ht9 hW9 => ⟨⟨nI 1, (wPr q cI n L f1 f2 f3 f4 f5), rfl, Or.inl ⟨rfl, ⟨h3, h26⟩, rfl⟩, by rw [ht9]; exact hP, va_K.moved hW9.alike hK, hD⟩, hS.F ht9⟩) hS.2.2 dProposers_wouldWin_37
    · have hP : va_P D vwCl (wPr q cI n L f1 f2 f3 f4 f5) H := hP
      have hD : va_D A (wPr q cI n L f1 f2 f3 f4 f5) := hD
      refine lv_if_eq (tgt := 36) hx hb dProposers_wouldWin_29 (by decide) (fun _ => ?_) (fun h9 => absurd (by decide) h9)
      refine lv_iconst (v := nI 0) hx hb dProposers_wouldWin_36 (by decide) ?_
      exact W.zret (v := nI 0) (ty := .boolean) hx hb hr (by decide) (fun t9 ht9 hW9 => ⟨⟨nI 0, (wPr q cI n L f1 f2 f3 f4 f5), rfl, Or.inr ⟨rfl, fun h => h26 h.2, rfl⟩, by rw [ht9]; exact hP, va_K.moved hW9.alike hK, hD⟩, hS.F ht9⟩) hS.2.2 dProposers_wouldWin_37
  · have hP : va_P D vwCl (wPr q cI n L f1 f2 f3 f4 f5) H := hP
    have hD : va_D A (wPr q cI n L f1 f2 f3 f4 f5) := hD
    refine lv_if_eq (tgt := 36) hx hb dProposers_wouldWin_6 (by decide) (fun _ => ?_) (fun h9 => absurd (by decide) h9)
    refine lv_iconst (v := nI 0) hx hb dProposers_wouldWin_36 (by decide) ?_
    exact W.zret (v := nI 0) (ty := .boolean) hx hb hr (by decide) (fun t9 ht9 hW9 => ⟨⟨nI 0, (wPr q cI n L f1 f2 f3 f4 f5), rfl, Or.inr ⟨rfl, fun h => h3 h.1, rfl⟩, by rw [ht9]; exact hP, va_K.moved hW9.alike hK, hD⟩, hS.F ht9⟩) hS.2.2 dProposers_wouldWin_37
theorem dProposers_takePromise_0 : decode cProposers_takePromise 0 = .ok (.aload_n 0, 1) := by decide +kernel
theorem dProposers_takePromise_1 : decode cProposers_takePromise 1 = .ok (.iload_n 1, 1) := by decide +kernel
theorem dProposers_takePromise_2 : decode cProposers_takePromise 2 = .ok (.iload_n 3, 1) := by decide +kernel
theorem dProposers_takePromise_3 : decode cProposers_takePromise 3 = .ok (.invokevirtual 43, 3) := by decide +kernel
theorem dProposers_takePromise_6 : decode cProposers_takePromise 6 = .ok (.ifCond .ne 5, 3) := by decide +kernel
theorem dProposers_takePromise_9 : decode cProposers_takePromise 9 = .ok (.iconst 0, 1) := by decide +kernel
theorem dProposers_takePromise_10 : decode cProposers_takePromise 10 = .ok (.ireturn, 1) := by decide +kernel
theorem dProposers_takePromise_11 : decode cProposers_takePromise 11 = .ok (.aload_n 0, 1) := by decide +kernel
theorem dProposers_takePromise_12 : decode cProposers_takePromise 12 = .ok (.getfield 22, 3) := by decide +kernel
theorem dProposers_takePromise_15 : decode cProposers_takePromise 15 = .ok (.iload_n 1, 1) := by decide +kernel
theorem dProposers_takePromise_16 : decode cProposers_takePromise 16 = .ok (.dup2, 1) := by decide +kernel
theorem dProposers_takePromise_17 : decode cProposers_takePromise 17 = .ok (.iaload, 1) := by decide +kernel
theorem dProposers_takePromise_18 : decode cProposers_takePromise 18 = .ok (.iconst 1, 1) := by decide +kernel
theorem dProposers_takePromise_19 : decode cProposers_takePromise 19 = .ok (.iload_n 2, 1) := by decide +kernel
theorem dProposers_takePromise_20 : decode cProposers_takePromise 20 = .ok (.ishl, 1) := by decide +kernel
theorem dProposers_takePromise_21 : decode cProposers_takePromise 21 = .ok (.ior, 1) := by decide +kernel
theorem dProposers_takePromise_22 : decode cProposers_takePromise 22 = .ok (.iastore, 1) := by decide +kernel
theorem dProposers_takePromise_23 : decode cProposers_takePromise 23 = .ok (.iload 4, 2) := by decide +kernel
theorem dProposers_takePromise_25 : decode cProposers_takePromise 25 = .ok (.aload_n 0, 1) := by decide +kernel
theorem dProposers_takePromise_26 : decode cProposers_takePromise 26 = .ok (.getfield 25, 3) := by decide +kernel
theorem dProposers_takePromise_29 : decode cProposers_takePromise 29 = .ok (.iload_n 1, 1) := by decide +kernel
theorem dProposers_takePromise_30 : decode cProposers_takePromise 30 = .ok (.iaload, 1) := by decide +kernel
theorem dProposers_takePromise_31 : decode cProposers_takePromise 31 = .ok (.if_icmp .le 19, 3) := by decide +kernel
theorem dProposers_takePromise_34 : decode cProposers_takePromise 34 = .ok (.aload_n 0, 1) := by decide +kernel
theorem dProposers_takePromise_35 : decode cProposers_takePromise 35 = .ok (.getfield 25, 3) := by decide +kernel
theorem dProposers_takePromise_38 : decode cProposers_takePromise 38 = .ok (.iload_n 1, 1) := by decide +kernel
theorem dProposers_takePromise_39 : decode cProposers_takePromise 39 = .ok (.iload 4, 2) := by decide +kernel
theorem dProposers_takePromise_41 : decode cProposers_takePromise 41 = .ok (.iastore, 1) := by decide +kernel
theorem dProposers_takePromise_42 : decode cProposers_takePromise 42 = .ok (.aload_n 0, 1) := by decide +kernel
theorem dProposers_takePromise_43 : decode cProposers_takePromise 43 = .ok (.getfield 28, 3) := by decide +kernel
theorem dProposers_takePromise_46 : decode cProposers_takePromise 46 = .ok (.iload_n 1, 1) := by decide +kernel
theorem dProposers_takePromise_47 : decode cProposers_takePromise 47 = .ok (.iload 5, 2) := by decide +kernel
theorem dProposers_takePromise_49 : decode cProposers_takePromise 49 = .ok (.iastore, 1) := by decide +kernel
theorem dProposers_takePromise_50 : decode cProposers_takePromise 50 = .ok (.aload_n 0, 1) := by decide +kernel
theorem dProposers_takePromise_51 : decode cProposers_takePromise 51 = .ok (.iload_n 1, 1) := by decide +kernel
theorem dProposers_takePromise_52 : decode cProposers_takePromise 52 = .ok (.invokevirtual 50, 3) := by decide +kernel
theorem dProposers_takePromise_55 : decode cProposers_takePromise 55 = .ok (.aload_n 0, 1) := by decide +kernel
theorem dProposers_takePromise_56 : decode cProposers_takePromise 56 = .ok (.getfield 9, 3) := by decide +kernel
theorem dProposers_takePromise_59 : decode cProposers_takePromise 59 = .ok (.invokestatic 47, 3) := by decide +kernel
theorem dProposers_takePromise_62 : decode cProposers_takePromise 62 = .ok (.ifCond .ne 5, 3) := by decide +kernel
theorem dProposers_takePromise_65 : decode cProposers_takePromise 65 = .ok (.iconst 0, 1) := by decide +kernel
theorem dProposers_takePromise_66 : decode cProposers_takePromise 66 = .ok (.ireturn, 1) := by decide +kernel
theorem dProposers_takePromise_67 : decode cProposers_takePromise 67 = .ok (.aload_n 0, 1) := by decide +kernel
theorem dProposers_takePromise_68 : decode cProposers_takePromise 68 = .ok (.getfield 15, 3) := by decide +kernel
theorem dProposers_takePromise_71 : decode cProposers_takePromise 71 = .ok (.iload_n 1, 1) := by decide +kernel
theorem dProposers_takePromise_72 : decode cProposers_takePromise 72 = .ok (.iconst 2, 1) := by decide +kernel
theorem dProposers_takePromise_73 : decode cProposers_takePromise 73 = .ok (.iastore, 1) := by decide +kernel
theorem dProposers_takePromise_74 : decode cProposers_takePromise 74 = .ok (.iconst 1, 1) := by decide +kernel
theorem dProposers_takePromise_75 : decode cProposers_takePromise 75 = .ok (.ireturn, 1) := by decide +kernel
set_option maxRecDepth 100000 in
set_option maxHeartbeats 4000000 in
theorem c_takePromise (l : Launch) (D : va_G) (cI cZ : ClassId) (q : Nat → Nat) (n : Nat) (L : Nat) (f1 : Nat → Int32) (f2 : Nat → Int32) (f3 : Nat → Int32) (f4 : Nat → Int32) (f5 : Nat → Int32) (k : Nat) (sd : Int32) (b : Int32) (o : Int32) (v : Int32) (e0 : Nat) (hL20 : L ≤ 20) (hkL : k < L) (hn5 : n ≤ 5) (hE : orb (f3 k) sd = nI e0) (he32 : e0 < 32) : MI l D [(cI, .int), (cZ, .boolean)] yProposers_takePromise wsProposers_takePromise ({ frames := 2, cells := 0, slots := 0, locals := 41 }) [.ref (q 3), .int (nI k), .int sd, .int b, .int o, .int v] (wPr q cI n L f1 f2 f3 f4 f5) (fun r w => (r = nI 1 ∧ ((f1 k = nI 1 ∧ f2 k = b) ∧ n < 2 * popn e0) ∧ w = (wPr q cI n L (upd f1 k (nI 2)) f2 (upd f3 k (orb (f3 k) sd)) (if f4 k < o then upd f4 k o else f4) (if f4 k < o then upd f5 k v else f5))) ∨ (r = nI 0 ∧ ((f1 k = nI 1 ∧ f2 k = b) ∧ ¬ n < 2 * popn e0) ∧ w = (wPr q cI n L f1 f2 (upd f3 k (orb (f3 k) sd)) (if f4 k < o then upd f4 k o else f4) (if f4 k < o then upd f5 k v else f5))) ∨ (r = nI 0 ∧ (¬ (f1 k = nI 1 ∧ f2 k = b)) ∧ w = (wPr q cI n L f1 f2 f3 f4 f5))) := by
  intro sz
  refine Met.ofW (cc := cProposers_takePromise) (maxL := 6) (ret := (Option.some .boolean)) (by decide) rfl ?_
  intro p e s m args below meth c s₁ B hml hv
  obtain ⟨rfl, hsz, hP, hK, hD0, hZ⟩ := hv
  have hx := B.exec
  have hb := B.bytes
  have hr := B.returns
  have hts := atoms_spec (ws := wsProposers_takePromise) B.pre
  have hown : s.vm.findClass RProposers = some m.cls := findClass_of_methodNamed B.named
  have hlocks := B.notSynchronized
  subst hsz
  have hD := hD0.self (sz := s.heap.size)
  generalize hAe : va_A (wPr q cI n L f1 f2 f3 f4 f5) s.heap.size = A at hD ⊢
  have hA : ∀ q : Nat, s.heap.size ≤ q → A q := fun q h => by rw [← hAe]; exact Or.inr h
  have hS : va_S A s.heap s.heap [] := va_S.rf
  have hP : va_P D vwCl (wPr q cI n L f1 f2 f3 f4 f5) s.heap := hP
  have hl := lv_entry ([.ref (q 3), .int (nI k), .int sd, .int b, .int o, .int v]) (n := 6) (Nat.le_of_ble_eq_true rfl)
  rw [lg_entry_eq]
  generalize (lg_sl ([.ref (q 3), .int (nI k), .int sd, .int b, .int o, .int v]) ++ List.replicate (6 - (lg_sl ([.ref (q 3), .int (nI k), .int sd, .int b, .int o, .int v])).length) Slot.unset).toArray = ls at hl ⊢
  have hl : lv_has ls 6 [(0, .ref (q 3)), (1, .int (nI k)), (2, .int sd), (3, .int b), (4, .int o), (5, .int v)] := hl
  refine lv_aload_n hx hb dProposers_takePromise_0 rfl (lv_at hl 0 rfl) ?_
  refine lv_iload_n hx hb dProposers_takePromise_1 rfl (lv_at hl 1 rfl) ?_
  refine lv_iload_n hx hb dProposers_takePromise_2 rfl (lv_at hl 3 rfl) ?_
  have hPc := hP.sub (ws' := (wPr q cI n L f1 f2 f3 f4 f5)) [0, 1, 2, 3, 4, 5] rfl
  have hDc := hD.sub (ws' := (wPr q cI n L f1 f2 f3 f4 f5)) [0, 1, 2, 3, 4, 5] (by decide) rfl
  refine kx_i (va_runV (As := [.int (nI k), .int b]) (rest := []) ⟨hx, hb, hml, hown, hts⟩ ((c_awaits l D cI cZ q n L f1 f2 f3 f4 f5 k b (hL20) (hkL)) s.heap.size) (cwV 2 hts (gV wd207 wd209 sl_Proposers_awaits wd3 wd210) rfl rfl rfl (by decide +kernel) ⟨Nat.le_of_ble_eq_true rfl, Nat.le_of_ble_eq_true rfl⟩) ⟨fb_PW, va_recv (q0 := 0) (ci := 2) hK hPc rfl rfl, pre_PW hK hPc hDc hZ⟩ rfl rfl hl.1 rfl (lv_room (Nat.le_of_ble_eq_true rfl)) dProposers_takePromise_3 ⟨Nat.zero_le _, Nat.zero_le _⟩) hP hD hS hA [0, 1, 2, 3, 4, 5] [] rfl rfl (by decide) (by decide) (fun r w1 H locs hw hP hD hS => ?_)
  rcases hw with ⟨rfl, h3, rfl⟩ | ⟨rfl, h3, rfl⟩
  · have hP : va_P D vwCl (wPr q cI n L f1 f2 f3 f4 f5) H := hP
    have hD : va_D A (wPr q cI n L f1 f2 f3 f4 f5) := hD
    refine lv_if_ne (tgt := 11) hx hb dProposers_takePromise_6 (by decide) (fun _ => ?_) (fun h9 => absurd h9 (by decide))
    refine lv_aload_n hx hb dProposers_takePromise_11 rfl (lv_at hl 0 rfl) ?_
    refine va_get (D := D) (ci := 2) (v := .ref (q 6)) (C := RProposers) (T := TProposers) (N := 6) hx hb hts (fun w h => mc (uProposers_in w h)) hown hK hP 0 rfl rfl 3 (by decide) (hts _ (mc wd49)) (fun _ h9 => h9) rfl dProposers_takePromise_12 ?_
    refine lv_iload_n hx hb dProposers_takePromise_15 rfl (lv_at hl 1 rfl) ?_
    refine lv_dup2_11 hx hb dProposers_takePromise_16 rfl rfl ?_
    refine ka_ld (v := f3 k) hx hb hK hP 3 0 rfl rfl (by omega) (by omega) rfl dProposers_takePromise_17 ?_
    refine lv_iconst (v := nI 1) hx hb dProposers_takePromise_18 (by decide) ?_
    refine lv_iload_n hx hb dProposers_takePromise_19 rfl (lv_at hl 2 rfl) ?_
    refine lv_ishl hx hb dProposers_takePromise_20 ?_
    refine lv_ior hx hb dProposers_takePromise_21 ?_
    refine lv_topi (nm_r (rfl) ?_)
    refine ka_st (f' := upd f3 k (orb (f3 k) sd)) hx hb hK hP hD hS 3 0 rfl rfl (by omega) (by omega) rfl dProposers_takePromise_22 (fun H locs hP hD hS => ?_)
    have hP : va_P D vwCl (wPr q cI n L f1 f2 (upd f3 k (orb (f3 k) sd)) f4 f5) H := hP
    have hD : va_D A (wPr q cI n L f1 f2 (upd f3 k (orb (f3 k) sd)) f4 f5) := hD
    refine lv_iload hx hb dProposers_takePromise_23 (lv_at hl 4 rfl) ?_
    refine lv_aload_n hx hb dProposers_takePromise_25 rfl (lv_at hl 0 rfl) ?_
    refine va_get (D := D) (ci := 2) (v := .ref (q 7)) (C := RProposers) (T := TProposers) (N := 6) hx hb hts (fun w h => mc (uProposers_in w h)) hown hK hP 0 rfl rfl 4 (by decide) (hts _ (mc wd50)) (fun _ h9 => h9) rfl dProposers_takePromise_26 ?_
    refine lv_iload_n hx hb dProposers_takePromise_29 rfl (lv_at hl 1 rfl) ?_
    refine ka_ld (v := f4 k) hx hb hK hP 4 0 rfl rfl (by omega) (by omega) rfl dProposers_takePromise_30 ?_
    refine lv_icmp_le (tgt := 50) hx hb dProposers_takePromise_31 (by decide) (fun c31 => ?_) (fun c31 => ?_)
    · refine lv_aload_n hx hb dProposers_takePromise_50 rfl (lv_at hl 0 rfl) ?_
      refine lv_iload_n hx hb dProposers_takePromise_51 rfl (lv_at hl 1 rfl) ?_
      have hPc := hP.sub (ws' := (wPr q cI n L f1 f2 (upd f3 k (orb (f3 k) sd)) f4 f5)) [0, 1, 2, 3, 4, 5] rfl
      have hDc := hD.sub (ws' := (wPr q cI n L f1 f2 (upd f3 k (orb (f3 k) sd)) f4 f5)) [0, 1, 2, 3, 4, 5] (by decide) rfl
      refine kx_i (va_runV (As := [.int (nI k)]) (rest := []) ⟨hx, hb, hml, hown, hts⟩ ((c_promises l D cI cZ q n L f1 f2 (upd f3 k (orb (f3 k) sd)) f4 f5 k e0 (hL20) (hkL) (pk_us.trans hE) (he32)) H.size) (cwV 1 hts (gV wd248 wd249 wd250 wd3 wd251) rfl rfl rfl (by decide +kernel) ⟨Nat.le_of_ble_eq_true rfl, Nat.le_of_ble_eq_true rfl⟩) ⟨fb_PW, va_recv (q0 := 0) (ci := 2) hK hPc rfl rfl, pre_PW hK hPc hDc hZ⟩ rfl rfl hl.1 rfl (lv_room (Nat.le_of_ble_eq_true rfl)) dProposers_takePromise_52 ⟨Nat.zero_le _, Nat.zero_le _⟩) hP hD hS hA [0, 1, 2, 3, 4, 5] [] rfl rfl (by decide) (by decide) (fun r w1 H locs hw hP hD hS => ?_)
      obtain ⟨rfl, rfl⟩ := hw
      have hP : va_P D vwCl (wPr q cI n L f1 f2 (upd f3 k (orb (f3 k) sd)) f4 f5) H := hP
      have hD : va_D A (wPr q cI n L f1 f2 (upd f3 k (orb (f3 k) sd)) f4 f5) := hD
      refine lv_aload_n hx hb dProposers_takePromise_55 rfl (lv_at hl 0 rfl) ?_
      refine va_get (D := D) (ci := 2) (v := .int (nI n)) (C := RProposers) (T := TProposers) (N := 6) hx hb hts (fun w h => mc (uProposers_in w h)) hown hK hP 0 rfl rfl 0 (by decide) (hts _ (mc wd46)) (fun _ h9 => h9) rfl dProposers_takePromise_56 ?_
      have hPc := hP.sub (ws' := ([] : va_W)) [] rfl
      have hDc := hD.sub (ws' := ([] : va_W)) [] (by decide) rfl
      refine kx_i (va_runSN (As := [.int (nI (popn e0)), .int (nI n)]) (rest := []) ⟨hx, hb, hml, hown, hts⟩ ((c_isMajority l D cI cZ (popn e0) n (popn_le _) (hn5)) H.size) ⟨va_cnB 2 hts (gC wd219) rfl rfl rfl (hZ.n2) (hts _ (mc wd1)) (by decide +kernel) ⟨Nat.le_of_ble_eq_true rfl, Nat.le_of_ble_eq_true rfl⟩, hts _ (mc wd218), trivial⟩ ⟨fb_PW, pre_PW hK hPc hDc hZ⟩ rfl rfl hl.1 rfl (lv_room (Nat.le_of_ble_eq_true rfl)) dProposers_takePromise_59 ⟨Nat.zero_le _, Nat.zero_le _⟩) hP hD hS hA [] [0, 1, 2, 3, 4, 5] rfl rfl (by decide) (by decide) (fun r w1 H locs hw hP hD hS => ?_)
      rcases hw with ⟨rfl, h59, rfl⟩ | ⟨rfl, h59, rfl⟩
      · have hP : va_P D vwCl (wPr q cI n L f1 f2 (upd f3 k (orb (f3 k) sd)) f4 f5) H := hP
        have hD : va_D A (wPr q cI n L f1 f2 (upd f3 k (orb (f3 k) sd)) f4 f5) := hD
        refine lv_if_ne (tgt := 67) hx hb dProposers_takePromise_62 (by decide) (fun _ => ?_) (fun h9 => absurd h9 (by decide))
        refine lv_aload_n hx hb dProposers_takePromise_67 rfl (lv_at hl 0 rfl) ?_
        refine va_get (D := D) (ci := 2) (v := .ref (q 4)) (C := RProposers) (T := TProposers) (N := 6) hx hb hts (fun w h => mc (uProposers_in w h)) hown hK hP 0 rfl rfl 1 (by decide) (hts _ (mc wd47)) (fun _ h9 => h9) rfl dProposers_takePromise_68 ?_
        refine lv_iload_n hx hb dProposers_takePromise_71 rfl (lv_at hl 1 rfl) ?_
        refine lv_iconst (v := nI 2) hx hb dProposers_takePromise_72 (by decide) ?_
        refine ka_st (f' := upd f1 k (nI 2)) hx hb hK hP hD hS 1 0 rfl rfl (by omega) (by omega) rfl dProposers_takePromise_73 (fun H locs hP hD hS => ?_)
        have hP : va_P D vwCl (wPr q cI n L (upd f1 k (nI 2)) f2 (upd f3 k (orb (f3 k) sd)) f4 f5) H := hP
        have hD : va_D A (wPr q cI n L (upd f1 k (nI 2)) f2 (upd f3 k (orb (f3 k) sd)) f4 f5) := hD
        refine lv_iconst (v := nI 1) hx hb dProposers_takePromise_74 (by decide) ?_
        exact W.zret (v := nI 1) (ty := .boolean) hx hb hr (by decide) (fun t9 ht9 hW9 => ⟨⟨nI 1, (wPr q cI n L (upd f1 k (nI 2)) f2 (upd f3 k (orb (f3 k) sd)) f4 f5), rfl, Or.inl ⟨rfl, ⟨h3, h59⟩, by rw [if_neg (Int32.not_lt.mpr c31), if_neg (Int32.not_lt.mpr c31)]⟩, by rw [ht9]; exact hP, va_K.moved hW9.alike hK, hD⟩, hS.F ht9⟩) hS.2.2 dProposers_takePromise_75
      · have hP : va_P D vwCl (wPr q cI n L f1 f2 (upd f3 k (orb (f3 k) sd)) f4 f5) H := hP
        have hD : va_D A (wPr q cI n L f1 f2 (upd f3 k (orb (f3 k) sd)) f4 f5) := hD
        refine lv_if_ne (tgt := 67) hx hb dProposers_takePromise_62 (by decide) (fun h9 => absurd (by decide) h9) (fun _ => ?_)
        refine lv_iconst (v := nI 0) hx hb dProposers_takePromise_65 (by decide) ?_
        exact W.zret (v := nI 0) (ty := .boolean) hx hb hr (by decide) (fun t9 ht9 hW9 => ⟨⟨nI 0, (wPr q cI n L f1 f2 (upd f3 k (orb (f3 k) sd)) f4 f5), rfl, Or.inr (Or.inl ⟨rfl, ⟨h3, h59⟩, by rw [if_neg (Int32.not_lt.mpr c31), if_neg (Int32.not_lt.mpr c31)]⟩), by rw [ht9]; exact hP, va_K.moved hW9.alike hK, hD⟩, hS.F ht9⟩) hS.2.2 dProposers_takePromise_66
    · refine lv_aload_n hx hb dProposers_takePromise_34 rfl (lv_at hl 0 rfl) ?_
      refine va_get (D := D) (ci := 2) (v := .ref (q 7)) (C := RProposers) (T := TProposers) (N := 6) hx hb hts (fun w h => mc (uProposers_in w h)) hown hK hP 0 rfl rfl 4 (by decide) (hts _ (mc wd50)) (fun _ h9 => h9) rfl dProposers_takePromise_35 ?_
      refine lv_iload_n hx hb dProposers_takePromise_38 rfl (lv_at hl 1 rfl) ?_
      refine lv_iload hx hb dProposers_takePromise_39 (lv_at hl 4 rfl) ?_
      refine ka_st (f' := upd f4 k o) hx hb hK hP hD hS 4 0 rfl rfl (by omega) (by omega) rfl dProposers_takePromise_41 (fun H locs hP hD hS => ?_)
      have hP : va_P D vwCl (wPr q cI n L f1 f2 (upd f3 k (orb (f3 k) sd)) (upd f4 k o) f5) H := hP
      have hD : va_D A (wPr q cI n L f1 f2 (upd f3 k (orb (f3 k) sd)) (upd f4 k o) f5) := hD
      refine lv_aload_n hx hb dProposers_takePromise_42 rfl (lv_at hl 0 rfl) ?_
      refine va_get (D := D) (ci := 2) (v := .ref (q 8)) (C := RProposers) (T := TProposers) (N := 6) hx hb hts (fun w h => mc (uProposers_in w h)) hown hK hP 0 rfl rfl 5 (by decide) (hts _ (mc wd51)) (fun _ h9 => h9) rfl dProposers_takePromise_43 ?_
      refine lv_iload_n hx hb dProposers_takePromise_46 rfl (lv_at hl 1 rfl) ?_
      refine lv_iload hx hb dProposers_takePromise_47 (lv_at hl 5 rfl) ?_
      refine ka_st (f' := upd f5 k v) hx hb hK hP hD hS 5 0 rfl rfl (by omega) (by omega) rfl dProposers_takePromise_49 (fun H locs hP hD hS => ?_)
      have hP : va_P D vwCl (wPr q cI n L f1 f2 (upd f3 k (orb (f3 k) sd)) (upd f4 k o) (upd f5 k v)) H := hP
      have hD : va_D A (wPr q cI n L f1 f2 (upd f3 k (orb (f3 k) sd)) (upd f4 k o) (upd f5 k v)) := hD
      refine lv_aload_n hx hb dProposers_takePromise_50 rfl (lv_at hl 0 rfl) ?_
      refine lv_iload_n hx hb dProposers_takePromise_51 rfl (lv_at hl 1 rfl) ?_
      have hPc := hP.sub (ws' := (wPr q cI n L f1 f2 (upd f3 k (orb (f3 k) sd)) (upd f4 k o) (upd f5 k v))) [0, 1, 2, 3, 4, 5] rfl
      have hDc := hD.sub (ws' := (wPr q cI n L f1 f2 (upd f3 k (orb (f3 k) sd)) (upd f4 k o) (upd f5 k v))) [0, 1, 2, 3, 4, 5] (by decide) rfl
      refine kx_i (va_runV (As := [.int (nI k)]) (rest := []) ⟨hx, hb, hml, hown, hts⟩ ((c_promises l D cI cZ q n L f1 f2 (upd f3 k (orb (f3 k) sd)) (upd f4 k o) (upd f5 k v) k e0 (hL20) (hkL) (pk_us.trans hE) (he32)) H.size) (cwV 1 hts (gV wd248 wd249 wd250 wd3 wd251) rfl rfl rfl (by decide +kernel) ⟨Nat.le_of_ble_eq_true rfl, Nat.le_of_ble_eq_true rfl⟩) ⟨fb_PW, va_recv (q0 := 0) (ci := 2) hK hPc rfl rfl, pre_PW hK hPc hDc hZ⟩ rfl rfl hl.1 rfl (lv_room (Nat.le_of_ble_eq_true rfl)) dProposers_takePromise_52 ⟨Nat.zero_le _, Nat.zero_le _⟩) hP hD hS hA [0, 1, 2, 3, 4, 5] [] rfl rfl (by decide) (by decide) (fun r w1 H locs hw hP hD hS => ?_)
      obtain ⟨rfl, rfl⟩ := hw
      have hP : va_P D vwCl (wPr q cI n L f1 f2 (upd f3 k (orb (f3 k) sd)) (upd f4 k o) (upd f5 k v)) H := hP
      have hD : va_D A (wPr q cI n L f1 f2 (upd f3 k (orb (f3 k) sd)) (upd f4 k o) (upd f5 k v)) := hD
      refine lv_aload_n hx hb dProposers_takePromise_55 rfl (lv_at hl 0 rfl) ?_
      refine va_get (D := D) (ci := 2) (v := .int (nI n)) (C := RProposers) (T := TProposers) (N := 6) hx hb hts (fun w h => mc (uProposers_in w h)) hown hK hP 0 rfl rfl 0 (by decide) (hts _ (mc wd46)) (fun _ h9 => h9) rfl dProposers_takePromise_56 ?_
      have hPc := hP.sub (ws' := ([] : va_W)) [] rfl
      have hDc := hD.sub (ws' := ([] : va_W)) [] (by decide) rfl
      refine kx_i (va_runSN (As := [.int (nI (popn e0)), .int (nI n)]) (rest := []) ⟨hx, hb, hml, hown, hts⟩ ((c_isMajority l D cI cZ (popn e0) n (popn_le _) (hn5)) H.size) ⟨va_cnB 2 hts (gC wd219) rfl rfl rfl (hZ.n2) (hts _ (mc wd1)) (by decide +kernel) ⟨Nat.le_of_ble_eq_true rfl, Nat.le_of_ble_eq_true rfl⟩, hts _ (mc wd218), trivial⟩ ⟨fb_PW, pre_PW hK hPc hDc hZ⟩ rfl rfl hl.1 rfl (lv_room (Nat.le_of_ble_eq_true rfl)) dProposers_takePromise_59 ⟨Nat.zero_le _, Nat.zero_le _⟩) hP hD hS hA [] [0, 1, 2, 3, 4, 5] rfl rfl (by decide) (by decide) (fun r w1 H locs hw hP hD hS => ?_)
      rcases hw with ⟨rfl, h59, rfl⟩ | ⟨rfl, h59, rfl⟩
      · have hP : va_P D vwCl (wPr q cI n L f1 f2 (upd f3 k (orb (f3 k) sd)) (upd f4 k o) (upd f5 k v)) H := hP
        have hD : va_D A (wPr q cI n L f1 f2 (upd f3 k (orb (f3 k) sd)) (upd f4 k o) (upd f5 k v)) := hD
        refine lv_if_ne (tgt := 67) hx hb dProposers_takePromise_62 (by decide) (fun _ => ?_) (fun h9 => absurd h9 (by decide))
        refine lv_aload_n hx hb dProposers_takePromise_67 rfl (lv_at hl 0 rfl) ?_
        refine va_get (D := D) (ci := 2) (v := .ref (q 4)) (C := RProposers) (T := TProposers) (N := 6) hx hb hts (fun w h => mc (uProposers_in w h)) hown hK hP 0 rfl rfl 1 (by decide) (hts _ (mc wd47)) (fun _ h9 => h9) rfl dProposers_takePromise_68 ?_
        refine lv_iload_n hx hb dProposers_takePromise_71 rfl (lv_at hl 1 rfl) ?_
        refine lv_iconst (v := nI 2) hx hb dProposers_takePromise_72 (by decide) ?_
        refine ka_st (f' := upd f1 k (nI 2)) hx hb hK hP hD hS 1 0 rfl rfl (by omega) (by omega) rfl dProposers_takePromise_73 (fun H locs hP hD hS => ?_)
        have hP : va_P D vwCl (wPr q cI n L (upd f1 k (nI 2)) f2 (upd f3 k (orb (f3 k) sd)) (upd f4 k o) (upd f5 k v)) H := hP
        have hD : va_D A (wPr q cI n L (upd f1 k (nI 2)) f2 (upd f3 k (orb (f3 k) sd)) (upd f4 k o) (upd f5 k v)) := hD
        refine lv_iconst (v := nI 1) hx hb dProposers_takePromise_74 (by decide) ?_
        exact W.zret (v := nI 1) (ty := .boolean) hx hb hr (by decide) (fun t9 ht9 hW9 => ⟨⟨nI 1, (wPr q cI n L (upd f1 k (nI 2)) f2 (upd f3 k (orb (f3 k) sd)) (upd f4 k o) (upd f5 k v)), rfl, Or.inl ⟨rfl, ⟨h3, h59⟩, by rw [if_pos (Int32.not_le.mp c31), if_pos (Int32.not_le.mp c31)]⟩, by rw [ht9]; exact hP, va_K.moved hW9.alike hK, hD⟩, hS.F ht9⟩) hS.2.2 dProposers_takePromise_75
      · have hP : va_P D vwCl (wPr q cI n L f1 f2 (upd f3 k (orb (f3 k) sd)) (upd f4 k o) (upd f5 k v)) H := hP
        have hD : va_D A (wPr q cI n L f1 f2 (upd f3 k (orb (f3 k) sd)) (upd f4 k o) (upd f5 k v)) := hD
        refine lv_if_ne (tgt := 67) hx hb dProposers_takePromise_62 (by decide) (fun h9 => absurd (by decide) h9) (fun _ => ?_)
        refine lv_iconst (v := nI 0) hx hb dProposers_takePromise_65 (by decide) ?_
        exact W.zret (v := nI 0) (ty := .boolean) hx hb hr (by decide) (fun t9 ht9 hW9 => ⟨⟨nI 0, (wPr q cI n L f1 f2 (upd f3 k (orb (f3 k) sd)) (upd f4 k o) (upd f5 k v)), rfl, Or.inr (Or.inl ⟨rfl, ⟨h3, h59⟩, by rw [if_pos (Int32.not_le.mp c31), if_pos (Int32.not_le.mp c31)]⟩), by rw [ht9]; exact hP, va_K.moved hW9.alike hK, hD⟩, hS.F ht9⟩) hS.2.2 dProposers_takePromise_66
  · have hP : va_P D vwCl (wPr q cI n L f1 f2 f3 f4 f5) H := hP
    have hD : va_D A (wPr q cI n L f1 f2 f3 f4 f5) := hD
    refine lv_if_ne (tgt := 11) hx hb dProposers_takePromise_6 (by decide) (fun h9 => absurd (by decide) h9) (fun _ => ?_)
    refine lv_iconst (v := nI 0) hx hb dProposers_takePromise_9 (by decide) ?_
    exact W.zret (v := nI 0) (ty := .boolean) hx hb hr (by decide) (fun t9 ht9 hW9 => ⟨⟨nI 0, (wPr q cI n L f1 f2 f3 f4 f5), rfl, Or.inr (Or.inr ⟨rfl, h3, rfl⟩), by rw [ht9]; exact hP, va_K.moved hW9.alike hK, hD⟩, hS.F ht9⟩) hS.2.2 dProposers_takePromise_10
theorem dLearners_ballotOf_0 : decode cLearners_ballotOf 0 = .ok (.aload_n 0, 1) := by decide +kernel
theorem dLearners_ballotOf_1 : decode cLearners_ballotOf 1 = .ok (.getfield 15, 3) := by decide +kernel
theorem dLearners_ballotOf_4 : decode cLearners_ballotOf 4 = .ok (.iload_n 1, 1) := by decide +kernel
theorem dLearners_ballotOf_5 : decode cLearners_ballotOf 5 = .ok (.aload_n 0, 1) := by decide +kernel
theorem dLearners_ballotOf_6 : decode cLearners_ballotOf 6 = .ok (.getfield 9, 3) := by decide +kernel
theorem dLearners_ballotOf_9 : decode cLearners_ballotOf 9 = .ok (.imul, 1) := by decide +kernel
theorem dLearners_ballotOf_10 : decode cLearners_ballotOf 10 = .ok (.iload_n 2, 1) := by decide +kernel
theorem dLearners_ballotOf_11 : decode cLearners_ballotOf 11 = .ok (.iadd, 1) := by decide +kernel
theorem dLearners_ballotOf_12 : decode cLearners_ballotOf 12 = .ok (.iaload, 1) := by decide +kernel
theorem dLearners_ballotOf_13 : decode cLearners_ballotOf 13 = .ok (.ireturn, 1) := by decide +kernel
set_option maxRecDepth 100000 in
set_option maxHeartbeats 4000000 in
theorem c_ballotOf (l : Launch) (D : va_G) (cI cZ : ClassId) (q : Nat → Nat) (n : Nat) (L : Nat) (f9 : Nat → Int32) (f10 : Nat → Int32) (k : Nat) (j : Nat) (hL20 : L ≤ 20) (hn5 : n ≤ 5) (hkL : k < L) (hjn : j < n) : MI l D [(cI, .int), (cZ, .boolean)] yLearners_ballotOf wsLearners_ballotOf ({ frames := 0, cells := 0, slots := 0, locals := 0 }) [.ref (q 13), .int (nI k), .int (nI j)] (wLe q cI n L f9 f10) (fun r w => r = f9 (k * n + j) ∧ w = (wLe q cI n L f9 f10)) := by
  intro sz
  refine Met.ofW (cc := cLearners_ballotOf) (maxL := 3) (ret := (Option.some .int)) (by decide) rfl ?_
  intro p e s m args below meth c s₁ B hml hv
  obtain ⟨rfl, hsz, hP, hK, hD0, hZ⟩ := hv
  have hx := B.exec
  have hb := B.bytes
  have hr := B.returns
  have hts := atoms_spec (ws := wsLearners_ballotOf) B.pre
  have hown : s.vm.findClass RLearners = some m.cls := findClass_of_methodNamed B.named
  have hlocks := B.notSynchronized
  subst hsz
  have hD := hD0.self (sz := s.heap.size)
  generalize hAe : va_A (wLe q cI n L f9 f10) s.heap.size = A at hD ⊢
  have hA : ∀ q : Nat, s.heap.size ≤ q → A q := fun q h => by rw [← hAe]; exact Or.inr h
  have hS : va_S A s.heap s.heap [] := va_S.rf
  have hP : va_P D vwCl (wLe q cI n L f9 f10) s.heap := hP
  have hl := lv_entry ([.ref (q 13), .int (nI k), .int (nI j)]) (n := 3) (Nat.le_of_ble_eq_true rfl)
  rw [lg_entry_eq]
  generalize (lg_sl ([.ref (q 13), .int (nI k), .int (nI j)]) ++ List.replicate (3 - (lg_sl ([.ref (q 13), .int (nI k), .int (nI j)])).length) Slot.unset).toArray = ls at hl ⊢
  have hl : lv_has ls 3 [(0, .ref (q 13)), (1, .int (nI k)), (2, .int (nI j))] := hl
  refine lv_aload_n hx hb dLearners_ballotOf_0 rfl (lv_at hl 0 rfl) ?_
  refine va_get (D := D) (ci := 4) (v := .ref (q 14)) (C := RLearners) (T := TLearners) (N := 3) hx hb hts (fun w h => mc (uLearners_in w h)) hown hK hP 0 rfl rfl 1 (by decide) (hts _ (mc wd96)) (fun _ h9 => h9) rfl dLearners_ballotOf_1 ?_
  refine lv_iload_n hx hb dLearners_ballotOf_4 rfl (lv_at hl 1 rfl) ?_
  refine lv_aload_n hx hb dLearners_ballotOf_5 rfl (lv_at hl 0 rfl) ?_
  refine va_get (D := D) (ci := 4) (v := .int (nI n)) (C := RLearners) (T := TLearners) (N := 3) hx hb hts (fun w h => mc (uLearners_in w h)) hown hK hP 0 rfl rfl 0 (by decide) (hts _ (mc wd95)) (fun _ h9 => h9) rfl dLearners_ballotOf_6 ?_
  refine lv_imul hx hb dLearners_ballotOf_9 ?_
  refine lv_topi (nm_r (pk_mul _ _) ?_)
  refine lv_iload_n hx hb dLearners_ballotOf_10 rfl (lv_at hl 2 rfl) ?_
  refine lv_iadd hx hb dLearners_ballotOf_11 ?_
  refine lv_topi (nm_r (nI_add _ _) ?_)
  refine ka_ld (v := f9 (k * n + j)) hx hb hK hP 1 0 rfl rfl (seat_lt hkL hjn) (by have := Nat.mul_le_mul hL20 hn5; omega) rfl dLearners_ballotOf_12 ?_
  exact W.iret (v := f9 (k * n + j)) hx hb hr (fun t9 ht9 hW9 => ⟨⟨f9 (k * n + j), (wLe q cI n L f9 f10), rfl, ⟨rfl, rfl⟩, by rw [ht9]; exact hP, va_K.moved hW9.alike hK, hD⟩, hS.F ht9⟩) hS.2.2 dLearners_ballotOf_13
theorem dLearners_decree_0 : decode cLearners_decree 0 = .ok (.aload_n 0, 1) := by decide +kernel
theorem dLearners_decree_1 : decode cLearners_decree 1 = .ok (.getfield 19, 3) := by decide +kernel
theorem dLearners_decree_4 : decode cLearners_decree 4 = .ok (.iload_n 1, 1) := by decide +kernel
theorem dLearners_decree_5 : decode cLearners_decree 5 = .ok (.iaload, 1) := by decide +kernel
theorem dLearners_decree_6 : decode cLearners_decree 6 = .ok (.ireturn, 1) := by decide +kernel
set_option maxRecDepth 100000 in
set_option maxHeartbeats 4000000 in
theorem c_decree (l : Launch) (D : va_G) (cI cZ : ClassId) (q : Nat → Nat) (n : Nat) (L : Nat) (f9 : Nat → Int32) (f10 : Nat → Int32) (k : Nat) (hL20 : L ≤ 20) (hkL : k < L) : MI l D [(cI, .int), (cZ, .boolean)] yLearners_decree wsLearners_decree ({ frames := 0, cells := 0, slots := 0, locals := 0 }) [.ref (q 13), .int (nI k)] (wLe q cI n L f9 f10) (fun r w => r = f10 k ∧ w = (wLe q cI n L f9 f10)) := by
  intro sz
  refine Met.ofW (cc := cLearners_decree) (maxL := 2) (ret := (Option.some .int)) (by decide) rfl ?_
  intro p e s m args below meth c s₁ B hml hv
  obtain ⟨rfl, hsz, hP, hK, hD0, hZ⟩ := hv
  have hx := B.exec
  have hb := B.bytes
  have hr := B.returns
  have hts := atoms_spec (ws := wsLearners_decree) B.pre
  have hown : s.vm.findClass RLearners = some m.cls := findClass_of_methodNamed B.named
  have hlocks := B.notSynchronized
  subst hsz
  have hD := hD0.self (sz := s.heap.size)
  generalize hAe : va_A (wLe q cI n L f9 f10) s.heap.size = A at hD ⊢
  have hA : ∀ q : Nat, s.heap.size ≤ q → A q := fun q h => by rw [← hAe]; exact Or.inr h
  have hS : va_S A s.heap s.heap [] := va_S.rf
  have hP : va_P D vwCl (wLe q cI n L f9 f10) s.heap := hP
  have hl := lv_entry ([.ref (q 13), .int (nI k)]) (n := 2) (Nat.le_of_ble_eq_true rfl)
  rw [lg_entry_eq]
  generalize (lg_sl ([.ref (q 13), .int (nI k)]) ++ List.replicate (2 - (lg_sl ([.ref (q 13), .int (nI k)])).length) Slot.unset).toArray = ls at hl ⊢
  have hl : lv_has ls 2 [(0, .ref (q 13)), (1, .int (nI k))] := hl
  refine lv_aload_n hx hb dLearners_decree_0 rfl (lv_at hl 0 rfl) ?_
  refine va_get (D := D) (ci := 4) (v := .ref (q 15)) (C := RLearners) (T := TLearners) (N := 3) hx hb hts (fun w h => mc (uLearners_in w h)) hown hK hP 0 rfl rfl 2 (by decide) (hts _ (mc wd97)) (fun _ h9 => h9) rfl dLearners_decree_1 ?_
  refine lv_iload_n hx hb dLearners_decree_4 rfl (lv_at hl 1 rfl) ?_
  refine ka_ld (v := f10 k) hx hb hK hP 2 0 rfl rfl (by omega) (by omega) rfl dLearners_decree_5 ?_
  exact W.iret (v := f10 k) hx hb hr (fun t9 ht9 hW9 => ⟨⟨f10 k, (wLe q cI n L f9 f10), rfl, ⟨rfl, rfl⟩, by rw [ht9]; exact hP, va_K.moved hW9.alike hK, hD⟩, hS.F ht9⟩) hS.2.2 dLearners_decree_6
theorem dLearners_learn_0 : decode cLearners_learn 0 = .ok (.aload_n 0, 1) := by decide +kernel
theorem dLearners_learn_1 : decode cLearners_learn 1 = .ok (.getfield 19, 3) := by decide +kernel
theorem dLearners_learn_4 : decode cLearners_learn 4 = .ok (.iload_n 1, 1) := by decide +kernel
theorem dLearners_learn_5 : decode cLearners_learn 5 = .ok (.iaload, 1) := by decide +kernel
theorem dLearners_learn_6 : decode cLearners_learn 6 = .ok (.ifCond .ne 10, 3) := by decide +kernel
theorem dLearners_learn_9 : decode cLearners_learn 9 = .ok (.aload_n 0, 1) := by decide +kernel
theorem dLearners_learn_10 : decode cLearners_learn 10 = .ok (.getfield 19, 3) := by decide +kernel
theorem dLearners_learn_13 : decode cLearners_learn 13 = .ok (.iload_n 1, 1) := by decide +kernel
theorem dLearners_learn_14 : decode cLearners_learn 14 = .ok (.iload_n 2, 1) := by decide +kernel
theorem dLearners_learn_15 : decode cLearners_learn 15 = .ok (.iastore, 1) := by decide +kernel
theorem dLearners_learn_16 : decode cLearners_learn 16 = .ok (.return_, 1) := by decide +kernel
set_option maxRecDepth 100000 in
set_option maxHeartbeats 4000000 in
theorem c_learn (l : Launch) (D : va_G) (cI cZ : ClassId) (q : Nat → Nat) (n : Nat) (L : Nat) (f9 : Nat → Int32) (f10 : Nat → Int32) (k : Nat) (v : Int32) (hL20 : L ≤ 20) (hkL : k < L) : MV l D [(cI, .int), (cZ, .boolean)] yLearners_learn wsLearners_learn ({ frames := 0, cells := 0, slots := 0, locals := 0 }) [.ref (q 13), .int (nI k), .int v] (wLe q cI n L f9 f10) (fun w => w = (wLe q cI n L f9 (if f10 k = 0 then upd f10 k v else f10))) := by
  intro sz
  refine Met.ofW (cc := cLearners_learn) (maxL := 3) (ret := (Option.none : Option ClassFile.FieldType)) (by decide) rfl ?_
  intro p e s m args below meth c s₁ B hml hv
  obtain ⟨rfl, hsz, hP, hK, hD0, hZ⟩ := hv
  have hx := B.exec
  have hb := B.bytes
  have hr := B.returns
  have hts := atoms_spec (ws := wsLearners_learn) B.pre
  have hown : s.vm.findClass RLearners = some m.cls := findClass_of_methodNamed B.named
  have hlocks := B.notSynchronized
  subst hsz
  have hD := hD0.self (sz := s.heap.size)
  generalize hAe : va_A (wLe q cI n L f9 f10) s.heap.size = A at hD ⊢
  have hA : ∀ q : Nat, s.heap.size ≤ q → A q := fun q h => by rw [← hAe]; exact Or.inr h
  have hS : va_S A s.heap s.heap [] := va_S.rf
  have hP : va_P D vwCl (wLe q cI n L f9 f10) s.heap := hP
  have hl := lv_entry ([.ref (q 13), .int (nI k), .int v]) (n := 3) (Nat.le_of_ble_eq_true rfl)
  rw [lg_entry_eq]
  generalize (lg_sl ([.ref (q 13), .int (nI k), .int v]) ++ List.replicate (3 - (lg_sl ([.ref (q 13), .int (nI k), .int v])).length) Slot.unset).toArray = ls at hl ⊢
  have hl : lv_has ls 3 [(0, .ref (q 13)), (1, .int (nI k)), (2, .int v)] := hl
  refine lv_aload_n hx hb dLearners_learn_0 rfl (lv_at hl 0 rfl) ?_
  refine va_get (D := D) (ci := 4) (v := .ref (q 15)) (C := RLearners) (T := TLearners) (N := 3) hx hb hts (fun w h => mc (uLearners_in w h)) hown hK hP 0 rfl rfl 2 (by decide) (hts _ (mc wd97)) (fun _ h9 => h9) rfl dLearners_learn_1 ?_
  refine lv_iload_n hx hb dLearners_learn_4 rfl (lv_at hl 1 rfl) ?_
  refine ka_ld (v := f10 k) hx hb hK hP 2 0 rfl rfl (by omega) (by omega) rfl dLearners_learn_5 ?_
  refine lv_if_ne (tgt := 16) hx hb dLearners_learn_6 (by decide) (fun c6 => ?_) (fun c6 => ?_)
  · exact W.vret hx hb hr (fun t9 ht9 hW9 => ⟨⟨(wLe q cI n L f9 f10), rfl, by rw [if_neg c6], by rw [ht9]; exact hP, va_K.moved hW9.alike hK, hD⟩, hS.F ht9⟩) hS.2.2 dLearners_learn_16
  · refine lv_aload_n hx hb dLearners_learn_9 rfl (lv_at hl 0 rfl) ?_
    refine va_get (D := D) (ci := 4) (v := .ref (q 15)) (C := RLearners) (T := TLearners) (N := 3) hx hb hts (fun w h => mc (uLearners_in w h)) hown hK hP 0 rfl rfl 2 (by decide) (hts _ (mc wd97)) (fun _ h9 => h9) rfl dLearners_learn_10 ?_
    refine lv_iload_n hx hb dLearners_learn_13 rfl (lv_at hl 1 rfl) ?_
    refine lv_iload_n hx hb dLearners_learn_14 rfl (lv_at hl 2 rfl) ?_
    refine ka_st (f' := upd f10 k v) hx hb hK hP hD hS 2 0 rfl rfl (by omega) (by omega) rfl dLearners_learn_15 (fun H locs hP hD hS => ?_)
    have hP : va_P D vwCl (wLe q cI n L f9 (upd f10 k v)) H := hP
    have hD : va_D A (wLe q cI n L f9 (upd f10 k v)) := hD
    exact W.vret hx hb hr (fun t9 ht9 hW9 => ⟨⟨(wLe q cI n L f9 (upd f10 k v)), rfl, by rw [if_pos c6], by rw [ht9]; exact hP, va_K.moved hW9.alike hK, hD⟩, hS.F ht9⟩) hS.2.2 dLearners_learn_16
theorem dLearners_nodesHeardWith_0 : decode cLearners_nodesHeardWith 0 = .ok (.iconst 0, 1) := by decide +kernel
theorem dLearners_nodesHeardWith_1 : decode cLearners_nodesHeardWith 1 = .ok (.istore_n 3, 1) := by decide +kernel
theorem dLearners_nodesHeardWith_2 : decode cLearners_nodesHeardWith 2 = .ok (.iconst 0, 1) := by decide +kernel
theorem dLearners_nodesHeardWith_3 : decode cLearners_nodesHeardWith 3 = .ok (.istore 4, 2) := by decide +kernel
theorem dLearners_nodesHeardWith_5 : decode cLearners_nodesHeardWith 5 = .ok (.iload 4, 2) := by decide +kernel
theorem dLearners_nodesHeardWith_7 : decode cLearners_nodesHeardWith 7 = .ok (.aload_n 0, 1) := by decide +kernel
theorem dLearners_nodesHeardWith_8 : decode cLearners_nodesHeardWith 8 = .ok (.getfield 9, 3) := by decide +kernel
theorem dLearners_nodesHeardWith_11 : decode cLearners_nodesHeardWith 11 = .ok (.if_icmp .ge 23, 3) := by decide +kernel
theorem dLearners_nodesHeardWith_14 : decode cLearners_nodesHeardWith 14 = .ok (.aload_n 0, 1) := by decide +kernel
theorem dLearners_nodesHeardWith_15 : decode cLearners_nodesHeardWith 15 = .ok (.iload_n 1, 1) := by decide +kernel
theorem dLearners_nodesHeardWith_16 : decode cLearners_nodesHeardWith 16 = .ok (.iload 4, 2) := by decide +kernel
theorem dLearners_nodesHeardWith_18 : decode cLearners_nodesHeardWith 18 = .ok (.invokevirtual 28, 3) := by decide +kernel
theorem dLearners_nodesHeardWith_21 : decode cLearners_nodesHeardWith 21 = .ok (.iload_n 2, 1) := by decide +kernel
theorem dLearners_nodesHeardWith_22 : decode cLearners_nodesHeardWith 22 = .ok (.if_icmp .ne 6, 3) := by decide +kernel
theorem dLearners_nodesHeardWith_25 : decode cLearners_nodesHeardWith 25 = .ok (.iinc 3  1, 3) := by decide +kernel
theorem dLearners_nodesHeardWith_28 : decode cLearners_nodesHeardWith 28 = .ok (.iinc 4  1, 3) := by decide +kernel
theorem dLearners_nodesHeardWith_31 : decode cLearners_nodesHeardWith 31 = .ok (.goto (-26), 3) := by decide +kernel
theorem dLearners_nodesHeardWith_34 : decode cLearners_nodesHeardWith 34 = .ok (.iload_n 3, 1) := by decide +kernel
theorem dLearners_nodesHeardWith_35 : decode cLearners_nodesHeardWith 35 = .ok (.ireturn, 1) := by decide +kernel
set_option maxRecDepth 100000 in
set_option maxHeartbeats 4000000 in
theorem c_nodesHeardWith (l : Launch) (D : va_G) (cI cZ : ClassId) (q : Nat → Nat) (n : Nat) (L : Nat) (f9 : Nat → Int32) (f10 : Nat → Int32) (k : Nat) (b : Int32) (hL20 : L ≤ 20) (hn5 : n ≤ 5) (hkL : k < L) : MI l D [(cI, .int), (cZ, .boolean)] yLearners_nodesHeardWith wsLearners_nodesHeardWith ({ frames := 1, cells := 0, slots := 0, locals := 22 }) [.ref (q 13), .int (nI k), .int b] (wLe q cI n L f9 f10) (fun r w => r = nI (cntE (fun i => f9 (k * n + i)) b n) ∧ w = (wLe q cI n L f9 f10)) := by
  intro sz
  refine Met.ofW (cc := cLearners_nodesHeardWith) (maxL := 5) (ret := (Option.some .int)) (by decide) rfl ?_
  intro p e s m args below meth c s₁ B hml hv
  obtain ⟨rfl, hsz, hP, hK, hD0, hZ⟩ := hv
  have hx := B.exec
  have hb := B.bytes
  have hr := B.returns
  have hts := atoms_spec (ws := wsLearners_nodesHeardWith) B.pre
  have hown : s.vm.findClass RLearners = some m.cls := findClass_of_methodNamed B.named
  have hlocks := B.notSynchronized
  subst hsz
  have hD := hD0.self (sz := s.heap.size)
  generalize hAe : va_A (wLe q cI n L f9 f10) s.heap.size = A at hD ⊢
  have hA : ∀ q : Nat, s.heap.size ≤ q → A q := fun q h => by rw [← hAe]; exact Or.inr h
  have hS : va_S A s.heap s.heap [] := va_S.rf
  have hP : va_P D vwCl (wLe q cI n L f9 f10) s.heap := hP
  have hl := lv_entry ([.ref (q 13), .int (nI k), .int b]) (n := 5) (Nat.le_of_ble_eq_true rfl)
  rw [lg_entry_eq]
  generalize (lg_sl ([.ref (q 13), .int (nI k), .int b]) ++ List.replicate (5 - (lg_sl ([.ref (q 13), .int (nI k), .int b])).length) Slot.unset).toArray = ls at hl ⊢
  have hl : lv_has ls 5 [(0, .ref (q 13)), (1, .int (nI k)), (2, .int b)] := hl
  refine lv_iconst (v := nI 0) hx hb dLearners_nodesHeardWith_0 (by decide) ?_
  refine lv_istore_n hx hb dLearners_nodesHeardWith_1 rfl hl (by decide) rfl (fun ls hl => ?_)
  have hl : lv_has ls 5 [(3, .int (nI 0)), (0, .ref (q 13)), (1, .int (nI k)), (2, .int b)] := hl
  refine lv_iconst (v := nI 0) hx hb dLearners_nodesHeardWith_2 (by decide) ?_
  refine lv_istore hx hb dLearners_nodesHeardWith_3 hl (by decide) rfl (fun ls hl => ?_)
  have hl : lv_has ls 5 [(4, .int (nI 0)), (3, .int (nI 0)), (0, .ref (q 13)), (1, .int (nI k)), (2, .int b)] := hl
  have loop5 : ∀ (d5 i : Nat) (ls : Array Slot) (H : Heap) (locs : List Loc), i + d5 = n → lv_has ls 5 [(4, .int (nI i)), (3, .int (nI (cntE (fun i => f9 (k * n + i)) b i))), (0, .ref (q 13)), (1, .int (nI k)), (2, .int b)] → va_P D vwCl (wLe q cI n L f9 f10) H → va_D A (wLe q cI n L f9 f10) → va_S A s.heap H locs → W p l e (headSpec wsLearners_nodesHeardWith { frames := 1, cells := 0, slots := 0, locals := 22 }).room s m [.ref (q 13), .int (nI k), .int b].toArray below meth c H locs 0 0 (MQ below (va_Qi (fun r w => r = nI (cntE (fun i => f9 (k * n + i)) b n) ∧ w = (wLe q cI n L f9 f10)) (QW D [(cI, .int), (cZ, .boolean)] A) A) [.ref (q 13), .int (nI k), .int b].toArray s 0 0 A) (F0 m 5 ls []) := by
    intro d5
    induction d5 with
    | zero =>
      intro i ls H locs hid5  hl hP hD hS
      refine lv_iload hx hb dLearners_nodesHeardWith_5 (lv_at hl 0 rfl) ?_
      refine lv_aload_n hx hb dLearners_nodesHeardWith_7 rfl (lv_at hl 2 rfl) ?_
      refine va_get (D := D) (ci := 4) (v := .int (nI n)) (C := RLearners) (T := TLearners) (N := 3) hx hb hts (fun w h => mc (uLearners_in w h)) hown hK hP 0 rfl rfl 0 (by decide) (hts _ (mc wd95)) (fun _ h9 => h9) rfl dLearners_nodesHeardWith_8 ?_
      refine lv_icmp_ge (tgt := 34) hx hb dLearners_nodesHeardWith_11 (by decide) (fun _ => ?_) (fun h9 => absurd (nI_le (by omega) (by omega)) h9)
      refine lv_iload_n hx hb dLearners_nodesHeardWith_34 rfl (lv_at hl 1 rfl) ?_
      have hin : n = i := by omega
      subst hin
      exact W.iret (v := nI (cntE (fun i => f9 (k * n + i)) b n)) hx hb hr (fun t9 ht9 hW9 => ⟨⟨nI (cntE (fun i => f9 (k * n + i)) b n), (wLe q cI n L f9 f10), rfl, ⟨rfl, rfl⟩, by rw [ht9]; exact hP, va_K.moved hW9.alike hK, hD⟩, hS.F ht9⟩) hS.2.2 dLearners_nodesHeardWith_35
    | succ d5 ih5 =>
      intro i ls H locs hid5  hl hP hD hS
      refine lv_iload hx hb dLearners_nodesHeardWith_5 (lv_at hl 0 rfl) ?_
      refine lv_aload_n hx hb dLearners_nodesHeardWith_7 rfl (lv_at hl 2 rfl) ?_
      refine va_get (D := D) (ci := 4) (v := .int (nI n)) (C := RLearners) (T := TLearners) (N := 3) hx hb hts (fun w h => mc (uLearners_in w h)) hown hK hP 0 rfl rfl 0 (by decide) (hts _ (mc wd95)) (fun _ h9 => h9) rfl dLearners_nodesHeardWith_8 ?_
      refine lv_icmp_ge (tgt := 34) hx hb dLearners_nodesHeardWith_11 (by decide) (fun h9 => absurd h9 (nI_ge (by omega) (by omega))) (fun _ => ?_)
      refine lv_aload_n hx hb dLearners_nodesHeardWith_14 rfl (lv_at hl 2 rfl) ?_
      refine lv_iload_n hx hb dLearners_nodesHeardWith_15 rfl (lv_at hl 3 rfl) ?_
      refine lv_iload hx hb dLearners_nodesHeardWith_16 (lv_at hl 0 rfl) ?_
      have hPc := hP.sub (ws' := (wLe q cI n L f9 f10)) [0, 1, 2] rfl
      have hDc := hD.sub (ws' := (wLe q cI n L f9 f10)) [0, 1, 2] (by decide) rfl
      refine kx_i (va_runV (As := [.int (nI k), .int (nI i)]) (rest := []) ⟨hx, hb, hml, hown, hts⟩ ((c_ballotOf l D cI cZ q n L f9 f10 k i (hL20) (hn5) (hkL) (by omega)) H.size) (cwV 2 hts (gV wd265 wd266 wd267 wd6 wd268) rfl rfl rfl (by decide +kernel) ⟨Nat.le_of_ble_eq_true rfl, Nat.le_of_ble_eq_true rfl⟩) ⟨fb_PW, va_recv (q0 := 0) (ci := 4) hK hPc rfl rfl, pre_PW hK hPc hDc hZ⟩ rfl rfl hl.1 rfl (lv_room (Nat.le_of_ble_eq_true rfl)) dLearners_nodesHeardWith_18 ⟨Nat.zero_le _, Nat.zero_le _⟩) hP hD hS hA [0, 1, 2] [] rfl rfl (by decide) (by decide) (fun r w1 H locs hw hP hD hS => ?_)
      obtain ⟨rfl, rfl⟩ := hw
      have hP : va_P D vwCl (wLe q cI n L f9 f10) H := hP
      have hD : va_D A (wLe q cI n L f9 f10) := hD
      refine lv_iload_n hx hb dLearners_nodesHeardWith_21 rfl (lv_at hl 4 rfl) ?_
      refine lv_icmp_ne (tgt := 28) hx hb dLearners_nodesHeardWith_22 (by decide) (fun c22 => ?_) (fun c22 => ?_)
      · have hz : nI (cntE (fun i => f9 (k * n + i)) b i) = nI (cntE (fun i => f9 (k * n + i)) b (i + 1)) := by show _ = nI (cntE _ _ _ + _); rw [if_neg c22]; rfl
        rw [hz] at hl
        refine lv_iinc (k := 0) (v := nI (i + 1)) hx hb dLearners_nodesHeardWith_28 hl rfl ((nI_succ _).symm) (by decide) rfl (fun ls hl => ?_)
        have hl : lv_has ls 5 [(4, .int (nI (i + 1))), (3, .int (nI (cntE (fun i => f9 (k * n + i)) b (i + 1)))), (0, .ref (q 13)), (1, .int (nI k)), (2, .int b)] := hl
        refine lv_goto (tgt := 5) hx hb dLearners_nodesHeardWith_31 (by decide) ?_
        exact ih5 (i + 1) ls H locs (by omega) hl hP hD hS
      · refine lv_iinc (k := 1) (v := nI (cntE (fun i => f9 (k * n + i)) b (i + 1))) hx hb dLearners_nodesHeardWith_25 hl rfl (by show nI _ + 1 = nI (cntE _ _ _ + _); rw [if_pos c22, nI_1]) (by decide) rfl (fun ls hl => ?_)
        have hl : lv_has ls 5 [(3, .int (nI (cntE (fun i => f9 (k * n + i)) b (i + 1)))), (4, .int (nI i)), (0, .ref (q 13)), (1, .int (nI k)), (2, .int b)] := hl
        refine lv_iinc (k := 1) (v := nI (i + 1)) hx hb dLearners_nodesHeardWith_28 hl rfl ((nI_succ _).symm) (by decide) rfl (fun ls hl => ?_)
        have hl : lv_has ls 5 [(4, .int (nI (i + 1))), (3, .int (nI (cntE (fun i => f9 (k * n + i)) b (i + 1)))), (0, .ref (q 13)), (1, .int (nI k)), (2, .int b)] := hl
        refine lv_goto (tgt := 5) hx hb dLearners_nodesHeardWith_31 (by decide) ?_
        exact ih5 (i + 1) ls H locs (by omega) hl hP hD hS
  exact loop5 n 0 ls s.heap [] (by omega) hl hP hD hS
theorem dLearners_comeBack_0 : decode cLearners_comeBack 0 = .ok (.iconst 0, 1) := by decide +kernel
theorem dLearners_comeBack_1 : decode cLearners_comeBack 1 = .ok (.istore_n 2, 1) := by decide +kernel
theorem dLearners_comeBack_2 : decode cLearners_comeBack 2 = .ok (.iload_n 2, 1) := by decide +kernel
theorem dLearners_comeBack_3 : decode cLearners_comeBack 3 = .ok (.aload_n 0, 1) := by decide +kernel
theorem dLearners_comeBack_4 : decode cLearners_comeBack 4 = .ok (.getfield 9, 3) := by decide +kernel
theorem dLearners_comeBack_7 : decode cLearners_comeBack 7 = .ok (.if_icmp .ge 23, 3) := by decide +kernel
theorem dLearners_comeBack_10 : decode cLearners_comeBack 10 = .ok (.aload_n 0, 1) := by decide +kernel
theorem dLearners_comeBack_11 : decode cLearners_comeBack 11 = .ok (.getfield 15, 3) := by decide +kernel
theorem dLearners_comeBack_14 : decode cLearners_comeBack 14 = .ok (.iload_n 1, 1) := by decide +kernel
theorem dLearners_comeBack_15 : decode cLearners_comeBack 15 = .ok (.aload_n 0, 1) := by decide +kernel
theorem dLearners_comeBack_16 : decode cLearners_comeBack 16 = .ok (.getfield 9, 3) := by decide +kernel
theorem dLearners_comeBack_19 : decode cLearners_comeBack 19 = .ok (.imul, 1) := by decide +kernel
theorem dLearners_comeBack_20 : decode cLearners_comeBack 20 = .ok (.iload_n 2, 1) := by decide +kernel
theorem dLearners_comeBack_21 : decode cLearners_comeBack 21 = .ok (.iadd, 1) := by decide +kernel
theorem dLearners_comeBack_22 : decode cLearners_comeBack 22 = .ok (.iconst (-1), 1) := by decide +kernel
theorem dLearners_comeBack_23 : decode cLearners_comeBack 23 = .ok (.iastore, 1) := by decide +kernel
theorem dLearners_comeBack_24 : decode cLearners_comeBack 24 = .ok (.iinc 2  1, 3) := by decide +kernel
theorem dLearners_comeBack_27 : decode cLearners_comeBack 27 = .ok (.goto (-25), 3) := by decide +kernel
theorem dLearners_comeBack_30 : decode cLearners_comeBack 30 = .ok (.aload_n 0, 1) := by decide +kernel
theorem dLearners_comeBack_31 : decode cLearners_comeBack 31 = .ok (.getfield 19, 3) := by decide +kernel
theorem dLearners_comeBack_34 : decode cLearners_comeBack 34 = .ok (.iload_n 1, 1) := by decide +kernel
theorem dLearners_comeBack_35 : decode cLearners_comeBack 35 = .ok (.iconst 0, 1) := by decide +kernel
theorem dLearners_comeBack_36 : decode cLearners_comeBack 36 = .ok (.iastore, 1) := by decide +kernel
theorem dLearners_comeBack_37 : decode cLearners_comeBack 37 = .ok (.return_, 1) := by decide +kernel
set_option maxRecDepth 100000 in
set_option maxHeartbeats 4000000 in
theorem c_leBack (l : Launch) (D : va_G) (cI cZ : ClassId) (q : Nat → Nat) (n : Nat) (L : Nat) (f9 : Nat → Int32) (f10 : Nat → Int32) (k : Nat) (hL20 : L ≤ 20) (hn5 : n ≤ 5) (hkL : k < L) : MV l D [(cI, .int), (cZ, .boolean)] yLearners_comeBack wsLearners_comeBack ({ frames := 0, cells := 0, slots := 0, locals := 0 }) [.ref (q 13), .int (nI k)] (wLe q cI n L f9 f10) (fun w => w = (wLe q cI n L (fillr f9 (k * n) (-1) n) (upd f10 k (nI 0)))) := by
  intro sz
  refine Met.ofW (cc := cLearners_comeBack) (maxL := 3) (ret := (Option.none : Option ClassFile.FieldType)) (by decide) rfl ?_
  intro p e s m args below meth c s₁ B hml hv
  obtain ⟨rfl, hsz, hP, hK, hD0, hZ⟩ := hv
  have hx := B.exec
  have hb := B.bytes
  have hr := B.returns
  have hts := atoms_spec (ws := wsLearners_comeBack) B.pre
  have hown : s.vm.findClass RLearners = some m.cls := findClass_of_methodNamed B.named
  have hlocks := B.notSynchronized
  subst hsz
  have hD := hD0.self (sz := s.heap.size)
  generalize hAe : va_A (wLe q cI n L f9 f10) s.heap.size = A at hD ⊢
  have hA : ∀ q : Nat, s.heap.size ≤ q → A q := fun q h => by rw [← hAe]; exact Or.inr h
  have hS : va_S A s.heap s.heap [] := va_S.rf
  have hP : va_P D vwCl (wLe q cI n L f9 f10) s.heap := hP
  have hl := lv_entry ([.ref (q 13), .int (nI k)]) (n := 3) (Nat.le_of_ble_eq_true rfl)
  rw [lg_entry_eq]
  generalize (lg_sl ([.ref (q 13), .int (nI k)]) ++ List.replicate (3 - (lg_sl ([.ref (q 13), .int (nI k)])).length) Slot.unset).toArray = ls at hl ⊢
  have hl : lv_has ls 3 [(0, .ref (q 13)), (1, .int (nI k))] := hl
  refine lv_iconst (v := nI 0) hx hb dLearners_comeBack_0 (by decide) ?_
  refine lv_istore_n hx hb dLearners_comeBack_1 rfl hl (by decide) rfl (fun ls hl => ?_)
  have hl : lv_has ls 3 [(2, .int (nI 0)), (0, .ref (q 13)), (1, .int (nI k))] := hl
  have loop2 : ∀ (d2 i : Nat) (ls : Array Slot) (H : Heap) (locs : List Loc), i + d2 = n → lv_has ls 3 [(2, .int (nI i)), (0, .ref (q 13)), (1, .int (nI k))] → va_P D vwCl (wLe q cI n L (fillr f9 (k * n) (-1) i) f10) H → va_D A (wLe q cI n L (fillr f9 (k * n) (-1) i) f10) → va_S A s.heap H locs → W p l e (headSpec wsLearners_comeBack { frames := 0, cells := 0, slots := 0, locals := 0 }).room s m [.ref (q 13), .int (nI k)].toArray below meth c H locs 0 0 (MQ below (va_Qv (fun w => w = (wLe q cI n L (fillr f9 (k * n) (-1) n) (upd f10 k (nI 0)))) (QW D [(cI, .int), (cZ, .boolean)] A) A) [.ref (q 13), .int (nI k)].toArray s 0 0 A) (F0 m 2 ls []) := by
    intro d2
    induction d2 with
    | zero =>
      intro i ls H locs hid2  hl hP hD hS
      refine lv_iload_n hx hb dLearners_comeBack_2 rfl (lv_at hl 0 rfl) ?_
      refine lv_aload_n hx hb dLearners_comeBack_3 rfl (lv_at hl 1 rfl) ?_
      refine va_get (D := D) (ci := 4) (v := .int (nI n)) (C := RLearners) (T := TLearners) (N := 3) hx hb hts (fun w h => mc (uLearners_in w h)) hown hK hP 0 rfl rfl 0 (by decide) (hts _ (mc wd95)) (fun _ h9 => h9) rfl dLearners_comeBack_4 ?_
      refine lv_icmp_ge (tgt := 30) hx hb dLearners_comeBack_7 (by decide) (fun _ => ?_) (fun h9 => absurd (nI_le (by omega) (by omega)) h9)
      have hin : n = i := by omega
      subst hin
      refine lv_aload_n hx hb dLearners_comeBack_30 rfl (lv_at hl 1 rfl) ?_
      refine va_get (D := D) (ci := 4) (v := .ref (q 15)) (C := RLearners) (T := TLearners) (N := 3) hx hb hts (fun w h => mc (uLearners_in w h)) hown hK hP 0 rfl rfl 2 (by decide) (hts _ (mc wd97)) (fun _ h9 => h9) rfl dLearners_comeBack_31 ?_
      refine lv_iload_n hx hb dLearners_comeBack_34 rfl (lv_at hl 2 rfl) ?_
      refine lv_iconst (v := nI 0) hx hb dLearners_comeBack_35 (by decide) ?_
      refine ka_st (f' := upd f10 k (nI 0)) hx hb hK hP hD hS 2 0 rfl rfl (by omega) (by omega) rfl dLearners_comeBack_36 (fun H locs hP hD hS => ?_)
      have hP : va_P D vwCl (wLe q cI n L (fillr f9 (k * n) (-1) n) (upd f10 k (nI 0))) H := hP
      have hD : va_D A (wLe q cI n L (fillr f9 (k * n) (-1) n) (upd f10 k (nI 0))) := hD
      exact W.vret hx hb hr (fun t9 ht9 hW9 => ⟨⟨(wLe q cI n L (fillr f9 (k * n) (-1) n) (upd f10 k (nI 0))), rfl, rfl, by rw [ht9]; exact hP, va_K.moved hW9.alike hK, hD⟩, hS.F ht9⟩) hS.2.2 dLearners_comeBack_37
    | succ d2 ih2 =>
      intro i ls H locs hid2  hl hP hD hS
      refine lv_iload_n hx hb dLearners_comeBack_2 rfl (lv_at hl 0 rfl) ?_
      refine lv_aload_n hx hb dLearners_comeBack_3 rfl (lv_at hl 1 rfl) ?_
      refine va_get (D := D) (ci := 4) (v := .int (nI n)) (C := RLearners) (T := TLearners) (N := 3) hx hb hts (fun w h => mc (uLearners_in w h)) hown hK hP 0 rfl rfl 0 (by decide) (hts _ (mc wd95)) (fun _ h9 => h9) rfl dLearners_comeBack_4 ?_
      refine lv_icmp_ge (tgt := 30) hx hb dLearners_comeBack_7 (by decide) (fun h9 => absurd h9 (nI_ge (by omega) (by omega))) (fun _ => ?_)
      refine lv_aload_n hx hb dLearners_comeBack_10 rfl (lv_at hl 1 rfl) ?_
      refine va_get (D := D) (ci := 4) (v := .ref (q 14)) (C := RLearners) (T := TLearners) (N := 3) hx hb hts (fun w h => mc (uLearners_in w h)) hown hK hP 0 rfl rfl 1 (by decide) (hts _ (mc wd96)) (fun _ h9 => h9) rfl dLearners_comeBack_11 ?_
      refine lv_iload_n hx hb dLearners_comeBack_14 rfl (lv_at hl 2 rfl) ?_
      refine lv_aload_n hx hb dLearners_comeBack_15 rfl (lv_at hl 1 rfl) ?_
      refine va_get (D := D) (ci := 4) (v := .int (nI n)) (C := RLearners) (T := TLearners) (N := 3) hx hb hts (fun w h => mc (uLearners_in w h)) hown hK hP 0 rfl rfl 0 (by decide) (hts _ (mc wd95)) (fun _ h9 => h9) rfl dLearners_comeBack_16 ?_
      refine lv_imul hx hb dLearners_comeBack_19 ?_
      refine lv_topi (nm_r (pk_mul _ _) ?_)
      refine lv_iload_n hx hb dLearners_comeBack_20 rfl (lv_at hl 0 rfl) ?_
      refine lv_iadd hx hb dLearners_comeBack_21 ?_
      refine lv_topi (nm_r (nI_add _ _) ?_)
      refine lv_iconst (v := (-1)) hx hb dLearners_comeBack_22 (by decide) ?_
      refine ka_st (f' := fillr f9 (k * n) (-1) (i + 1)) hx hb hK hP hD hS 1 0 rfl rfl (seat_lt hkL (by omega)) (by have := Nat.mul_le_mul hL20 hn5; omega) rfl dLearners_comeBack_23 (fun H locs hP hD hS => ?_)
      have hP : va_P D vwCl (wLe q cI n L (fillr f9 (k * n) (-1) (i + 1)) f10) H := hP
      have hD : va_D A (wLe q cI n L (fillr f9 (k * n) (-1) (i + 1)) f10) := hD
      refine lv_iinc (k := 0) (v := nI (i + 1)) hx hb dLearners_comeBack_24 hl rfl ((nI_succ _).symm) (by decide) rfl (fun ls hl => ?_)
      have hl : lv_has ls 3 [(2, .int (nI (i + 1))), (0, .ref (q 13)), (1, .int (nI k))] := hl
      refine lv_goto (tgt := 2) hx hb dLearners_comeBack_27 (by decide) ?_
      exact ih2 (i + 1) ls H locs (by omega) hl hP hD hS
  exact loop2 n 0 ls s.heap [] (by omega) hl hP hD hS
theorem dLearners_hear_0 : decode cLearners_hear 0 = .ok (.iload_n 3, 1) := by decide +kernel
theorem dLearners_hear_1 : decode cLearners_hear 1 = .ok (.aload_n 0, 1) := by decide +kernel
theorem dLearners_hear_2 : decode cLearners_hear 2 = .ok (.iload_n 1, 1) := by decide +kernel
theorem dLearners_hear_3 : decode cLearners_hear 3 = .ok (.iload_n 2, 1) := by decide +kernel
theorem dLearners_hear_4 : decode cLearners_hear 4 = .ok (.invokevirtual 28, 3) := by decide +kernel
theorem dLearners_hear_7 : decode cLearners_hear 7 = .ok (.if_icmp .gt 4, 3) := by decide +kernel
theorem dLearners_hear_10 : decode cLearners_hear 10 = .ok (.return_, 1) := by decide +kernel
theorem dLearners_hear_11 : decode cLearners_hear 11 = .ok (.aload_n 0, 1) := by decide +kernel
theorem dLearners_hear_12 : decode cLearners_hear 12 = .ok (.getfield 15, 3) := by decide +kernel
theorem dLearners_hear_15 : decode cLearners_hear 15 = .ok (.iload_n 1, 1) := by decide +kernel
theorem dLearners_hear_16 : decode cLearners_hear 16 = .ok (.aload_n 0, 1) := by decide +kernel
theorem dLearners_hear_17 : decode cLearners_hear 17 = .ok (.getfield 9, 3) := by decide +kernel
theorem dLearners_hear_20 : decode cLearners_hear 20 = .ok (.imul, 1) := by decide +kernel
theorem dLearners_hear_21 : decode cLearners_hear 21 = .ok (.iload_n 2, 1) := by decide +kernel
theorem dLearners_hear_22 : decode cLearners_hear 22 = .ok (.iadd, 1) := by decide +kernel
theorem dLearners_hear_23 : decode cLearners_hear 23 = .ok (.iload_n 3, 1) := by decide +kernel
theorem dLearners_hear_24 : decode cLearners_hear 24 = .ok (.iastore, 1) := by decide +kernel
theorem dLearners_hear_25 : decode cLearners_hear 25 = .ok (.aload_n 0, 1) := by decide +kernel
theorem dLearners_hear_26 : decode cLearners_hear 26 = .ok (.iload_n 1, 1) := by decide +kernel
theorem dLearners_hear_27 : decode cLearners_hear 27 = .ok (.iload_n 3, 1) := by decide +kernel
theorem dLearners_hear_28 : decode cLearners_hear 28 = .ok (.invokevirtual 32, 3) := by decide +kernel
theorem dLearners_hear_31 : decode cLearners_hear 31 = .ok (.aload_n 0, 1) := by decide +kernel
theorem dLearners_hear_32 : decode cLearners_hear 32 = .ok (.getfield 9, 3) := by decide +kernel
theorem dLearners_hear_35 : decode cLearners_hear 35 = .ok (.invokestatic 35, 3) := by decide +kernel
theorem dLearners_hear_38 : decode cLearners_hear 38 = .ok (.ifCond .eq 10, 3) := by decide +kernel
theorem dLearners_hear_41 : decode cLearners_hear 41 = .ok (.aload_n 0, 1) := by decide +kernel
theorem dLearners_hear_42 : decode cLearners_hear 42 = .ok (.iload_n 1, 1) := by decide +kernel
theorem dLearners_hear_43 : decode cLearners_hear 43 = .ok (.iload 4, 2) := by decide +kernel
theorem dLearners_hear_45 : decode cLearners_hear 45 = .ok (.invokevirtual 39, 3) := by decide +kernel
theorem dLearners_hear_48 : decode cLearners_hear 48 = .ok (.return_, 1) := by decide +kernel
set_option maxRecDepth 100000 in
set_option maxHeartbeats 4000000 in
theorem c_hear (l : Launch) (D : va_G) (cI cZ : ClassId) (q : Nat → Nat) (n : Nat) (L : Nat) (f9 : Nat → Int32) (f10 : Nat → Int32) (k : Nat) (j : Nat) (b : Int32) (v : Int32) (hL20 : L ≤ 20) (hn5 : n ≤ 5) (hkL : k < L) (hjn : j < n) : MV l D [(cI, .int), (cZ, .boolean)] yLearners_hear wsLearners_hear ({ frames := 2, cells := 0, slots := 0, locals := 46 }) [.ref (q 13), .int (nI k), .int (nI j), .int b, .int v] (wLe q cI n L f9 f10) (fun w => ((¬ f9 (k * n + j) < b) ∧ w = (wLe q cI n L f9 f10)) ∨ ((f9 (k * n + j) < b ∧ ¬ n < 2 * cntE (fun i => (upd f9 (k * n + j) b) (k * n + i)) b n) ∧ w = (wLe q cI n L (upd f9 (k * n + j) b) f10)) ∨ ((f9 (k * n + j) < b ∧ n < 2 * cntE (fun i => (upd f9 (k * n + j) b) (k * n + i)) b n) ∧ w = (wLe q cI n L (upd f9 (k * n + j) b) (if f10 k = 0 then upd f10 k v else f10)))) := by
  intro sz
  refine Met.ofW (cc := cLearners_hear) (maxL := 5) (ret := (Option.none : Option ClassFile.FieldType)) (by decide) rfl ?_
  intro p e s m args below meth c s₁ B hml hv
  obtain ⟨rfl, hsz, hP, hK, hD0, hZ⟩ := hv
  have hx := B.exec
  have hb := B.bytes
  have hr := B.returns
  have hts := atoms_spec (ws := wsLearners_hear) B.pre
  have hown : s.vm.findClass RLearners = some m.cls := findClass_of_methodNamed B.named
  have hlocks := B.notSynchronized
  subst hsz
  have hD := hD0.self (sz := s.heap.size)
  generalize hAe : va_A (wLe q cI n L f9 f10) s.heap.size = A at hD ⊢
  have hA : ∀ q : Nat, s.heap.size ≤ q → A q := fun q h => by rw [← hAe]; exact Or.inr h
  have hS : va_S A s.heap s.heap [] := va_S.rf
  have hP : va_P D vwCl (wLe q cI n L f9 f10) s.heap := hP
  have hl := lv_entry ([.ref (q 13), .int (nI k), .int (nI j), .int b, .int v]) (n := 5) (Nat.le_of_ble_eq_true rfl)
  rw [lg_entry_eq]
  generalize (lg_sl ([.ref (q 13), .int (nI k), .int (nI j), .int b, .int v]) ++ List.replicate (5 - (lg_sl ([.ref (q 13), .int (nI k), .int (nI j), .int b, .int v])).length) Slot.unset).toArray = ls at hl ⊢
  have hl : lv_has ls 5 [(0, .ref (q 13)), (1, .int (nI k)), (2, .int (nI j)), (3, .int b), (4, .int v)] := hl
  refine lv_iload_n hx hb dLearners_hear_0 rfl (lv_at hl 3 rfl) ?_
  refine lv_aload_n hx hb dLearners_hear_1 rfl (lv_at hl 0 rfl) ?_
  refine lv_iload_n hx hb dLearners_hear_2 rfl (lv_at hl 1 rfl) ?_
  refine lv_iload_n hx hb dLearners_hear_3 rfl (lv_at hl 2 rfl) ?_
  have hPc := hP.sub (ws' := (wLe q cI n L f9 f10)) [0, 1, 2] rfl
  have hDc := hD.sub (ws' := (wLe q cI n L f9 f10)) [0, 1, 2] (by decide) rfl
  refine kx_i (va_runV (As := [.int (nI k), .int (nI j)]) (rest := [.int b]) ⟨hx, hb, hml, hown, hts⟩ ((c_ballotOf l D cI cZ q n L f9 f10 k j (hL20) (hn5) (hkL) (hjn)) s.heap.size) (cwV 2 hts (gV wd265 wd266 wd267 wd6 wd268) rfl rfl rfl (by decide +kernel) ⟨Nat.le_of_ble_eq_true rfl, Nat.le_of_ble_eq_true rfl⟩) ⟨fb_PW, va_recv (q0 := 0) (ci := 4) hK hPc rfl rfl, pre_PW hK hPc hDc hZ⟩ rfl rfl hl.1 rfl (lv_room (Nat.le_of_ble_eq_true rfl)) dLearners_hear_4 ⟨Nat.zero_le _, Nat.zero_le _⟩) hP hD hS hA [0, 1, 2] [] rfl rfl (by decide) (by decide) (fun r w1 H locs hw hP hD hS => ?_)
  obtain ⟨rfl, rfl⟩ := hw
  have hP : va_P D vwCl (wLe q cI n L f9 f10) H := hP
  have hD : va_D A (wLe q cI n L f9 f10) := hD
  refine lv_icmp_gt (tgt := 11) hx hb dLearners_hear_7 (by decide) (fun c7 => ?_) (fun c7 => ?_)
  · refine lv_aload_n hx hb dLearners_hear_11 rfl (lv_at hl 0 rfl) ?_
    refine va_get (D := D) (ci := 4) (v := .ref (q 14)) (C := RLearners) (T := TLearners) (N := 3) hx hb hts (fun w h => mc (uLearners_in w h)) hown hK hP 0 rfl rfl 1 (by decide) (hts _ (mc wd96)) (fun _ h9 => h9) rfl dLearners_hear_12 ?_
    refine lv_iload_n hx hb dLearners_hear_15 rfl (lv_at hl 1 rfl) ?_
    refine lv_aload_n hx hb dLearners_hear_16 rfl (lv_at hl 0 rfl) ?_
    refine va_get (D := D) (ci := 4) (v := .int (nI n)) (C := RLearners) (T := TLearners) (N := 3) hx hb hts (fun w h => mc (uLearners_in w h)) hown hK hP 0 rfl rfl 0 (by decide) (hts _ (mc wd95)) (fun _ h9 => h9) rfl dLearners_hear_17 ?_
    refine lv_imul hx hb dLearners_hear_20 ?_
    refine lv_topi (nm_r (pk_mul _ _) ?_)
    refine lv_iload_n hx hb dLearners_hear_21 rfl (lv_at hl 2 rfl) ?_
    refine lv_iadd hx hb dLearners_hear_22 ?_
    refine lv_topi (nm_r (nI_add _ _) ?_)
    refine lv_iload_n hx hb dLearners_hear_23 rfl (lv_at hl 3 rfl) ?_
    refine ka_st (f' := upd f9 (k * n + j) b) hx hb hK hP hD hS 1 0 rfl rfl (seat_lt hkL hjn) (by have := Nat.mul_le_mul hL20 hn5; omega) rfl dLearners_hear_24 (fun H locs hP hD hS => ?_)
    have hP : va_P D vwCl (wLe q cI n L (upd f9 (k * n + j) b) f10) H := hP
    have hD : va_D A (wLe q cI n L (upd f9 (k * n + j) b) f10) := hD
    refine lv_aload_n hx hb dLearners_hear_25 rfl (lv_at hl 0 rfl) ?_
    refine lv_iload_n hx hb dLearners_hear_26 rfl (lv_at hl 1 rfl) ?_
    refine lv_iload_n hx hb dLearners_hear_27 rfl (lv_at hl 3 rfl) ?_
    have hPc := hP.sub (ws' := (wLe q cI n L (upd f9 (k * n + j) b) f10)) [0, 1, 2] rfl
    have hDc := hD.sub (ws' := (wLe q cI n L (upd f9 (k * n + j) b) f10)) [0, 1, 2] (by decide) rfl
    refine kx_i (va_runV (As := [.int (nI k), .int b]) (rest := []) ⟨hx, hb, hml, hown, hts⟩ ((c_nodesHeardWith l D cI cZ q n L (upd f9 (k * n + j) b) f10 k b (hL20) (hn5) (hkL)) H.size) (cwV 2 hts (gV wd269 wd271 sl_Learners_nodesHeardWith wd6 wd272) rfl rfl rfl (by decide +kernel) ⟨Nat.le_of_ble_eq_true rfl, Nat.le_of_ble_eq_true rfl⟩) ⟨fb_PW, va_recv (q0 := 0) (ci := 4) hK hPc rfl rfl, pre_PW hK hPc hDc hZ⟩ rfl rfl hl.1 rfl (lv_room (Nat.le_of_ble_eq_true rfl)) dLearners_hear_28 ⟨Nat.zero_le _, Nat.zero_le _⟩) hP hD hS hA [0, 1, 2] [] rfl rfl (by decide) (by decide) (fun r w1 H locs hw hP hD hS => ?_)
    obtain ⟨rfl, rfl⟩ := hw
    have hP : va_P D vwCl (wLe q cI n L (upd f9 (k * n + j) b) f10) H := hP
    have hD : va_D A (wLe q cI n L (upd f9 (k * n + j) b) f10) := hD
    refine lv_aload_n hx hb dLearners_hear_31 rfl (lv_at hl 0 rfl) ?_
    refine va_get (D := D) (ci := 4) (v := .int (nI n)) (C := RLearners) (T := TLearners) (N := 3) hx hb hts (fun w h => mc (uLearners_in w h)) hown hK hP 0 rfl rfl 0 (by decide) (hts _ (mc wd95)) (fun _ h9 => h9) rfl dLearners_hear_32 ?_
    have hPc := hP.sub (ws' := ([] : va_W)) [] rfl
    have hDc := hD.sub (ws' := ([] : va_W)) [] (by decide) rfl
    refine kx_i (va_runSN (As := [.int (nI (cntE (fun i => (upd f9 (k * n + j) b) (k * n + i)) b n)), .int (nI n)]) (rest := []) ⟨hx, hb, hml, hown, hts⟩ ((c_isMajority l D cI cZ (cntE (fun i => (upd f9 (k * n + j) b) (k * n + i)) b n) n (Nat.le_trans (cntE_le _ _ _) hn5) (hn5)) H.size) ⟨va_cnB 2 hts (gC wd219) rfl rfl rfl (hZ.n3) (hts _ (mc wd1)) (by decide +kernel) ⟨Nat.le_of_ble_eq_true rfl, Nat.le_of_ble_eq_true rfl⟩, hts _ (mc wd218), trivial⟩ ⟨fb_PW, pre_PW hK hPc hDc hZ⟩ rfl rfl hl.1 rfl (lv_room (Nat.le_of_ble_eq_true rfl)) dLearners_hear_35 ⟨Nat.zero_le _, Nat.zero_le _⟩) hP hD hS hA [] [0, 1, 2] rfl rfl (by decide) (by decide) (fun r w1 H locs hw hP hD hS => ?_)
    rcases hw with ⟨rfl, h35, rfl⟩ | ⟨rfl, h35, rfl⟩
    · have hP : va_P D vwCl (wLe q cI n L (upd f9 (k * n + j) b) f10) H := hP
      have hD : va_D A (wLe q cI n L (upd f9 (k * n + j) b) f10) := hD
      refine lv_if_eq (tgt := 48) hx hb dLearners_hear_38 (by decide) (fun h9 => absurd h9 (by decide)) (fun _ => ?_)
      refine lv_aload_n hx hb dLearners_hear_41 rfl (lv_at hl 0 rfl) ?_
      refine lv_iload_n hx hb dLearners_hear_42 rfl (lv_at hl 1 rfl) ?_
      refine lv_iload hx hb dLearners_hear_43 (lv_at hl 4 rfl) ?_
      have hPc := hP.sub (ws' := (wLe q cI n L (upd f9 (k * n + j) b) f10)) [0, 1, 2] rfl
      have hDc := hD.sub (ws' := (wLe q cI n L (upd f9 (k * n + j) b) f10)) [0, 1, 2] (by decide) rfl
      refine kx_v (va_runV (As := [.int (nI k), .int v]) (rest := []) ⟨hx, hb, hml, hown, hts⟩ ((c_learn l D cI cZ q n L (upd f9 (k * n + j) b) f10 k v (hL20) (hkL)) H.size) (cwV 2 hts (gV wd274 wd275 wd276 wd6 wd277) rfl rfl rfl (by decide +kernel) ⟨Nat.le_of_ble_eq_true rfl, Nat.le_of_ble_eq_true rfl⟩) ⟨fb_PW, va_recv (q0 := 0) (ci := 4) hK hPc rfl rfl, pre_PW hK hPc hDc hZ⟩ rfl rfl hl.1 rfl (lv_room (Nat.le_of_ble_eq_true rfl)) dLearners_hear_45 ⟨Nat.zero_le _, Nat.zero_le _⟩) hP hD hS hA [0, 1, 2] [] rfl rfl (by decide) (by decide) (fun w1 H locs hw hP hD hS => ?_)
      obtain rfl := hw
      have hP : va_P D vwCl (wLe q cI n L (upd f9 (k * n + j) b) (if f10 k = 0 then upd f10 k v else f10)) H := hP
      have hD : va_D A (wLe q cI n L (upd f9 (k * n + j) b) (if f10 k = 0 then upd f10 k v else f10)) := hD
      exact W.vret hx hb hr (fun t9 ht9 hW9 => ⟨⟨(wLe q cI n L (upd f9 (k * n + j) b) (if f10 k = 0 then upd f10 k v else f10)), rfl, Or.inr (Or.inr ⟨⟨c7, h35⟩, rfl⟩), by rw [ht9]; exact hP, va_K.moved hW9.alike hK, hD⟩, hS.F ht9⟩) hS.2.2 dLearners_hear_48
    · have hP : va_P D vwCl (wLe q cI n L (upd f9 (k * n + j) b) f10) H := hP
      have hD : va_D A (wLe q cI n L (upd f9 (k * n + j) b) f10) := hD
      refine lv_if_eq (tgt := 48) hx hb dLearners_hear_38 (by decide) (fun _ => ?_) (fun h9 => absurd (by decide) h9)
      exact W.vret hx hb hr (fun t9 ht9 hW9 => ⟨⟨(wLe q cI n L (upd f9 (k * n + j) b) f10), rfl, Or.inr (Or.inl ⟨⟨c7, h35⟩, rfl⟩), by rw [ht9]; exact hP, va_K.moved hW9.alike hK, hD⟩, hS.F ht9⟩) hS.2.2 dLearners_hear_48
  · exact W.vret hx hb hr (fun t9 ht9 hW9 => ⟨⟨(wLe q cI n L f9 f10), rfl, Or.inl ⟨c7, rfl⟩, by rw [ht9]; exact hP, va_K.moved hW9.alike hK, hD⟩, hS.F ht9⟩) hS.2.2 dLearners_hear_10
end
section
abbrev wX (q : Nat → Nat) (cI : ClassId) (n S P : Nat) (x : St) : va_W := wD q cI n S P (n * S) (nI (msk (col (x.1 13) 0) n)) (x.1 12 0 0) (x.1 12 0 1) (x.1 0) (cntx P x) (sq S (x.1 1)) (sq S (x.1 2)) (sq S (x.1 3)) (sq S (x.1 4)) (sq S (x.1 5)) (sq S (x.1 8)) (sq S (x.1 9)) (sq S (x.1 10)) (hq n S (x.2 0)) (sq S (x.1 11))
theorem wX_send {q : Nat → Nat} {cI : ClassId} {n S P : Nat} {y : St} {k s r sl b v o : Int32} (hk : k ≠ 0) (h : cntx P y < P) :
    wD q cI n S P (n * S) (nI (msk (col (y.1 13) 0) n)) (y.1 12 0 0) (y.1 12 0 1) (up7 (y.1 0) (lst (col (y.1 0) 0) P 0) k s r sl b v o) (cntx P y + 1) (sq S (y.1 1)) (sq S (y.1 2)) (sq S (y.1 3)) (sq S (y.1 4)) (sq S (y.1 5)) (sq S (y.1 8)) (sq S (y.1 9)) (sq S (y.1 10)) (hq n S (y.2 0)) (sq S (y.1 11))
    = wX q cI n S P (send1 P y k s r sl b v o) := by
  have e0 : (send1 P y k s r sl b v o).1 0 = up7 (y.1 0) (lst (col (y.1 0) 0) P 0) k s r sl b v o := put7_c
  have e : ∀ c, c ≠ 0 → (send1 P y k s r sl b v o).1 c = y.1 c := fun c hc => put7_o hc
  have e2 : (send1 P y k s r sl b v o).2 = y.2 := rfl
  simp only [wX, e0, e2, cnt_send hk h, e 1 (by decide), e 2 (by decide), e 3 (by decide), e 4 (by decide), e 5 (by decide), e 8 (by decide), e 9 (by decide), e 10 (by decide), e 11 (by decide), e 12 (by decide), e 13 (by decide)]
theorem fin2 {q : Nat → Nat} {cI : ClassId} {n S P : Nat} {p : Int32 × St} {r : Int32} {y : St} (h : p = (r, y)) : r = p.1 ∧ wX q cI n S P y = wX q cI n S P p.2 := by
  rw [h]; exact ⟨rfl, rfl⟩
theorem wX_learn {q : Nat → Nat} {cI : ClassId} {n S P : Nat} {y : St} {a t : Nat} {v : Int32} (ht : t < S) :
    wD q cI n S P (n * S) (nI (msk (col (y.1 13) 0) n)) (y.1 12 0 0) (y.1 12 0 1) (y.1 0) (cntx P y) (sq S (y.1 1)) (sq S (y.1 2)) (sq S (y.1 3)) (sq S (y.1 4)) (sq S (y.1 5)) (sq S (y.1 8)) (sq S (y.1 9)) (sq S (y.1 10)) (hq n S (y.2 0)) (if sq S (y.1 11) (a * S + t) = 0 then upd (sq S (y.1 11)) (a * S + t) v else sq S (y.1 11))
    = wX q cI n S P (sLearn y a t v) := by
  rw [sq_at ht, sq_up ht]
  unfold sLearn
  by_cases h : y.1 11 a t = 0
  · rw [if_pos h, if_pos h]; rfl
  · rw [if_neg h, if_neg h]
theorem wX_prom1 {q : Nat → Nat} {cI : ClassId} {n S P : Nat} {y : St} {a t : Nat} {sd v o : Int32} (ht : t < S) :
    wD q cI n S P (n * S) (nI (msk (col (y.1 13) 0) n)) (y.1 12 0 0) (y.1 12 0 1) (y.1 0) (cntx P y) (sq S (y.1 1)) (sq S (y.1 2)) (upd (sq S (y.1 3)) (a * S + t) (orb (sq S (y.1 3) (a * S + t)) sd)) (if sq S (y.1 4) (a * S + t) < o then upd (sq S (y.1 4)) (a * S + t) o else sq S (y.1 4)) (if sq S (y.1 4) (a * S + t) < o then upd (sq S (y.1 5)) (a * S + t) v else sq S (y.1 5)) (sq S (y.1 8)) (sq S (y.1 9)) (sq S (y.1 10)) (hq n S (y.2 0)) (sq S (y.1 11))
    = wX q cI n S P (sProm1 y a t sd v o) := by
  simp only [sq_at ht, sq_up ht]
  unfold sProm1
  by_cases h : y.1 4 a t < o
  · simp only [if_pos h]; rfl
  · simp only [if_neg h]; rfl
theorem wX_prom2 {q : Nat → Nat} {cI : ClassId} {n S P : Nat} {y : St} {a t : Nat} {sd v o : Int32} (ht : t < S) :
    wD q cI n S P (n * S) (nI (msk (col (y.1 13) 0) n)) (y.1 12 0 0) (y.1 12 0 1) (y.1 0) (cntx P y) (upd (sq S (y.1 1)) (a * S + t) (nI 2)) (sq S (y.1 2)) (upd (sq S (y.1 3)) (a * S + t) (orb (sq S (y.1 3) (a * S + t)) sd)) (if sq S (y.1 4) (a * S + t) < o then upd (sq S (y.1 4)) (a * S + t) o else sq S (y.1 4)) (if sq S (y.1 4) (a * S + t) < o then upd (sq S (y.1 5)) (a * S + t) v else sq S (y.1 5)) (sq S (y.1 8)) (sq S (y.1 9)) (sq S (y.1 10)) (hq n S (y.2 0)) (sq S (y.1 11))
    = wX q cI n S P (put (sProm1 y a t sd v o) 1 a t (nI 2)) := by
  simp only [sq_at ht, sq_up ht]
  unfold sProm1
  by_cases h : y.1 4 a t < o
  · simp only [if_pos h]; rfl
  · simp only [if_neg h]; rfl
theorem cnt_prom {P : Nat} {y : St} {a t : Nat} {sd v o w : Int32} : cntx P (put (sProm1 y a t sd v o) 1 a t w) = cntx P y := by
  unfold sProm1
  by_cases h : y.1 4 a t < o
  · rw [if_pos h]; rfl
  · rw [if_neg h]; rfl
theorem cntE_ext {f g : Nat → Int32} {b : Int32} : ∀ i, (∀ j, j < i → f j = g j) → cntE f b i = cntE g b i := by
  intro i
  induction i with
  | zero => intro _; rfl
  | succ i ih =>
    intro h
    unfold cntE
    rw [ih (fun j hj => h j (by omega)), h i (by omega)]
theorem hear_cnt {n S a t c : Nat} {h : Nat → Nat → Nat → Int32} {b : Int32} (hc : c < n) (ht : t < S) : cntE (fun i => upd (hq n S h) ((a * S + t) * n + c) b ((a * S + t) * n + i)) b n = cntE (up3 h a t c b a t) b n := by
  apply cntE_ext
  intro j hj
  rw [hq_up hc ht]
  exact hq_at hj ht
end
section
theorem dDecreePool_hasNode_0 : decode cDecreePool_hasNode 0 = .ok (.iload_n 1, 1) := by decide +kernel
theorem dDecreePool_hasNode_1 : decode cDecreePool_hasNode 1 = .ok (.iconst 0, 1) := by decide +kernel
theorem dDecreePool_hasNode_2 : decode cDecreePool_hasNode 2 = .ok (.aload_n 0, 1) := by decide +kernel
theorem dDecreePool_hasNode_3 : decode cDecreePool_hasNode 3 = .ok (.getfield 13, 3) := by decide +kernel
theorem dDecreePool_hasNode_6 : decode cDecreePool_hasNode 6 = .ok (.iconst 1, 1) := by decide +kernel
theorem dDecreePool_hasNode_7 : decode cDecreePool_hasNode 7 = .ok (.isub, 1) := by decide +kernel
theorem dDecreePool_hasNode_8 : decode cDecreePool_hasNode 8 = .ok (.invokestatic 7, 3) := by decide +kernel
theorem dDecreePool_hasNode_11 : decode cDecreePool_hasNode 11 = .ok (.ireturn, 1) := by decide +kernel
set_option maxRecDepth 100000 in
set_option maxHeartbeats 4000000 in
theorem c_hasNode (l : Launch) (D : va_G) (cI cZ : ClassId) (q : Nat → Nat) (n : Nat) (S : Nat) (P : Nat) (x : St) (v : Int32) (hn1 : 1 ≤ n) (hn5 : n ≤ 5) (hS1 : 1 ≤ S) (hS4 : S ≤ 4) (hP5 : 5 ≤ P) (hP64 : P ≤ 64) : MI l D [(cI, .int), (cZ, .boolean)] yDecreePool_hasNode wsDecreePool_hasNode ({ frames := 1, cells := 0, slots := 0, locals := 22 }) [.ref (q 0), .int v] (wX q cI n S P x) (fun r w => (r = nI 1 ∧ (okN v n) ∧ w = (wX q cI n S P x)) ∨ (r = nI 0 ∧ (¬ (okN v n)) ∧ w = (wX q cI n S P x))) := by
  intro sz
  refine Met.ofW (cc := cDecreePool_hasNode) (maxL := 2) (ret := (Option.some .boolean)) (by decide) rfl ?_
  intro p e s m args below meth c s₁ B hml hv
  obtain ⟨rfl, hsz, hP, hK, hD0, hZ⟩ := hv
  have hx := B.exec
  have hb := B.bytes
  have hr := B.returns
  have hts := atoms_spec (ws := wsDecreePool_hasNode) B.pre
  have hown : s.vm.findClass RDecreePool = some m.cls := findClass_of_methodNamed B.named
  have hlocks := B.notSynchronized
  subst hsz
  have hD := hD0.self (sz := s.heap.size)
  generalize hAe : va_A (wX q cI n S P x) s.heap.size = A at hD ⊢
  have hA : ∀ q : Nat, s.heap.size ≤ q → A q := fun q h => by rw [← hAe]; exact Or.inr h
  have hS : va_S A s.heap s.heap [] := va_S.rf
  have hP : va_P D vwCl (wX q cI n S P x) s.heap := hP
  have hl := lv_entry ([.ref (q 0), .int v]) (n := 2) (Nat.le_of_ble_eq_true rfl)
  rw [lg_entry_eq]
  generalize (lg_sl ([.ref (q 0), .int v]) ++ List.replicate (2 - (lg_sl ([.ref (q 0), .int v])).length) Slot.unset).toArray = ls at hl ⊢
  have hl : lv_has ls 2 [(0, .ref (q 0)), (1, .int v)] := hl
  refine lv_iload_n hx hb dDecreePool_hasNode_0 rfl (lv_at hl 1 rfl) ?_
  refine lv_iconst (v := nI 0) hx hb dDecreePool_hasNode_1 (by decide) ?_
  refine lv_aload_n hx hb dDecreePool_hasNode_2 rfl (lv_at hl 0 rfl) ?_
  refine va_get (D := D) (ci := 0) (v := .int (nI n)) (C := RDecreePool) (T := TDecreePool) (N := 9) hx hb hts (fun w h => mc (uDecreePool_in w h)) hown hK hP 0 rfl rfl 0 (by decide) (hts _ (mc wd105)) (fun _ h9 => h9) rfl dDecreePool_hasNode_3 ?_
  refine lv_iconst (v := nI 1) hx hb dDecreePool_hasNode_6 (by decide) ?_
  refine lv_isub hx hb dDecreePool_hasNode_7 ?_
  refine lv_topi (nm_r (pk_sub (by omega)) ?_)
  have hPc := hP.sub (ws' := ([] : va_W)) [] rfl
  have hDc := hD.sub (ws' := ([] : va_W)) [] (by decide) rfl
  refine kx_i (va_runS (As := [.int v, .int (nI 0), .int (nI (n - 1))]) (rest := []) ⟨hx, hb, hml, hown, hts⟩ ((c_isWithin l D cI cZ v (nI 0) (nI (n - 1))) s.heap.size) (va_cwS 3 hts (gS wd17 wd18 wd1 wd19) rfl rfl rfl (by decide +kernel) ⟨Nat.le_of_ble_eq_true rfl, Nat.le_of_ble_eq_true rfl⟩) ⟨fb_PW, pre_PW hK hPc hDc hZ⟩ rfl rfl hl.1 rfl (lv_room (Nat.le_of_ble_eq_true rfl)) dDecreePool_hasNode_8 ⟨Nat.zero_le _, Nat.zero_le _⟩) hP hD hS hA [] [0, 1, 2, 3, 4, 5, 6, 7, 8, 9, 10, 11, 12, 13, 14, 15] rfl rfl (by decide) (by decide) (fun r w1 H locs hw hP hD hS => ?_)
  rcases hw with ⟨rfl, h8, rfl⟩ | ⟨rfl, h8, rfl⟩
  · have hP : va_P D vwCl (wX q cI n S P x) H := hP
    have hD : va_D A (wX q cI n S P x) := hD
    exact W.zret (v := nI 1) (ty := .boolean) hx hb hr (by decide) (fun t9 ht9 hW9 => ⟨⟨nI 1, (wX q cI n S P x), rfl, Or.inl ⟨rfl, wi_ok hn1 (by omega) h8, rfl⟩, by rw [ht9]; exact hP, va_K.moved hW9.alike hK, hD⟩, hS.F ht9⟩) hS.2.2 dDecreePool_hasNode_11
  · have hP : va_P D vwCl (wX q cI n S P x) H := hP
    have hD : va_D A (wX q cI n S P x) := hD
    exact W.zret (v := nI 0) (ty := .boolean) hx hb hr (by decide) (fun t9 ht9 hW9 => ⟨⟨nI 0, (wX q cI n S P x), rfl, Or.inr ⟨rfl, wi_no (by omega) h8, rfl⟩, by rw [ht9]; exact hP, va_K.moved hW9.alike hK, hD⟩, hS.F ht9⟩) hS.2.2 dDecreePool_hasNode_11
theorem dDecreePool_hasSlot_0 : decode cDecreePool_hasSlot 0 = .ok (.iload_n 1, 1) := by decide +kernel
theorem dDecreePool_hasSlot_1 : decode cDecreePool_hasSlot 1 = .ok (.iconst 0, 1) := by decide +kernel
theorem dDecreePool_hasSlot_2 : decode cDecreePool_hasSlot 2 = .ok (.aload_n 0, 1) := by decide +kernel
theorem dDecreePool_hasSlot_3 : decode cDecreePool_hasSlot 3 = .ok (.getfield 17, 3) := by decide +kernel
theorem dDecreePool_hasSlot_6 : decode cDecreePool_hasSlot 6 = .ok (.iconst 1, 1) := by decide +kernel
theorem dDecreePool_hasSlot_7 : decode cDecreePool_hasSlot 7 = .ok (.isub, 1) := by decide +kernel
theorem dDecreePool_hasSlot_8 : decode cDecreePool_hasSlot 8 = .ok (.invokestatic 7, 3) := by decide +kernel
theorem dDecreePool_hasSlot_11 : decode cDecreePool_hasSlot 11 = .ok (.ireturn, 1) := by decide +kernel
set_option maxRecDepth 100000 in
set_option maxHeartbeats 4000000 in
theorem c_hasSlot (l : Launch) (D : va_G) (cI cZ : ClassId) (q : Nat → Nat) (n : Nat) (S : Nat) (P : Nat) (x : St) (v : Int32) (hn1 : 1 ≤ n) (hn5 : n ≤ 5) (hS1 : 1 ≤ S) (hS4 : S ≤ 4) (hP5 : 5 ≤ P) (hP64 : P ≤ 64) : MI l D [(cI, .int), (cZ, .boolean)] yDecreePool_hasSlot wsDecreePool_hasSlot ({ frames := 1, cells := 0, slots := 0, locals := 22 }) [.ref (q 0), .int v] (wX q cI n S P x) (fun r w => (r = nI 1 ∧ (okN v S) ∧ w = (wX q cI n S P x)) ∨ (r = nI 0 ∧ (¬ (okN v S)) ∧ w = (wX q cI n S P x))) := by
  intro sz
  refine Met.ofW (cc := cDecreePool_hasSlot) (maxL := 2) (ret := (Option.some .boolean)) (by decide) rfl ?_
  intro p e s m args below meth c s₁ B hml hv
  obtain ⟨rfl, hsz, hP, hK, hD0, hZ⟩ := hv
  have hx := B.exec
  have hb := B.bytes
  have hr := B.returns
  have hts := atoms_spec (ws := wsDecreePool_hasSlot) B.pre
  have hown : s.vm.findClass RDecreePool = some m.cls := findClass_of_methodNamed B.named
  have hlocks := B.notSynchronized
  subst hsz
  have hD := hD0.self (sz := s.heap.size)
  generalize hAe : va_A (wX q cI n S P x) s.heap.size = A at hD ⊢
  have hA : ∀ q : Nat, s.heap.size ≤ q → A q := fun q h => by rw [← hAe]; exact Or.inr h
  have hS : va_S A s.heap s.heap [] := va_S.rf
  have hP : va_P D vwCl (wX q cI n S P x) s.heap := hP
  have hl := lv_entry ([.ref (q 0), .int v]) (n := 2) (Nat.le_of_ble_eq_true rfl)
  rw [lg_entry_eq]
  generalize (lg_sl ([.ref (q 0), .int v]) ++ List.replicate (2 - (lg_sl ([.ref (q 0), .int v])).length) Slot.unset).toArray = ls at hl ⊢
  have hl : lv_has ls 2 [(0, .ref (q 0)), (1, .int v)] := hl
  refine lv_iload_n hx hb dDecreePool_hasSlot_0 rfl (lv_at hl 1 rfl) ?_
  refine lv_iconst (v := nI 0) hx hb dDecreePool_hasSlot_1 (by decide) ?_
  refine lv_aload_n hx hb dDecreePool_hasSlot_2 rfl (lv_at hl 0 rfl) ?_
  refine va_get (D := D) (ci := 0) (v := .int (nI S)) (C := RDecreePool) (T := TDecreePool) (N := 9) hx hb hts (fun w h => mc (uDecreePool_in w h)) hown hK hP 0 rfl rfl 1 (by decide) (hts _ (mc wd106)) (fun _ h9 => h9) rfl dDecreePool_hasSlot_3 ?_
  refine lv_iconst (v := nI 1) hx hb dDecreePool_hasSlot_6 (by decide) ?_
  refine lv_isub hx hb dDecreePool_hasSlot_7 ?_
  refine lv_topi (nm_r (pk_sub (by omega)) ?_)
  have hPc := hP.sub (ws' := ([] : va_W)) [] rfl
  have hDc := hD.sub (ws' := ([] : va_W)) [] (by decide) rfl
  refine kx_i (va_runS (As := [.int v, .int (nI 0), .int (nI (S - 1))]) (rest := []) ⟨hx, hb, hml, hown, hts⟩ ((c_isWithin l D cI cZ v (nI 0) (nI (S - 1))) s.heap.size) (va_cwS 3 hts (gS wd17 wd18 wd1 wd19) rfl rfl rfl (by decide +kernel) ⟨Nat.le_of_ble_eq_true rfl, Nat.le_of_ble_eq_true rfl⟩) ⟨fb_PW, pre_PW hK hPc hDc hZ⟩ rfl rfl hl.1 rfl (lv_room (Nat.le_of_ble_eq_true rfl)) dDecreePool_hasSlot_8 ⟨Nat.zero_le _, Nat.zero_le _⟩) hP hD hS hA [] [0, 1, 2, 3, 4, 5, 6, 7, 8, 9, 10, 11, 12, 13, 14, 15] rfl rfl (by decide) (by decide) (fun r w1 H locs hw hP hD hS => ?_)
  rcases hw with ⟨rfl, h8, rfl⟩ | ⟨rfl, h8, rfl⟩
  · have hP : va_P D vwCl (wX q cI n S P x) H := hP
    have hD : va_D A (wX q cI n S P x) := hD
    exact W.zret (v := nI 1) (ty := .boolean) hx hb hr (by decide) (fun t9 ht9 hW9 => ⟨⟨nI 1, (wX q cI n S P x), rfl, Or.inl ⟨rfl, wi_ok hS1 (by omega) h8, rfl⟩, by rw [ht9]; exact hP, va_K.moved hW9.alike hK, hD⟩, hS.F ht9⟩) hS.2.2 dDecreePool_hasSlot_11
  · have hP : va_P D vwCl (wX q cI n S P x) H := hP
    have hD : va_D A (wX q cI n S P x) := hD
    exact W.zret (v := nI 0) (ty := .boolean) hx hb hr (by decide) (fun t9 ht9 hW9 => ⟨⟨nI 0, (wX q cI n S P x), rfl, Or.inr ⟨rfl, wi_no (by omega) h8, rfl⟩, by rw [ht9]; exact hP, va_K.moved hW9.alike hK, hD⟩, hS.F ht9⟩) hS.2.2 dDecreePool_hasSlot_11
theorem dDecreePool_hasSeat_0 : decode cDecreePool_hasSeat 0 = .ok (.aload_n 0, 1) := by decide +kernel
theorem dDecreePool_hasSeat_1 : decode cDecreePool_hasSeat 1 = .ok (.iload_n 1, 1) := by decide +kernel
theorem dDecreePool_hasSeat_2 : decode cDecreePool_hasSeat 2 = .ok (.invokevirtual 110, 3) := by decide +kernel
theorem dDecreePool_hasSeat_5 : decode cDecreePool_hasSeat 5 = .ok (.ifCond .eq 15, 3) := by decide +kernel
theorem dDecreePool_hasSeat_8 : decode cDecreePool_hasSeat 8 = .ok (.aload_n 0, 1) := by decide +kernel
theorem dDecreePool_hasSeat_9 : decode cDecreePool_hasSeat 9 = .ok (.iload_n 2, 1) := by decide +kernel
theorem dDecreePool_hasSeat_10 : decode cDecreePool_hasSeat 10 = .ok (.invokevirtual 149, 3) := by decide +kernel
theorem dDecreePool_hasSeat_13 : decode cDecreePool_hasSeat 13 = .ok (.ifCond .eq 7, 3) := by decide +kernel
theorem dDecreePool_hasSeat_16 : decode cDecreePool_hasSeat 16 = .ok (.iconst 1, 1) := by decide +kernel
theorem dDecreePool_hasSeat_17 : decode cDecreePool_hasSeat 17 = .ok (.goto 4, 3) := by decide +kernel
theorem dDecreePool_hasSeat_20 : decode cDecreePool_hasSeat 20 = .ok (.iconst 0, 1) := by decide +kernel
theorem dDecreePool_hasSeat_21 : decode cDecreePool_hasSeat 21 = .ok (.ireturn, 1) := by decide +kernel
set_option maxRecDepth 100000 in
set_option maxHeartbeats 4000000 in
theorem c_hasSeat (l : Launch) (D : va_G) (cI cZ : ClassId) (q : Nat → Nat) (n : Nat) (S : Nat) (P : Nat) (x : St) (v : Int32) (u : Int32) (hn1 : 1 ≤ n) (hn5 : n ≤ 5) (hS1 : 1 ≤ S) (hS4 : S ≤ 4) (hP5 : 5 ≤ P) (hP64 : P ≤ 64) : MI l D [(cI, .int), (cZ, .boolean)] yDecreePool_hasSeat wsDecreePool_hasSeat ({ frames := 2, cells := 0, slots := 0, locals := 43 }) [.ref (q 0), .int v, .int u] (wX q cI n S P x) (fun r w => (r = nI 1 ∧ (okN v n ∧ okN u S) ∧ w = (wX q cI n S P x)) ∨ (r = nI 0 ∧ (¬ (okN v n ∧ okN u S)) ∧ w = (wX q cI n S P x))) := by
  intro sz
  refine Met.ofW (cc := cDecreePool_hasSeat) (maxL := 3) (ret := (Option.some .boolean)) (by decide) rfl ?_
  intro p e s m args below meth c s₁ B hml hv
  obtain ⟨rfl, hsz, hP, hK, hD0, hZ⟩ := hv
  have hx := B.exec
  have hb := B.bytes
  have hr := B.returns
  have hts := atoms_spec (ws := wsDecreePool_hasSeat) B.pre
  have hown : s.vm.findClass RDecreePool = some m.cls := findClass_of_methodNamed B.named
  have hlocks := B.notSynchronized
  subst hsz
  have hD := hD0.self (sz := s.heap.size)
  generalize hAe : va_A (wX q cI n S P x) s.heap.size = A at hD ⊢
  have hA : ∀ q : Nat, s.heap.size ≤ q → A q := fun q h => by rw [← hAe]; exact Or.inr h
  have hS : va_S A s.heap s.heap [] := va_S.rf
  have hP : va_P D vwCl (wX q cI n S P x) s.heap := hP
  have hl := lv_entry ([.ref (q 0), .int v, .int u]) (n := 3) (Nat.le_of_ble_eq_true rfl)
  rw [lg_entry_eq]
  generalize (lg_sl ([.ref (q 0), .int v, .int u]) ++ List.replicate (3 - (lg_sl ([.ref (q 0), .int v, .int u])).length) Slot.unset).toArray = ls at hl ⊢
  have hl : lv_has ls 3 [(0, .ref (q 0)), (1, .int v), (2, .int u)] := hl
  refine lv_aload_n hx hb dDecreePool_hasSeat_0 rfl (lv_at hl 0 rfl) ?_
  refine lv_iload_n hx hb dDecreePool_hasSeat_1 rfl (lv_at hl 1 rfl) ?_
  have hPc := hP.sub (ws' := (wX q cI n S P x)) [0, 1, 2, 3, 4, 5, 6, 7, 8, 9, 10, 11, 12, 13, 14, 15] rfl
  have hDc := hD.sub (ws' := (wX q cI n S P x)) [0, 1, 2, 3, 4, 5, 6, 7, 8, 9, 10, 11, 12, 13, 14, 15] (by decide) rfl
  refine kx_i (va_runV (As := [.int v]) (rest := []) ⟨hx, hb, hml, hown, hts⟩ ((c_hasNode l D cI cZ q n S P x v (hn1) (hn5) (hS1) (hS4) (hP5) (hP64)) s.heap.size) (cwV 1 hts (gV wd141 wd143 sl_DecreePool_hasNode wd1 wd144) rfl rfl rfl (by decide +kernel) ⟨Nat.le_of_ble_eq_true rfl, Nat.le_of_ble_eq_true rfl⟩) ⟨fb_PW, va_recv (q0 := 0) (ci := 0) hK hPc rfl rfl, pre_PW hK hPc hDc hZ⟩ rfl rfl hl.1 rfl (lv_room (Nat.le_of_ble_eq_true rfl)) dDecreePool_hasSeat_2 ⟨Nat.zero_le _, Nat.zero_le _⟩) hP hD hS hA [0, 1, 2, 3, 4, 5, 6, 7, 8, 9, 10, 11, 12, 13, 14, 15] [] rfl rfl (by decide) (by decide) (fun r w1 H locs hw hP hD hS => ?_)
  rcases hw with ⟨rfl, h2, rfl⟩ | ⟨rfl, h2, rfl⟩
  · have hP : va_P D vwCl (wX q cI n S P x) H := hP
    have hD : va_D A (wX q cI n S P x) := hD
    refine lv_if_eq (tgt := 20) hx hb dDecreePool_hasSeat_5 (by decide) (fun h9 => absurd h9 (by decide)) (fun _ => ?_)
    refine lv_aload_n hx hb dDecreePool_hasSeat_8 rfl (lv_at hl 0 rfl) ?_
    refine lv_iload_n hx hb dDecreePool_hasSeat_9 rfl (lv_at hl 2 rfl) ?_
    have hPc := hP.sub (ws' := (wX q cI n S P x)) [0, 1, 2, 3, 4, 5, 6, 7, 8, 9, 10, 11, 12, 13, 14, 15] rfl
    have hDc := hD.sub (ws' := (wX q cI n S P x)) [0, 1, 2, 3, 4, 5, 6, 7, 8, 9, 10, 11, 12, 13, 14, 15] (by decide) rfl
    refine kx_i (va_runV (As := [.int u]) (rest := []) ⟨hx, hb, hml, hown, hts⟩ ((c_hasSlot l D cI cZ q n S P x u (hn1) (hn5) (hS1) (hS4) (hP5) (hP64)) H.size) (cwV 1 hts (gV wd145 wd147 sl_DecreePool_hasSlot wd1 wd148) rfl rfl rfl (by decide +kernel) ⟨Nat.le_of_ble_eq_true rfl, Nat.le_of_ble_eq_true rfl⟩) ⟨fb_PW, va_recv (q0 := 0) (ci := 0) hK hPc rfl rfl, pre_PW hK hPc hDc hZ⟩ rfl rfl hl.1 rfl (lv_room (Nat.le_of_ble_eq_true rfl)) dDecreePool_hasSeat_10 ⟨Nat.zero_le _, Nat.zero_le _⟩) hP hD hS hA [0, 1, 2, 3, 4, 5, 6, 7, 8, 9, 10, 11, 12, 13, 14, 15] [] rfl rfl (by decide) (by decide) (fun r w1 H locs hw hP hD hS => ?_)
    rcases hw with ⟨rfl, h10, rfl⟩ | ⟨rfl, h10, rfl⟩
    · have hP : va_P D vwCl (wX q cI n S P x) H := hP
      have hD : va_D A (wX q cI n S P x) := hD
      refine lv_if_eq (tgt := 20) hx hb dDecreePool_hasSeat_13 (by decide) (fun h9 => absurd h9 (by decide)) (fun _ => ?_)
      refine lv_iconst (v := nI 1) hx hb dDecreePool_hasSeat_16 (by decide) ?_
      refine lv_goto (tgt := 21) hx hb dDecreePool_hasSeat_17 (by decide) ?_
      exact W.zret (v := nI 1) (ty := .boolean) hx hb hr (by decide) (fun t9 ht9 hW9 => ⟨⟨nI 1, (wX q cI n S P x), rfl, Or.inl ⟨rfl, ⟨h2, h10⟩, rfl⟩, by rw [ht9]; exact hP, va_K.moved hW9.alike hK, hD⟩, hS.F ht9⟩) hS.2.2 dDecreePool_hasSeat_21
    · have hP : va_P D vwCl (wX q cI n S P x) H := hP
      have hD : va_D A (wX q cI n S P x) := hD
      refine lv_if_eq (tgt := 20) hx hb dDecreePool_hasSeat_13 (by decide) (fun _ => ?_) (fun h9 => absurd (by decide) h9)
      refine lv_iconst (v := nI 0) hx hb dDecreePool_hasSeat_20 (by decide) ?_
      exact W.zret (v := nI 0) (ty := .boolean) hx hb hr (by decide) (fun t9 ht9 hW9 => ⟨⟨nI 0, (wX q cI n S P x), rfl, Or.inr ⟨rfl, fun h => h10 h.2, rfl⟩, by rw [ht9]; exact hP, va_K.moved hW9.alike hK, hD⟩, hS.F ht9⟩) hS.2.2 dDecreePool_hasSeat_21
  · have hP : va_P D vwCl (wX q cI n S P x) H := hP
    have hD : va_D A (wX q cI n S P x) := hD
    refine lv_if_eq (tgt := 20) hx hb dDecreePool_hasSeat_5 (by decide) (fun _ => ?_) (fun h9 => absurd (by decide) h9)
    refine lv_iconst (v := nI 0) hx hb dDecreePool_hasSeat_20 (by decide) ?_
    exact W.zret (v := nI 0) (ty := .boolean) hx hb hr (by decide) (fun t9 ht9 hW9 => ⟨⟨nI 0, (wX q cI n S P x), rfl, Or.inr ⟨rfl, fun h => h2 h.1, rfl⟩, by rw [ht9]; exact hP, va_K.moved hW9.alike hK, hD⟩, hS.F ht9⟩) hS.2.2 dDecreePool_hasSeat_21
theorem dDecreePool_seatOf_0 : decode cDecreePool_seatOf 0 = .ok (.iload_n 1, 1) := by decide +kernel
theorem dDecreePool_seatOf_1 : decode cDecreePool_seatOf 1 = .ok (.aload_n 0, 1) := by decide +kernel
theorem dDecreePool_seatOf_2 : decode cDecreePool_seatOf 2 = .ok (.getfield 17, 3) := by decide +kernel
theorem dDecreePool_seatOf_5 : decode cDecreePool_seatOf 5 = .ok (.imul, 1) := by decide +kernel
theorem dDecreePool_seatOf_6 : decode cDecreePool_seatOf 6 = .ok (.iload_n 2, 1) := by decide +kernel
theorem dDecreePool_seatOf_7 : decode cDecreePool_seatOf 7 = .ok (.iadd, 1) := by decide +kernel
theorem dDecreePool_seatOf_8 : decode cDecreePool_seatOf 8 = .ok (.ireturn, 1) := by decide +kernel
set_option maxRecDepth 100000 in
set_option maxHeartbeats 4000000 in
theorem c_seatOf (l : Launch) (D : va_G) (cI cZ : ClassId) (q : Nat → Nat) (n : Nat) (S : Nat) (P : Nat) (x : St) (a : Nat) (t : Nat) (hn1 : 1 ≤ n) (hn5 : n ≤ 5) (hS1 : 1 ≤ S) (hS4 : S ≤ 4) (hP5 : 5 ≤ P) (hP64 : P ≤ 64) : MI l D [(cI, .int), (cZ, .boolean)] yDecreePool_seatOf wsDecreePool_seatOf ({ frames := 0, cells := 0, slots := 0, locals := 0 }) [.ref (q 0), .int (nI a), .int (nI t)] (wX q cI n S P x) (fun r w => r = nI (a * S + t) ∧ w = (wX q cI n S P x)) := by
  intro sz
  refine Met.ofW (cc := cDecreePool_seatOf) (maxL := 3) (ret := (Option.some .int)) (by decide) rfl ?_
  intro p e s m args below meth c s₁ B hml hv
  obtain ⟨rfl, hsz, hP, hK, hD0, hZ⟩ := hv
  have hx := B.exec
  have hb := B.bytes
  have hr := B.returns
  have hts := atoms_spec (ws := wsDecreePool_seatOf) B.pre
  have hown : s.vm.findClass RDecreePool = some m.cls := findClass_of_methodNamed B.named
  have hlocks := B.notSynchronized
  subst hsz
  have hD := hD0.self (sz := s.heap.size)
  generalize hAe : va_A (wX q cI n S P x) s.heap.size = A at hD ⊢
  have hA : ∀ q : Nat, s.heap.size ≤ q → A q := fun q h => by rw [← hAe]; exact Or.inr h
  have hS : va_S A s.heap s.heap [] := va_S.rf
  have hP : va_P D vwCl (wX q cI n S P x) s.heap := hP
  have hl := lv_entry ([.ref (q 0), .int (nI a), .int (nI t)]) (n := 3) (Nat.le_of_ble_eq_true rfl)
  rw [lg_entry_eq]
  generalize (lg_sl ([.ref (q 0), .int (nI a), .int (nI t)]) ++ List.replicate (3 - (lg_sl ([.ref (q 0), .int (nI a), .int (nI t)])).length) Slot.unset).toArray = ls at hl ⊢
  have hl : lv_has ls 3 [(0, .ref (q 0)), (1, .int (nI a)), (2, .int (nI t))] := hl
  refine lv_iload_n hx hb dDecreePool_seatOf_0 rfl (lv_at hl 1 rfl) ?_
  refine lv_aload_n hx hb dDecreePool_seatOf_1 rfl (lv_at hl 0 rfl) ?_
  refine va_get (D := D) (ci := 0) (v := .int (nI S)) (C := RDecreePool) (T := TDecreePool) (N := 9) hx hb hts (fun w h => mc (uDecreePool_in w h)) hown hK hP 0 rfl rfl 1 (by decide) (hts _ (mc wd106)) (fun _ h9 => h9) rfl dDecreePool_seatOf_2 ?_
  refine lv_imul hx hb dDecreePool_seatOf_5 ?_
  refine lv_topi (nm_r (pk_mul _ _) ?_)
  refine lv_iload_n hx hb dDecreePool_seatOf_6 rfl (lv_at hl 2 rfl) ?_
  refine lv_iadd hx hb dDecreePool_seatOf_7 ?_
  refine lv_topi (nm_r (nI_add _ _) ?_)
  exact W.iret (v := nI (a * S + t)) hx hb hr (fun t9 ht9 hW9 => ⟨⟨nI (a * S + t), (wX q cI n S P x), rfl, ⟨rfl, rfl⟩, by rw [ht9]; exact hP, va_K.moved hW9.alike hK, hD⟩, hS.F ht9⟩) hS.2.2 dDecreePool_seatOf_8
theorem dDecreePool_isUp_0 : decode cDecreePool_isUp 0 = .ok (.aload_n 0, 1) := by decide +kernel
theorem dDecreePool_isUp_1 : decode cDecreePool_isUp 1 = .ok (.getfield 52, 3) := by decide +kernel
theorem dDecreePool_isUp_4 : decode cDecreePool_isUp 4 = .ok (.iload_n 1, 1) := by decide +kernel
theorem dDecreePool_isUp_5 : decode cDecreePool_isUp 5 = .ok (.ishr, 1) := by decide +kernel
theorem dDecreePool_isUp_6 : decode cDecreePool_isUp 6 = .ok (.iconst 1, 1) := by decide +kernel
theorem dDecreePool_isUp_7 : decode cDecreePool_isUp 7 = .ok (.iand, 1) := by decide +kernel
theorem dDecreePool_isUp_8 : decode cDecreePool_isUp 8 = .ok (.iconst 1, 1) := by decide +kernel
theorem dDecreePool_isUp_9 : decode cDecreePool_isUp 9 = .ok (.if_icmp .ne 7, 3) := by decide +kernel
theorem dDecreePool_isUp_12 : decode cDecreePool_isUp 12 = .ok (.iconst 1, 1) := by decide +kernel
theorem dDecreePool_isUp_13 : decode cDecreePool_isUp 13 = .ok (.goto 4, 3) := by decide +kernel
theorem dDecreePool_isUp_16 : decode cDecreePool_isUp 16 = .ok (.iconst 0, 1) := by decide +kernel
theorem dDecreePool_isUp_17 : decode cDecreePool_isUp 17 = .ok (.ireturn, 1) := by decide +kernel
set_option maxRecDepth 100000 in
set_option maxHeartbeats 4000000 in
theorem c_isUp (l : Launch) (D : va_G) (cI cZ : ClassId) (q : Nat → Nat) (n : Nat) (S : Nat) (P : Nat) (x : St) (a : Nat) (hn1 : 1 ≤ n) (hn5 : n ≤ 5) (hS1 : 1 ≤ S) (hS4 : S ≤ 4) (hP5 : 5 ≤ P) (hP64 : P ≤ 64) (ha : a < n) : MI l D [(cI, .int), (cZ, .boolean)] yDecreePool_isUp wsDecreePool_isUp ({ frames := 0, cells := 0, slots := 0, locals := 0 }) [.ref (q 0), .int (nI a)] (wX q cI n S P x) (fun r w => (r = nI 1 ∧ (x.1 13 a 0 = 0) ∧ w = (wX q cI n S P x)) ∨ (r = nI 0 ∧ (¬ (x.1 13 a 0 = 0)) ∧ w = (wX q cI n S P x))) := by
  intro sz
  refine Met.ofW (cc := cDecreePool_isUp) (maxL := 2) (ret := (Option.some .boolean)) (by decide) rfl ?_
  intro p e s m args below meth c s₁ B hml hv
  obtain ⟨rfl, hsz, hP, hK, hD0, hZ⟩ := hv
  have hx := B.exec
  have hb := B.bytes
  have hr := B.returns
  have hts := atoms_spec (ws := wsDecreePool_isUp) B.pre
  have hown : s.vm.findClass RDecreePool = some m.cls := findClass_of_methodNamed B.named
  have hlocks := B.notSynchronized
  subst hsz
  have hD := hD0.self (sz := s.heap.size)
  generalize hAe : va_A (wX q cI n S P x) s.heap.size = A at hD ⊢
  have hA : ∀ q : Nat, s.heap.size ≤ q → A q := fun q h => by rw [← hAe]; exact Or.inr h
  have hS : va_S A s.heap s.heap [] := va_S.rf
  have hP : va_P D vwCl (wX q cI n S P x) s.heap := hP
  have hl := lv_entry ([.ref (q 0), .int (nI a)]) (n := 2) (Nat.le_of_ble_eq_true rfl)
  rw [lg_entry_eq]
  generalize (lg_sl ([.ref (q 0), .int (nI a)]) ++ List.replicate (2 - (lg_sl ([.ref (q 0), .int (nI a)])).length) Slot.unset).toArray = ls at hl ⊢
  have hl : lv_has ls 2 [(0, .ref (q 0)), (1, .int (nI a))] := hl
  refine lv_aload_n hx hb dDecreePool_isUp_0 rfl (lv_at hl 0 rfl) ?_
  refine va_get (D := D) (ci := 0) (v := .int (nI (msk (col (x.1 13) 0) n))) (C := RDecreePool) (T := TDecreePool) (N := 9) hx hb hts (fun w h => mc (uDecreePool_in w h)) hown hK hP 0 rfl rfl 6 (by decide) (hts _ (mc wd111)) (fun _ h9 => h9) rfl dDecreePool_isUp_1 ?_
  refine lv_iload_n hx hb dDecreePool_isUp_4 rfl (lv_at hl 1 rfl) ?_
  refine lv_ishr hx hb dDecreePool_isUp_5 ?_
  refine lv_iconst (v := nI 1) hx hb dDecreePool_isUp_6 (by decide) ?_
  refine lv_iand hx hb dDecreePool_isUp_7 ?_
  refine lv_topi (nm_r (up_val ha hn5) ?_)
  refine lv_iconst (v := nI 1) hx hb dDecreePool_isUp_8 (by decide) ?_
  refine lv_icmp_ne (tgt := 16) hx hb dDecreePool_isUp_9 (by decide) (fun c9 => ?_) (fun c9 => ?_)
  · refine lv_iconst (v := nI 0) hx hb dDecreePool_isUp_16 (by decide) ?_
    exact W.zret (v := nI 0) (ty := .boolean) hx hb hr (by decide) (fun t9 ht9 hW9 => ⟨⟨nI 0, (wX q cI n S P x), rfl, Or.inr ⟨rfl, fun h => c9 (if_pos h), rfl⟩, by rw [ht9]; exact hP, va_K.moved hW9.alike hK, hD⟩, hS.F ht9⟩) hS.2.2 dDecreePool_isUp_17
  · refine lv_iconst (v := nI 1) hx hb dDecreePool_isUp_12 (by decide) ?_
    refine lv_goto (tgt := 17) hx hb dDecreePool_isUp_13 (by decide) ?_
    exact W.zret (v := nI 1) (ty := .boolean) hx hb hr (by decide) (fun t9 ht9 hW9 => ⟨⟨nI 1, (wX q cI n S P x), rfl, Or.inl ⟨rfl, ite_1 c9, rfl⟩, by rw [ht9]; exact hP, va_K.moved hW9.alike hK, hD⟩, hS.F ht9⟩) hS.2.2 dDecreePool_isUp_17
theorem dDecreePool_prefixLength_0 : decode cDecreePool_prefixLength 0 = .ok (.iconst 0, 1) := by decide +kernel
theorem dDecreePool_prefixLength_1 : decode cDecreePool_prefixLength 1 = .ok (.istore_n 2, 1) := by decide +kernel
theorem dDecreePool_prefixLength_2 : decode cDecreePool_prefixLength 2 = .ok (.iload_n 2, 1) := by decide +kernel
theorem dDecreePool_prefixLength_3 : decode cDecreePool_prefixLength 3 = .ok (.aload_n 0, 1) := by decide +kernel
theorem dDecreePool_prefixLength_4 : decode cDecreePool_prefixLength 4 = .ok (.getfield 17, 3) := by decide +kernel
theorem dDecreePool_prefixLength_7 : decode cDecreePool_prefixLength 7 = .ok (.if_icmp .ge 25, 3) := by decide +kernel
theorem dDecreePool_prefixLength_10 : decode cDecreePool_prefixLength 10 = .ok (.aload_n 0, 1) := by decide +kernel
theorem dDecreePool_prefixLength_11 : decode cDecreePool_prefixLength 11 = .ok (.getfield 48, 3) := by decide +kernel
theorem dDecreePool_prefixLength_14 : decode cDecreePool_prefixLength 14 = .ok (.aload_n 0, 1) := by decide +kernel
theorem dDecreePool_prefixLength_15 : decode cDecreePool_prefixLength 15 = .ok (.iload_n 1, 1) := by decide +kernel
theorem dDecreePool_prefixLength_16 : decode cDecreePool_prefixLength 16 = .ok (.iload_n 2, 1) := by decide +kernel
theorem dDecreePool_prefixLength_17 : decode cDecreePool_prefixLength 17 = .ok (.invokevirtual 69, 3) := by decide +kernel
theorem dDecreePool_prefixLength_20 : decode cDecreePool_prefixLength 20 = .ok (.invokevirtual 122, 3) := by decide +kernel
theorem dDecreePool_prefixLength_23 : decode cDecreePool_prefixLength 23 = .ok (.ifCond .eq 9, 3) := by decide +kernel
theorem dDecreePool_prefixLength_26 : decode cDecreePool_prefixLength 26 = .ok (.iinc 2  1, 3) := by decide +kernel
theorem dDecreePool_prefixLength_29 : decode cDecreePool_prefixLength 29 = .ok (.goto (-27), 3) := by decide +kernel
theorem dDecreePool_prefixLength_32 : decode cDecreePool_prefixLength 32 = .ok (.iload_n 2, 1) := by decide +kernel
theorem dDecreePool_prefixLength_33 : decode cDecreePool_prefixLength 33 = .ok (.ireturn, 1) := by decide +kernel
set_option maxRecDepth 100000 in
set_option maxHeartbeats 4000000 in
theorem c_pfxLength (l : Launch) (D : va_G) (cI cZ : ClassId) (q : Nat → Nat) (n : Nat) (S : Nat) (P : Nat) (x : St) (a : Nat) (hn1 : 1 ≤ n) (hn5 : n ≤ 5) (hS1 : 1 ≤ S) (hS4 : S ≤ 4) (hP5 : 5 ≤ P) (hP64 : P ≤ 64) (ha : a < n) : MI l D [(cI, .int), (cZ, .boolean)] yDecreePool_prefixLength wsDecreePool_prefixLength ({ frames := 1, cells := 0, slots := 0, locals := 22 }) [.ref (q 0), .int (nI a)] (wX q cI n S P x) (fun r w => r = nI (lst (x.1 11 a) S 0) ∧ w = (wX q cI n S P x)) := by
  intro sz
  refine Met.ofW (cc := cDecreePool_prefixLength) (maxL := 3) (ret := (Option.some .int)) (by decide) rfl ?_
  intro p e s m args below meth c s₁ B hml hv
  obtain ⟨rfl, hsz, hP, hK, hD0, hZ⟩ := hv
  have hx := B.exec
  have hb := B.bytes
  have hr := B.returns
  have hts := atoms_spec (ws := wsDecreePool_prefixLength) B.pre
  have hown : s.vm.findClass RDecreePool = some m.cls := findClass_of_methodNamed B.named
  have hlocks := B.notSynchronized
  subst hsz
  have hD := hD0.self (sz := s.heap.size)
  generalize hAe : va_A (wX q cI n S P x) s.heap.size = A at hD ⊢
  have hA : ∀ q : Nat, s.heap.size ≤ q → A q := fun q h => by rw [← hAe]; exact Or.inr h
  have hS : va_S A s.heap s.heap [] := va_S.rf
  have hP : va_P D vwCl (wX q cI n S P x) s.heap := hP
  have hl := lv_entry ([.ref (q 0), .int (nI a)]) (n := 3) (Nat.le_of_ble_eq_true rfl)
  rw [lg_entry_eq]
  generalize (lg_sl ([.ref (q 0), .int (nI a)]) ++ List.replicate (3 - (lg_sl ([.ref (q 0), .int (nI a)])).length) Slot.unset).toArray = ls at hl ⊢
  have hl : lv_has ls 3 [(0, .ref (q 0)), (1, .int (nI a))] := hl
  refine lv_iconst (v := nI 0) hx hb dDecreePool_prefixLength_0 (by decide) ?_
  refine lv_istore_n hx hb dDecreePool_prefixLength_1 rfl hl (by decide) rfl (fun ls hl => ?_)
  have hl : lv_has ls 3 [(2, .int (nI 0)), (0, .ref (q 0)), (1, .int (nI a))] := hl
  have loop2 : ∀ (d2 i : Nat) (ls : Array Slot) (H : Heap) (locs : List Loc), i + d2 = S → lst (x.1 11 a) d2 i = lst (x.1 11 a) S 0 → lv_has ls 3 [(2, .int (nI i)), (0, .ref (q 0)), (1, .int (nI a))] → va_P D vwCl (wX q cI n S P x) H → va_D A (wX q cI n S P x) → va_S A s.heap H locs → W p l e (headSpec wsDecreePool_prefixLength { frames := 1, cells := 0, slots := 0, locals := 22 }).room s m [.ref (q 0), .int (nI a)].toArray below meth c H locs 0 0 (MQ below (va_Qi (fun r w => r = nI (lst (x.1 11 a) S 0) ∧ w = (wX q cI n S P x)) (QW D [(cI, .int), (cZ, .boolean)] A) A) [.ref (q 0), .int (nI a)].toArray s 0 0 A) (F0 m 2 ls []) := by
    intro d2
    induction d2 with
    | zero =>
      intro i ls H locs hid2 hF hl hP hD hS
      refine lv_iload_n hx hb dDecreePool_prefixLength_2 rfl (lv_at hl 0 rfl) ?_
      refine lv_aload_n hx hb dDecreePool_prefixLength_3 rfl (lv_at hl 1 rfl) ?_
      refine va_get (D := D) (ci := 0) (v := .int (nI S)) (C := RDecreePool) (T := TDecreePool) (N := 9) hx hb hts (fun w h => mc (uDecreePool_in w h)) hown hK hP 0 rfl rfl 1 (by decide) (hts _ (mc wd106)) (fun _ h9 => h9) rfl dDecreePool_prefixLength_4 ?_
      refine lv_icmp_ge (tgt := 32) hx hb dDecreePool_prefixLength_7 (by decide) (fun _ => ?_) (fun h9 => absurd (nI_le (by omega) (by omega)) h9)
      refine lv_iload_n hx hb dDecreePool_prefixLength_32 rfl (lv_at hl 0 rfl) ?_
      have hFi : i = lst (x.1 11 a) S 0 := hF
      rw [hFi]
      exact W.iret (v := nI (lst (x.1 11 a) S 0)) hx hb hr (fun t9 ht9 hW9 => ⟨⟨nI (lst (x.1 11 a) S 0), (wX q cI n S P x), rfl, ⟨rfl, rfl⟩, by rw [ht9]; exact hP, va_K.moved hW9.alike hK, hD⟩, hS.F ht9⟩) hS.2.2 dDecreePool_prefixLength_33
    | succ d2 ih2 =>
      intro i ls H locs hid2 hF hl hP hD hS
      refine lv_iload_n hx hb dDecreePool_prefixLength_2 rfl (lv_at hl 0 rfl) ?_
      refine lv_aload_n hx hb dDecreePool_prefixLength_3 rfl (lv_at hl 1 rfl) ?_
      refine va_get (D := D) (ci := 0) (v := .int (nI S)) (C := RDecreePool) (T := TDecreePool) (N := 9) hx hb hts (fun w h => mc (uDecreePool_in w h)) hown hK hP 0 rfl rfl 1 (by decide) (hts _ (mc wd106)) (fun _ h9 => h9) rfl dDecreePool_prefixLength_4 ?_
      refine lv_icmp_ge (tgt := 32) hx hb dDecreePool_prefixLength_7 (by decide) (fun h9 => absurd h9 (nI_ge (by omega) (by omega))) (fun _ => ?_)
      refine lv_aload_n hx hb dDecreePool_prefixLength_10 rfl (lv_at hl 1 rfl) ?_
      refine va_get (D := D) (ci := 0) (v := .ref (q 13)) (C := RDecreePool) (T := TDecreePool) (N := 9) hx hb hts (fun w h => mc (uDecreePool_in w h)) hown hK hP 0 rfl rfl 5 (by decide) (hts _ (mc wd110)) (fun _ h9 => h9) rfl dDecreePool_prefixLength_11 ?_
      refine lv_aload_n hx hb dDecreePool_prefixLength_14 rfl (lv_at hl 1 rfl) ?_
      refine lv_iload_n hx hb dDecreePool_prefixLength_15 rfl (lv_at hl 2 rfl) ?_
      refine lv_iload_n hx hb dDecreePool_prefixLength_16 rfl (lv_at hl 0 rfl) ?_
      have hPc := hP.sub (ws' := (wX q cI n S P x)) [0, 1, 2, 3, 4, 5, 6, 7, 8, 9, 10, 11, 12, 13, 14, 15] rfl
      have hDc := hD.sub (ws' := (wX q cI n S P x)) [0, 1, 2, 3, 4, 5, 6, 7, 8, 9, 10, 11, 12, 13, 14, 15] (by decide) rfl
      refine kx_i (va_runV (As := [.int (nI a), .int (nI i)]) (rest := [.ref (q 13)]) ⟨hx, hb, hml, hown, hts⟩ ((c_seatOf l D cI cZ q n S P x a i (hn1) (hn5) (hS1) (hS4) (hP5) (hP64)) H.size) (cwV 2 hts (gV wd153 wd155 sl_DecreePool_seatOf wd1 wd156) rfl rfl rfl (by decide +kernel) ⟨Nat.le_of_ble_eq_true rfl, Nat.le_of_ble_eq_true rfl⟩) ⟨fb_PW, va_recv (q0 := 0) (ci := 0) hK hPc rfl rfl, pre_PW hK hPc hDc hZ⟩ rfl rfl hl.1 rfl (lv_room (Nat.le_of_ble_eq_true rfl)) dDecreePool_prefixLength_17 ⟨Nat.zero_le _, Nat.zero_le _⟩) hP hD hS hA [0, 1, 2, 3, 4, 5, 6, 7, 8, 9, 10, 11, 12, 13, 14, 15] [] rfl rfl (by decide) (by decide) (fun r w1 H locs hw hP hD hS => ?_)
      obtain ⟨rfl, rfl⟩ := hw
      have hP : va_P D vwCl (wX q cI n S P x) H := hP
      have hD : va_D A (wX q cI n S P x) := hD
      have hPc := hP.sub (ws' := (wLe q cI n (n * S) (hq n S (x.2 0)) (sq S (x.1 11)))) [13, 14, 15] rfl
      have hDc := hD.sub (ws' := (wLe q cI n (n * S) (hq n S (x.2 0)) (sq S (x.1 11)))) [13, 14, 15] (by decide) rfl
      refine kx_i (va_runV (As := [.int (nI (a * S + i))]) (rest := []) ⟨hx, hb, hml, hown, hts⟩ ((c_decree l D cI cZ q n (n * S) (hq n S (x.2 0)) (sq S (x.1 11)) (a * S + i) (L20 hn5 hS4) (seat_lt ha (by omega))) H.size) (cwV 1 hts (gV wd325 wd326 wd327 wd6 wd328) rfl rfl rfl (by decide +kernel) ⟨Nat.le_of_ble_eq_true rfl, Nat.le_of_ble_eq_true rfl⟩) ⟨fb_PW, va_recv (q0 := 0) (ci := 4) hK hPc rfl rfl, pre_PW hK hPc hDc hZ⟩ rfl rfl hl.1 rfl (lv_room (Nat.le_of_ble_eq_true rfl)) dDecreePool_prefixLength_20 ⟨Nat.zero_le _, Nat.zero_le _⟩) hP hD hS hA [13, 14, 15] [0, 1, 2, 3, 4, 5, 6, 7, 8, 9, 10, 11, 12] rfl rfl (by decide) (by decide) (fun r w1 H locs hw hP hD hS => ?_)
      obtain ⟨rfl, rfl⟩ := hw
      have hP : va_P D vwCl (wX q cI n S P x) H := hP
      have hD : va_D A (wX q cI n S P x) := hD
      refine lv_topi (nm_r (sq_at (by omega)) ?_)
      refine lv_if_eq (tgt := 32) hx hb dDecreePool_prefixLength_23 (by decide) (fun c23 => ?_) (fun c23 => ?_)
      · refine lv_iload_n hx hb dDecreePool_prefixLength_32 rfl (lv_at hl 0 rfl) ?_
        have hFi : i = lst (x.1 11 a) S 0 := by rw [← hF]; exact (lst_s c23).symm
        rw [hFi]
        exact W.iret (v := nI (lst (x.1 11 a) S 0)) hx hb hr (fun t9 ht9 hW9 => ⟨⟨nI (lst (x.1 11 a) S 0), (wX q cI n S P x), rfl, ⟨rfl, rfl⟩, by rw [ht9]; exact hP, va_K.moved hW9.alike hK, hD⟩, hS.F ht9⟩) hS.2.2 dDecreePool_prefixLength_33
      · refine lv_iinc (k := 0) (v := nI (i + 1)) hx hb dDecreePool_prefixLength_26 hl rfl ((nI_succ _).symm) (by decide) rfl (fun ls hl => ?_)
        have hl : lv_has ls 3 [(2, .int (nI (i + 1))), (0, .ref (q 0)), (1, .int (nI a))] := hl
        refine lv_goto (tgt := 2) hx hb dDecreePool_prefixLength_29 (by decide) ?_
        exact ih2 (i + 1) ls H locs (by omega) (by rw [← hF]; exact (lst_n c23).symm) hl hP hD hS
  exact loop2 S 0 ls s.heap [] (by omega) (rfl) hl hP hD hS
theorem dDecreePool_sendToAll_0 : decode cDecreePool_sendToAll 0 = .ok (.iconst 0, 1) := by decide +kernel
theorem dDecreePool_sendToAll_1 : decode cDecreePool_sendToAll 1 = .ok (.istore 6, 2) := by decide +kernel
theorem dDecreePool_sendToAll_3 : decode cDecreePool_sendToAll 3 = .ok (.iload 6, 2) := by decide +kernel
theorem dDecreePool_sendToAll_5 : decode cDecreePool_sendToAll 5 = .ok (.aload_n 0, 1) := by decide +kernel
theorem dDecreePool_sendToAll_6 : decode cDecreePool_sendToAll 6 = .ok (.getfield 13, 3) := by decide +kernel
theorem dDecreePool_sendToAll_9 : decode cDecreePool_sendToAll 9 = .ok (.if_icmp .ge 27, 3) := by decide +kernel
theorem dDecreePool_sendToAll_12 : decode cDecreePool_sendToAll 12 = .ok (.aload_n 0, 1) := by decide +kernel
theorem dDecreePool_sendToAll_13 : decode cDecreePool_sendToAll 13 = .ok (.getfield 25, 3) := by decide +kernel
theorem dDecreePool_sendToAll_16 : decode cDecreePool_sendToAll 16 = .ok (.iload_n 1, 1) := by decide +kernel
theorem dDecreePool_sendToAll_17 : decode cDecreePool_sendToAll 17 = .ok (.iload_n 2, 1) := by decide +kernel
theorem dDecreePool_sendToAll_18 : decode cDecreePool_sendToAll 18 = .ok (.iload 6, 2) := by decide +kernel
theorem dDecreePool_sendToAll_20 : decode cDecreePool_sendToAll 20 = .ok (.iload_n 3, 1) := by decide +kernel
theorem dDecreePool_sendToAll_21 : decode cDecreePool_sendToAll 21 = .ok (.iload 4, 2) := by decide +kernel
theorem dDecreePool_sendToAll_23 : decode cDecreePool_sendToAll 23 = .ok (.iload 5, 2) := by decide +kernel
theorem dDecreePool_sendToAll_25 : decode cDecreePool_sendToAll 25 = .ok (.iconst (-1), 1) := by decide +kernel
theorem dDecreePool_sendToAll_26 : decode cDecreePool_sendToAll 26 = .ok (.invokevirtual 164, 3) := by decide +kernel
theorem dDecreePool_sendToAll_29 : decode cDecreePool_sendToAll 29 = .ok (.pop, 1) := by decide +kernel
theorem dDecreePool_sendToAll_30 : decode cDecreePool_sendToAll 30 = .ok (.iinc 6  1, 3) := by decide +kernel
theorem dDecreePool_sendToAll_33 : decode cDecreePool_sendToAll 33 = .ok (.goto (-30), 3) := by decide +kernel
theorem dDecreePool_sendToAll_36 : decode cDecreePool_sendToAll 36 = .ok (.return_, 1) := by decide +kernel
set_option maxRecDepth 100000 in
set_option maxHeartbeats 4000000 in
theorem c_sendToAll (l : Launch) (D : va_G) (cI cZ : ClassId) (q : Nat → Nat) (n : Nat) (S : Nat) (P : Nat) (x : St) (k : Int32) (s1 : Int32) (sl : Int32) (b : Int32) (v : Int32) (hn1 : 1 ≤ n) (hn5 : n ≤ 5) (hS1 : 1 ≤ S) (hS4 : S ≤ 4) (hP5 : 5 ≤ P) (hP64 : P ≤ 64) (hk0 : k ≠ 0) (hroom : cntx P x + n ≤ P) : MV l D [(cI, .int), (cZ, .boolean)] yDecreePool_sendToAll wsDecreePool_sendToAll ({ frames := 3, cells := 0, slots := 0, locals := 72 }) [.ref (q 0), .int k, .int s1, .int sl, .int b, .int v] (wX q cI n S P x) (fun w => w = (wX q cI n S P (sendA P x k s1 sl b v n))) := by
  intro sz
  refine Met.ofW (cc := cDecreePool_sendToAll) (maxL := 7) (ret := (Option.none : Option ClassFile.FieldType)) (by decide) rfl ?_
  intro p e s m args below meth c s₁ B hml hv
  obtain ⟨rfl, hsz, hP, hK, hD0, hZ⟩ := hv
  have hx := B.exec
  have hb := B.bytes
  have hr := B.returns
  have hts := atoms_spec (ws := wsDecreePool_sendToAll) B.pre
  have hown : s.vm.findClass RDecreePool = some m.cls := findClass_of_methodNamed B.named
  have hlocks := B.notSynchronized
  subst hsz
  have hD := hD0.self (sz := s.heap.size)
  generalize hAe : va_A (wX q cI n S P x) s.heap.size = A at hD ⊢
  have hA : ∀ q : Nat, s.heap.size ≤ q → A q := fun q h => by rw [← hAe]; exact Or.inr h
  have hS : va_S A s.heap s.heap [] := va_S.rf
  have hP : va_P D vwCl (wX q cI n S P x) s.heap := hP
  have hl := lv_entry ([.ref (q 0), .int k, .int s1, .int sl, .int b, .int v]) (n := 7) (Nat.le_of_ble_eq_true rfl)
  rw [lg_entry_eq]
  generalize (lg_sl ([.ref (q 0), .int k, .int s1, .int sl, .int b, .int v]) ++ List.replicate (7 - (lg_sl ([.ref (q 0), .int k, .int s1, .int sl, .int b, .int v])).length) Slot.unset).toArray = ls at hl ⊢
  have hl : lv_has ls 7 [(0, .ref (q 0)), (1, .int k), (2, .int s1), (3, .int sl), (4, .int b), (5, .int v)] := hl
  refine lv_iconst (v := nI 0) hx hb dDecreePool_sendToAll_0 (by decide) ?_
  refine lv_istore hx hb dDecreePool_sendToAll_1 hl (by decide) rfl (fun ls hl => ?_)
  have hl : lv_has ls 7 [(6, .int (nI 0)), (0, .ref (q 0)), (1, .int k), (2, .int s1), (3, .int sl), (4, .int b), (5, .int v)] := hl
  have loop3 : ∀ (d3 i : Nat) (ls : Array Slot) (H : Heap) (locs : List Loc), i + d3 = n → lv_has ls 7 [(6, .int (nI i)), (0, .ref (q 0)), (1, .int k), (2, .int s1), (3, .int sl), (4, .int b), (5, .int v)] → va_P D vwCl (wX q cI n S P (sendA P x k s1 sl b v i)) H → va_D A (wX q cI n S P (sendA P x k s1 sl b v i)) → va_S A s.heap H locs → W p l e (headSpec wsDecreePool_sendToAll { frames := 3, cells := 0, slots := 0, locals := 72 }).room s m [.ref (q 0), .int k, .int s1, .int sl, .int b, .int v].toArray below meth c H locs 0 0 (MQ below (va_Qv (fun w => w = (wX q cI n S P (sendA P x k s1 sl b v n))) (QW D [(cI, .int), (cZ, .boolean)] A) A) [.ref (q 0), .int k, .int s1, .int sl, .int b, .int v].toArray s 0 0 A) (F0 m 3 ls []) := by
    intro d3
    induction d3 with
    | zero =>
      intro i ls H locs hid3  hl hP hD hS
      refine lv_iload hx hb dDecreePool_sendToAll_3 (lv_at hl 0 rfl) ?_
      refine lv_aload_n hx hb dDecreePool_sendToAll_5 rfl (lv_at hl 1 rfl) ?_
      refine va_get (D := D) (ci := 0) (v := .int (nI n)) (C := RDecreePool) (T := TDecreePool) (N := 9) hx hb hts (fun w h => mc (uDecreePool_in w h)) hown hK hP 0 rfl rfl 0 (by decide) (hts _ (mc wd105)) (fun _ h9 => h9) rfl dDecreePool_sendToAll_6 ?_
      refine lv_icmp_ge (tgt := 36) hx hb dDecreePool_sendToAll_9 (by decide) (fun _ => ?_) (fun h9 => absurd (nI_le (by omega) (by omega)) h9)
      have hin : n = i := by omega
      subst hin
      exact W.vret hx hb hr (fun t9 ht9 hW9 => ⟨⟨(wX q cI n S P (sendA P x k s1 sl b v n)), rfl, rfl, by rw [ht9]; exact hP, va_K.moved hW9.alike hK, hD⟩, hS.F ht9⟩) hS.2.2 dDecreePool_sendToAll_36
    | succ d3 ih3 =>
      intro i ls H locs hid3  hl hP hD hS
      refine lv_iload hx hb dDecreePool_sendToAll_3 (lv_at hl 0 rfl) ?_
      refine lv_aload_n hx hb dDecreePool_sendToAll_5 rfl (lv_at hl 1 rfl) ?_
      refine va_get (D := D) (ci := 0) (v := .int (nI n)) (C := RDecreePool) (T := TDecreePool) (N := 9) hx hb hts (fun w h => mc (uDecreePool_in w h)) hown hK hP 0 rfl rfl 0 (by decide) (hts _ (mc wd105)) (fun _ h9 => h9) rfl dDecreePool_sendToAll_6 ?_
      refine lv_icmp_ge (tgt := 36) hx hb dDecreePool_sendToAll_9 (by decide) (fun h9 => absurd h9 (nI_ge (by omega) (by omega))) (fun _ => ?_)
      have hci : cntx P (sendA P x k s1 sl b v i) < P := by rw [cnt_sendA hk0 i (by omega)]; omega
      refine lv_aload_n hx hb dDecreePool_sendToAll_12 rfl (lv_at hl 1 rfl) ?_
      refine va_get (D := D) (ci := 0) (v := .ref (q 1)) (C := RDecreePool) (T := TDecreePool) (N := 9) hx hb hts (fun w h => mc (uDecreePool_in w h)) hown hK hP 0 rfl rfl 2 (by decide) (hts _ (mc wd107)) (fun _ h9 => h9) rfl dDecreePool_sendToAll_13 ?_
      refine lv_iload_n hx hb dDecreePool_sendToAll_16 rfl (lv_at hl 2 rfl) ?_
      refine lv_iload_n hx hb dDecreePool_sendToAll_17 rfl (lv_at hl 3 rfl) ?_
      refine lv_iload hx hb dDecreePool_sendToAll_18 (lv_at hl 0 rfl) ?_
      refine lv_iload_n hx hb dDecreePool_sendToAll_20 rfl (lv_at hl 4 rfl) ?_
      refine lv_iload hx hb dDecreePool_sendToAll_21 (lv_at hl 5 rfl) ?_
      refine lv_iload hx hb dDecreePool_sendToAll_23 (lv_at hl 6 rfl) ?_
      refine lv_iconst (v := (-1)) hx hb dDecreePool_sendToAll_25 (by decide) ?_
      have hPc := hP.sub (ws' := (wPo q cI P ((sendA P x k s1 sl b v i).1 0) (cntx P (sendA P x k s1 sl b v i)))) [1, 2] rfl
      have hDc := hD.sub (ws' := (wPo q cI P ((sendA P x k s1 sl b v i).1 0) (cntx P (sendA P x k s1 sl b v i)))) [1, 2] (by decide) rfl
      refine kx_i (va_runV (As := [.int k, .int s1, .int (nI i), .int sl, .int b, .int v, .int (-1)]) (rest := []) ⟨hx, hb, hml, hown, hts⟩ ((c_send l D cI cZ q P ((sendA P x k s1 sl b v i).1 0) (cntx P (sendA P x k s1 sl b v i)) k s1 (nI i) sl b v (-1) (hP64)) H.size) (cwV 7 hts (gV wd173 wd174 wd175 wd2 wd176) rfl rfl rfl (by decide +kernel) ⟨Nat.le_of_ble_eq_true rfl, Nat.le_of_ble_eq_true rfl⟩) ⟨fb_PW, va_recv (q0 := 0) (ci := 1) hK hPc rfl rfl, pre_PW hK hPc hDc hZ⟩ rfl rfl hl.1 rfl (lv_room (Nat.le_of_ble_eq_true rfl)) dDecreePool_sendToAll_26 ⟨Nat.zero_le _, Nat.zero_le _⟩) hP hD hS hA [1, 2] [0, 3, 4, 5, 6, 7, 8, 9, 10, 11, 12, 13, 14, 15] rfl rfl (by decide) (by decide) (fun r w1 H locs hw hP hD hS => ?_)
      rcases hw with ⟨rfl, h26, rfl⟩ | ⟨rfl, h26, rfl⟩
      · have hP : va_P D vwCl (wD q cI n S P (n * S) (nI (msk (col ((sendA P x k s1 sl b v i).1 13) 0) n)) ((sendA P x k s1 sl b v i).1 12 0 0) ((sendA P x k s1 sl b v i).1 12 0 1) (up7 ((sendA P x k s1 sl b v i).1 0) (lst (col ((sendA P x k s1 sl b v i).1 0) 0) P 0) k s1 (nI i) sl b v (-1)) ((cntx P (sendA P x k s1 sl b v i)) + 1) (sq S ((sendA P x k s1 sl b v i).1 1)) (sq S ((sendA P x k s1 sl b v i).1 2)) (sq S ((sendA P x k s1 sl b v i).1 3)) (sq S ((sendA P x k s1 sl b v i).1 4)) (sq S ((sendA P x k s1 sl b v i).1 5)) (sq S ((sendA P x k s1 sl b v i).1 8)) (sq S ((sendA P x k s1 sl b v i).1 9)) (sq S ((sendA P x k s1 sl b v i).1 10)) (hq n S ((sendA P x k s1 sl b v i).2 0)) (sq S ((sendA P x k s1 sl b v i).1 11))) H := hP.sub [0, 14, 15, 1, 2, 3, 4, 5, 6, 7, 8, 9, 10, 11, 12, 13] rfl
        have hD : va_D A (wD q cI n S P (n * S) (nI (msk (col ((sendA P x k s1 sl b v i).1 13) 0) n)) ((sendA P x k s1 sl b v i).1 12 0 0) ((sendA P x k s1 sl b v i).1 12 0 1) (up7 ((sendA P x k s1 sl b v i).1 0) (lst (col ((sendA P x k s1 sl b v i).1 0) 0) P 0) k s1 (nI i) sl b v (-1)) ((cntx P (sendA P x k s1 sl b v i)) + 1) (sq S ((sendA P x k s1 sl b v i).1 1)) (sq S ((sendA P x k s1 sl b v i).1 2)) (sq S ((sendA P x k s1 sl b v i).1 3)) (sq S ((sendA P x k s1 sl b v i).1 4)) (sq S ((sendA P x k s1 sl b v i).1 5)) (sq S ((sendA P x k s1 sl b v i).1 8)) (sq S ((sendA P x k s1 sl b v i).1 9)) (sq S ((sendA P x k s1 sl b v i).1 10)) (hq n S ((sendA P x k s1 sl b v i).2 0)) (sq S ((sendA P x k s1 sl b v i).1 11))) := hD.sub [0, 14, 15, 1, 2, 3, 4, 5, 6, 7, 8, 9, 10, 11, 12, 13] (by decide) rfl
        have hW1 : (wD q cI n S P (n * S) (nI (msk (col ((sendA P x k s1 sl b v i).1 13) 0) n)) ((sendA P x k s1 sl b v i).1 12 0 0) ((sendA P x k s1 sl b v i).1 12 0 1) (up7 ((sendA P x k s1 sl b v i).1 0) (lst (col ((sendA P x k s1 sl b v i).1 0) 0) P 0) k s1 (nI i) sl b v (-1)) ((cntx P (sendA P x k s1 sl b v i)) + 1) (sq S ((sendA P x k s1 sl b v i).1 1)) (sq S ((sendA P x k s1 sl b v i).1 2)) (sq S ((sendA P x k s1 sl b v i).1 3)) (sq S ((sendA P x k s1 sl b v i).1 4)) (sq S ((sendA P x k s1 sl b v i).1 5)) (sq S ((sendA P x k s1 sl b v i).1 8)) (sq S ((sendA P x k s1 sl b v i).1 9)) (sq S ((sendA P x k s1 sl b v i).1 10)) (hq n S ((sendA P x k s1 sl b v i).2 0)) (sq S ((sendA P x k s1 sl b v i).1 11))) = (wX q cI n S P (sendA P x k s1 sl b v (i + 1))) := wX_send hk0 hci
        rw [hW1] at hP hD
        refine lv_pop hx hb dDecreePool_sendToAll_29 rfl ?_
        refine lv_iinc (k := 0) (v := nI (i + 1)) hx hb dDecreePool_sendToAll_30 hl rfl ((nI_succ _).symm) (by decide) rfl (fun ls hl => ?_)
        have hl : lv_has ls 7 [(6, .int (nI (i + 1))), (0, .ref (q 0)), (1, .int k), (2, .int s1), (3, .int sl), (4, .int b), (5, .int v)] := hl
        refine lv_goto (tgt := 3) hx hb dDecreePool_sendToAll_33 (by decide) ?_
        exact ih3 (i + 1) ls H locs (by omega) hl hP hD hS
      · have hP : va_P D vwCl (wX q cI n S P (sendA P x k s1 sl b v i)) H := hP.sub [0, 14, 15, 1, 2, 3, 4, 5, 6, 7, 8, 9, 10, 11, 12, 13] rfl
        have hD : va_D A (wX q cI n S P (sendA P x k s1 sl b v i)) := hD.sub [0, 14, 15, 1, 2, 3, 4, 5, 6, 7, 8, 9, 10, 11, 12, 13] (by decide) rfl
        exact absurd h26 (Nat.ne_of_lt (lst_lt hci))
  exact loop3 n 0 ls s.heap [] (by omega) hl hP hD hS
theorem dDecreePool_isAnsweredToAll_0 : decode cDecreePool_isAnsweredToAll 0 = .ok (.aload_n 0, 1) := by decide +kernel
theorem dDecreePool_isAnsweredToAll_1 : decode cDecreePool_isAnsweredToAll 1 = .ok (.getfield 25, 3) := by decide +kernel
theorem dDecreePool_isAnsweredToAll_4 : decode cDecreePool_isAnsweredToAll 4 = .ok (.iload_n 1, 1) := by decide +kernel
theorem dDecreePool_isAnsweredToAll_5 : decode cDecreePool_isAnsweredToAll 5 = .ok (.iconst 2, 1) := by decide +kernel
theorem dDecreePool_isAnsweredToAll_6 : decode cDecreePool_isAnsweredToAll 6 = .ok (.invokevirtual 101, 3) := by decide +kernel
theorem dDecreePool_isAnsweredToAll_9 : decode cDecreePool_isAnsweredToAll 9 = .ok (.istore_n 2, 1) := by decide +kernel
theorem dDecreePool_isAnsweredToAll_10 : decode cDecreePool_isAnsweredToAll 10 = .ok (.aload_n 0, 1) := by decide +kernel
theorem dDecreePool_isAnsweredToAll_11 : decode cDecreePool_isAnsweredToAll 11 = .ok (.iload_n 2, 1) := by decide +kernel
theorem dDecreePool_isAnsweredToAll_12 : decode cDecreePool_isAnsweredToAll 12 = .ok (.invokevirtual 65, 3) := by decide +kernel
theorem dDecreePool_isAnsweredToAll_15 : decode cDecreePool_isAnsweredToAll 15 = .ok (.ifCond .ne 5, 3) := by decide +kernel
theorem dDecreePool_isAnsweredToAll_18 : decode cDecreePool_isAnsweredToAll 18 = .ok (.iconst 0, 1) := by decide +kernel
theorem dDecreePool_isAnsweredToAll_19 : decode cDecreePool_isAnsweredToAll 19 = .ok (.ireturn, 1) := by decide +kernel
theorem dDecreePool_isAnsweredToAll_20 : decode cDecreePool_isAnsweredToAll 20 = .ok (.aload_n 0, 1) := by decide +kernel
theorem dDecreePool_isAnsweredToAll_21 : decode cDecreePool_isAnsweredToAll 21 = .ok (.iload_n 2, 1) := by decide +kernel
theorem dDecreePool_isAnsweredToAll_22 : decode cDecreePool_isAnsweredToAll 22 = .ok (.aload_n 0, 1) := by decide +kernel
theorem dDecreePool_isAnsweredToAll_23 : decode cDecreePool_isAnsweredToAll 23 = .ok (.getfield 25, 3) := by decide +kernel
theorem dDecreePool_isAnsweredToAll_26 : decode cDecreePool_isAnsweredToAll 26 = .ok (.iload_n 1, 1) := by decide +kernel
theorem dDecreePool_isAnsweredToAll_27 : decode cDecreePool_isAnsweredToAll 27 = .ok (.iconst 3, 1) := by decide +kernel
theorem dDecreePool_isAnsweredToAll_28 : decode cDecreePool_isAnsweredToAll 28 = .ok (.invokevirtual 101, 3) := by decide +kernel
theorem dDecreePool_isAnsweredToAll_31 : decode cDecreePool_isAnsweredToAll 31 = .ok (.invokevirtual 69, 3) := by decide +kernel
theorem dDecreePool_isAnsweredToAll_34 : decode cDecreePool_isAnsweredToAll 34 = .ok (.istore_n 3, 1) := by decide +kernel
theorem dDecreePool_isAnsweredToAll_35 : decode cDecreePool_isAnsweredToAll 35 = .ok (.aload_n 0, 1) := by decide +kernel
theorem dDecreePool_isAnsweredToAll_36 : decode cDecreePool_isAnsweredToAll 36 = .ok (.getfield 25, 3) := by decide +kernel
theorem dDecreePool_isAnsweredToAll_39 : decode cDecreePool_isAnsweredToAll 39 = .ok (.iload_n 1, 1) := by decide +kernel
theorem dDecreePool_isAnsweredToAll_40 : decode cDecreePool_isAnsweredToAll 40 = .ok (.iconst 4, 1) := by decide +kernel
theorem dDecreePool_isAnsweredToAll_41 : decode cDecreePool_isAnsweredToAll 41 = .ok (.invokevirtual 101, 3) := by decide +kernel
theorem dDecreePool_isAnsweredToAll_44 : decode cDecreePool_isAnsweredToAll 44 = .ok (.istore 4, 2) := by decide +kernel
theorem dDecreePool_isAnsweredToAll_46 : decode cDecreePool_isAnsweredToAll 46 = .ok (.aload_n 0, 1) := by decide +kernel
theorem dDecreePool_isAnsweredToAll_47 : decode cDecreePool_isAnsweredToAll 47 = .ok (.getfield 25, 3) := by decide +kernel
theorem dDecreePool_isAnsweredToAll_50 : decode cDecreePool_isAnsweredToAll 50 = .ok (.iload_n 1, 1) := by decide +kernel
theorem dDecreePool_isAnsweredToAll_51 : decode cDecreePool_isAnsweredToAll 51 = .ok (.iconst 0, 1) := by decide +kernel
theorem dDecreePool_isAnsweredToAll_52 : decode cDecreePool_isAnsweredToAll 52 = .ok (.invokevirtual 101, 3) := by decide +kernel
theorem dDecreePool_isAnsweredToAll_55 : decode cDecreePool_isAnsweredToAll 55 = .ok (.lookupswitch 56 #[(2, 25), (3, 45)], 25) := by decide +kernel
theorem dDecreePool_isAnsweredToAll_80 : decode cDecreePool_isAnsweredToAll 80 = .ok (.aload_n 0, 1) := by decide +kernel
theorem dDecreePool_isAnsweredToAll_81 : decode cDecreePool_isAnsweredToAll 81 = .ok (.getfield 34, 3) := by decide +kernel
theorem dDecreePool_isAnsweredToAll_84 : decode cDecreePool_isAnsweredToAll 84 = .ok (.iload_n 3, 1) := by decide +kernel
theorem dDecreePool_isAnsweredToAll_85 : decode cDecreePool_isAnsweredToAll 85 = .ok (.aload_n 0, 1) := by decide +kernel
theorem dDecreePool_isAnsweredToAll_86 : decode cDecreePool_isAnsweredToAll 86 = .ok (.getfield 25, 3) := by decide +kernel
theorem dDecreePool_isAnsweredToAll_89 : decode cDecreePool_isAnsweredToAll 89 = .ok (.iload_n 1, 1) := by decide +kernel
theorem dDecreePool_isAnsweredToAll_90 : decode cDecreePool_isAnsweredToAll 90 = .ok (.iconst 1, 1) := by decide +kernel
theorem dDecreePool_isAnsweredToAll_91 : decode cDecreePool_isAnsweredToAll 91 = .ok (.invokevirtual 101, 3) := by decide +kernel
theorem dDecreePool_isAnsweredToAll_94 : decode cDecreePool_isAnsweredToAll 94 = .ok (.iload 4, 2) := by decide +kernel
theorem dDecreePool_isAnsweredToAll_96 : decode cDecreePool_isAnsweredToAll 96 = .ok (.invokevirtual 171, 3) := by decide +kernel
theorem dDecreePool_isAnsweredToAll_99 : decode cDecreePool_isAnsweredToAll 99 = .ok (.ireturn, 1) := by decide +kernel
theorem dDecreePool_isAnsweredToAll_100 : decode cDecreePool_isAnsweredToAll 100 = .ok (.aload_n 0, 1) := by decide +kernel
theorem dDecreePool_isAnsweredToAll_101 : decode cDecreePool_isAnsweredToAll 101 = .ok (.getfield 41, 3) := by decide +kernel
theorem dDecreePool_isAnsweredToAll_104 : decode cDecreePool_isAnsweredToAll 104 = .ok (.iload_n 3, 1) := by decide +kernel
theorem dDecreePool_isAnsweredToAll_105 : decode cDecreePool_isAnsweredToAll 105 = .ok (.iload 4, 2) := by decide +kernel
theorem dDecreePool_isAnsweredToAll_107 : decode cDecreePool_isAnsweredToAll 107 = .ok (.invokevirtual 174, 3) := by decide +kernel
theorem dDecreePool_isAnsweredToAll_110 : decode cDecreePool_isAnsweredToAll 110 = .ok (.ireturn, 1) := by decide +kernel
theorem dDecreePool_isAnsweredToAll_111 : decode cDecreePool_isAnsweredToAll 111 = .ok (.iconst 0, 1) := by decide +kernel
theorem dDecreePool_isAnsweredToAll_112 : decode cDecreePool_isAnsweredToAll 112 = .ok (.ireturn, 1) := by decide +kernel
set_option maxRecDepth 100000 in
set_option maxHeartbeats 4000000 in
theorem c_isAnsweredToAll (l : Launch) (D : va_G) (cI cZ : ClassId) (q : Nat → Nat) (n : Nat) (S : Nat) (P : Nat) (x : St) (j : Nat) (hn1 : 1 ≤ n) (hn5 : n ≤ 5) (hS1 : 1 ≤ S) (hS4 : S ≤ 4) (hP5 : 5 ≤ P) (hP64 : P ≤ 64) (hj : j < P) (hV : vmsg n S (x.1 0 j 0) (x.1 0 j 1) (x.1 0 j 2) (x.1 0 j 3) (x.1 0 j 5)) (hI : Ibit x) : MI l D [(cI, .int), (cZ, .boolean)] yDecreePool_isAnsweredToAll wsDecreePool_isAnsweredToAll ({ frames := 2, cells := 0, slots := 0, locals := 45 }) [.ref (q 0), .int (nI j)] (wX q cI n S P x) (fun r w => (r = nI 1 ∧ (x.1 13 (ix (x.1 0 j 2)) 0 = 0 ∧ sAll n x j) ∧ w = (wX q cI n S P x)) ∨ (r = nI 0 ∧ (¬ (x.1 13 (ix (x.1 0 j 2)) 0 = 0 ∧ sAll n x j)) ∧ w = (wX q cI n S P x))) := by
  intro sz
  obtain ⟨k9, b, a, t, hk1, hk5, hb, ha, ht, hkk, hsd, hrc, hsl, hv0⟩ := hV
  obtain ⟨e1, he1, he2⟩ := hI.1 a t
  have hE := orb_fin e1 he1 b (by omega)
  have iA : ix (x.1 0 j 2) = a := by rw [hrc]; exact ix_nI ha (by omega)
  have iT : ix (x.1 0 j 3) = t := by rw [hsl]; exact ix_nI ht (by omega)
  have iB : ix (x.1 0 j 1) = b := by rw [hsd]; exact ix_nI hb (by omega)
  have hiff : (x.1 13 (ix (x.1 0 j 2)) 0 = 0 ∧ sAll n x j) ↔ (x.1 13 a 0 = 0 ∧ ((x.1 0 j 0 = nI 2 ∧ ((x.1 1 a t = nI 1 ∧ x.1 2 a t = x.1 0 j 4) ∧ n < 2 * popn (e1 ||| 2 ^ b))) ∨ (x.1 0 j 0 = nI 3 ∧ x.1 8 a t ≤ x.1 0 j 4))) := by
    unfold sAll sWins
    rw [iA, iT, hsd, he2, hE.1, ix_nI hE.2 (by omega)]
  refine Met.ofW (cc := cDecreePool_isAnsweredToAll) (maxL := 5) (ret := (Option.some .boolean)) (by decide) rfl ?_
  intro p e s m args below meth c s₁ B hml hv
  obtain ⟨rfl, hsz, hP, hK, hD0, hZ⟩ := hv
  have hx := B.exec
  have hb := B.bytes
  have hr := B.returns
  have hts := atoms_spec (ws := wsDecreePool_isAnsweredToAll) B.pre
  have hown : s.vm.findClass RDecreePool = some m.cls := findClass_of_methodNamed B.named
  have hlocks := B.notSynchronized
  subst hsz
  have hD := hD0.self (sz := s.heap.size)
  generalize hAe : va_A (wX q cI n S P x) s.heap.size = A at hD ⊢
  have hA : ∀ q : Nat, s.heap.size ≤ q → A q := fun q h => by rw [← hAe]; exact Or.inr h
  have hS : va_S A s.heap s.heap [] := va_S.rf
  have hP : va_P D vwCl (wX q cI n S P x) s.heap := hP
  have hl := lv_entry ([.ref (q 0), .int (nI j)]) (n := 5) (Nat.le_of_ble_eq_true rfl)
  rw [lg_entry_eq]
  generalize (lg_sl ([.ref (q 0), .int (nI j)]) ++ List.replicate (5 - (lg_sl ([.ref (q 0), .int (nI j)])).length) Slot.unset).toArray = ls at hl ⊢
  have hl : lv_has ls 5 [(0, .ref (q 0)), (1, .int (nI j))] := hl
  refine lv_aload_n hx hb dDecreePool_isAnsweredToAll_0 rfl (lv_at hl 0 rfl) ?_
  refine va_get (D := D) (ci := 0) (v := .ref (q 1)) (C := RDecreePool) (T := TDecreePool) (N := 9) hx hb hts (fun w h => mc (uDecreePool_in w h)) hown hK hP 0 rfl rfl 2 (by decide) (hts _ (mc wd107)) (fun _ h9 => h9) rfl dDecreePool_isAnsweredToAll_1 ?_
  refine lv_iload_n hx hb dDecreePool_isAnsweredToAll_4 rfl (lv_at hl 1 rfl) ?_
  refine lv_iconst (v := nI 2) hx hb dDecreePool_isAnsweredToAll_5 (by decide) ?_
  have hPc := hP.sub (ws' := (wPo q cI P (x.1 0) (cntx P x))) [1, 2] rfl
  have hDc := hD.sub (ws' := (wPo q cI P (x.1 0) (cntx P x))) [1, 2] (by decide) rfl
  refine kx_i (va_runV (As := [.int (nI j), .int (nI 2)]) (rest := []) ⟨hx, hb, hml, hown, hts⟩ ((c_field l D cI cZ q P (x.1 0) (cntx P x) j 2 (hP64) (hj) (by omega)) s.heap.size) (cwV 2 hts (gV wd202 wd182 wd183 wd2 wd184) rfl rfl rfl (by decide +kernel) ⟨Nat.le_of_ble_eq_true rfl, Nat.le_of_ble_eq_true rfl⟩) ⟨fb_PW, va_recv (q0 := 0) (ci := 1) hK hPc rfl rfl, pre_PW hK hPc hDc hZ⟩ rfl rfl hl.1 rfl (lv_room (Nat.le_of_ble_eq_true rfl)) dDecreePool_isAnsweredToAll_6 ⟨Nat.zero_le _, Nat.zero_le _⟩) hP hD hS hA [1, 2] [0, 3, 4, 5, 6, 7, 8, 9, 10, 11, 12, 13, 14, 15] rfl rfl (by decide) (by decide) (fun r w1 H locs hw hP hD hS => ?_)
  obtain ⟨rfl, rfl⟩ := hw
  have hP : va_P D vwCl (wX q cI n S P x) H := hP.sub [0, 14, 15, 1, 2, 3, 4, 5, 6, 7, 8, 9, 10, 11, 12, 13] rfl
  have hD : va_D A (wX q cI n S P x) := hD.sub [0, 14, 15, 1, 2, 3, 4, 5, 6, 7, 8, 9, 10, 11, 12, 13] (by decide) rfl
  refine lv_topi (nm_r (hrc) ?_)
  refine lv_istore_n hx hb dDecreePool_isAnsweredToAll_9 rfl hl (by decide) rfl (fun ls hl => ?_)
  have hl : lv_has ls 5 [(2, .int (nI a)), (0, .ref (q 0)), (1, .int (nI j))] := hl
  refine lv_aload_n hx hb dDecreePool_isAnsweredToAll_10 rfl (lv_at hl 1 rfl) ?_
  refine lv_iload_n hx hb dDecreePool_isAnsweredToAll_11 rfl (lv_at hl 0 rfl) ?_
  have hPc := hP.sub (ws' := (wX q cI n S P x)) [0, 1, 2, 3, 4, 5, 6, 7, 8, 9, 10, 11, 12, 13, 14, 15] rfl
  have hDc := hD.sub (ws' := (wX q cI n S P x)) [0, 1, 2, 3, 4, 5, 6, 7, 8, 9, 10, 11, 12, 13, 14, 15] (by decide) rfl
  refine kx_i (va_runV (As := [.int (nI a)]) (rest := []) ⟨hx, hb, hml, hown, hts⟩ ((c_isUp l D cI cZ q n S P x a (hn1) (hn5) (hS1) (hS4) (hP5) (hP64) (by omega)) H.size) (cwV 1 hts (gV wd149 wd151 sl_DecreePool_isUp wd1 wd152) rfl rfl rfl (by decide +kernel) ⟨Nat.le_of_ble_eq_true rfl, Nat.le_of_ble_eq_true rfl⟩) ⟨fb_PW, va_recv (q0 := 0) (ci := 0) hK hPc rfl rfl, pre_PW hK hPc hDc hZ⟩ rfl rfl hl.1 rfl (lv_room (Nat.le_of_ble_eq_true rfl)) dDecreePool_isAnsweredToAll_12 ⟨Nat.zero_le _, Nat.zero_le _⟩) hP hD hS hA [0, 1, 2, 3, 4, 5, 6, 7, 8, 9, 10, 11, 12, 13, 14, 15] [] rfl rfl (by decide) (by decide) (fun r w1 H locs hw hP hD hS => ?_)
  rcases hw with ⟨rfl, h12, rfl⟩ | ⟨rfl, h12, rfl⟩
  · have hP : va_P D vwCl (wX q cI n S P x) H := hP
    have hD : va_D A (wX q cI n S P x) := hD
    refine lv_if_ne (tgt := 20) hx hb dDecreePool_isAnsweredToAll_15 (by decide) (fun _ => ?_) (fun h9 => absurd h9 (by decide))
    refine lv_aload_n hx hb dDecreePool_isAnsweredToAll_20 rfl (lv_at hl 1 rfl) ?_
    refine lv_iload_n hx hb dDecreePool_isAnsweredToAll_21 rfl (lv_at hl 0 rfl) ?_
    refine lv_aload_n hx hb dDecreePool_isAnsweredToAll_22 rfl (lv_at hl 1 rfl) ?_
    refine va_get (D := D) (ci := 0) (v := .ref (q 1)) (C := RDecreePool) (T := TDecreePool) (N := 9) hx hb hts (fun w h => mc (uDecreePool_in w h)) hown hK hP 0 rfl rfl 2 (by decide) (hts _ (mc wd107)) (fun _ h9 => h9) rfl dDecreePool_isAnsweredToAll_23 ?_
    refine lv_iload_n hx hb dDecreePool_isAnsweredToAll_26 rfl (lv_at hl 2 rfl) ?_
    refine lv_iconst (v := nI 3) hx hb dDecreePool_isAnsweredToAll_27 (by decide) ?_
    have hPc := hP.sub (ws' := (wPo q cI P (x.1 0) (cntx P x))) [1, 2] rfl
    have hDc := hD.sub (ws' := (wPo q cI P (x.1 0) (cntx P x))) [1, 2] (by decide) rfl
    refine kx_i (va_runV (As := [.int (nI j), .int (nI 3)]) (rest := [.int (nI a), .ref (q 0)]) ⟨hx, hb, hml, hown, hts⟩ ((c_field l D cI cZ q P (x.1 0) (cntx P x) j 3 (hP64) (hj) (by omega)) H.size) (cwV 2 hts (gV wd202 wd182 wd183 wd2 wd184) rfl rfl rfl (by decide +kernel) ⟨Nat.le_of_ble_eq_true rfl, Nat.le_of_ble_eq_true rfl⟩) ⟨fb_PW, va_recv (q0 := 0) (ci := 1) hK hPc rfl rfl, pre_PW hK hPc hDc hZ⟩ rfl rfl hl.1 rfl (lv_room (Nat.le_of_ble_eq_true rfl)) dDecreePool_isAnsweredToAll_28 ⟨Nat.zero_le _, Nat.zero_le _⟩) hP hD hS hA [1, 2] [0, 3, 4, 5, 6, 7, 8, 9, 10, 11, 12, 13, 14, 15] rfl rfl (by decide) (by decide) (fun r w1 H locs hw hP hD hS => ?_)
    obtain ⟨rfl, rfl⟩ := hw
    have hP : va_P D vwCl (wX q cI n S P x) H := hP.sub [0, 14, 15, 1, 2, 3, 4, 5, 6, 7, 8, 9, 10, 11, 12, 13] rfl
    have hD : va_D A (wX q cI n S P x) := hD.sub [0, 14, 15, 1, 2, 3, 4, 5, 6, 7, 8, 9, 10, 11, 12, 13] (by decide) rfl
    refine lv_topi (nm_r (hsl) ?_)
    have hPc := hP.sub (ws' := (wX q cI n S P x)) [0, 1, 2, 3, 4, 5, 6, 7, 8, 9, 10, 11, 12, 13, 14, 15] rfl
    have hDc := hD.sub (ws' := (wX q cI n S P x)) [0, 1, 2, 3, 4, 5, 6, 7, 8, 9, 10, 11, 12, 13, 14, 15] (by decide) rfl
    refine kx_i (va_runV (As := [.int (nI a), .int (nI t)]) (rest := []) ⟨hx, hb, hml, hown, hts⟩ ((c_seatOf l D cI cZ q n S P x a t (hn1) (hn5) (hS1) (hS4) (hP5) (hP64)) H.size) (cwV 2 hts (gV wd153 wd155 sl_DecreePool_seatOf wd1 wd156) rfl rfl rfl (by decide +kernel) ⟨Nat.le_of_ble_eq_true rfl, Nat.le_of_ble_eq_true rfl⟩) ⟨fb_PW, va_recv (q0 := 0) (ci := 0) hK hPc rfl rfl, pre_PW hK hPc hDc hZ⟩ rfl rfl hl.1 rfl (lv_room (Nat.le_of_ble_eq_true rfl)) dDecreePool_isAnsweredToAll_31 ⟨Nat.zero_le _, Nat.zero_le _⟩) hP hD hS hA [0, 1, 2, 3, 4, 5, 6, 7, 8, 9, 10, 11, 12, 13, 14, 15] [] rfl rfl (by decide) (by decide) (fun r w1 H locs hw hP hD hS => ?_)
    obtain ⟨rfl, rfl⟩ := hw
    have hP : va_P D vwCl (wX q cI n S P x) H := hP
    have hD : va_D A (wX q cI n S P x) := hD
    refine lv_istore_n hx hb dDecreePool_isAnsweredToAll_34 rfl hl (by decide) rfl (fun ls hl => ?_)
    have hl : lv_has ls 5 [(3, .int (nI (a * S + t))), (2, .int (nI a)), (0, .ref (q 0)), (1, .int (nI j))] := hl
    refine lv_aload_n hx hb dDecreePool_isAnsweredToAll_35 rfl (lv_at hl 2 rfl) ?_
    refine va_get (D := D) (ci := 0) (v := .ref (q 1)) (C := RDecreePool) (T := TDecreePool) (N := 9) hx hb hts (fun w h => mc (uDecreePool_in w h)) hown hK hP 0 rfl rfl 2 (by decide) (hts _ (mc wd107)) (fun _ h9 => h9) rfl dDecreePool_isAnsweredToAll_36 ?_
    refine lv_iload_n hx hb dDecreePool_isAnsweredToAll_39 rfl (lv_at hl 3 rfl) ?_
    refine lv_iconst (v := nI 4) hx hb dDecreePool_isAnsweredToAll_40 (by decide) ?_
    have hPc := hP.sub (ws' := (wPo q cI P (x.1 0) (cntx P x))) [1, 2] rfl
    have hDc := hD.sub (ws' := (wPo q cI P (x.1 0) (cntx P x))) [1, 2] (by decide) rfl
    refine kx_i (va_runV (As := [.int (nI j), .int (nI 4)]) (rest := []) ⟨hx, hb, hml, hown, hts⟩ ((c_field l D cI cZ q P (x.1 0) (cntx P x) j 4 (hP64) (hj) (by omega)) H.size) (cwV 2 hts (gV wd202 wd182 wd183 wd2 wd184) rfl rfl rfl (by decide +kernel) ⟨Nat.le_of_ble_eq_true rfl, Nat.le_of_ble_eq_true rfl⟩) ⟨fb_PW, va_recv (q0 := 0) (ci := 1) hK hPc rfl rfl, pre_PW hK hPc hDc hZ⟩ rfl rfl hl.1 rfl (lv_room (Nat.le_of_ble_eq_true rfl)) dDecreePool_isAnsweredToAll_41 ⟨Nat.zero_le _, Nat.zero_le _⟩) hP hD hS hA [1, 2] [0, 3, 4, 5, 6, 7, 8, 9, 10, 11, 12, 13, 14, 15] rfl rfl (by decide) (by decide) (fun r w1 H locs hw hP hD hS => ?_)
    obtain ⟨rfl, rfl⟩ := hw
    have hP : va_P D vwCl (wX q cI n S P x) H := hP.sub [0, 14, 15, 1, 2, 3, 4, 5, 6, 7, 8, 9, 10, 11, 12, 13] rfl
    have hD : va_D A (wX q cI n S P x) := hD.sub [0, 14, 15, 1, 2, 3, 4, 5, 6, 7, 8, 9, 10, 11, 12, 13] (by decide) rfl
    refine lv_istore hx hb dDecreePool_isAnsweredToAll_44 hl (by decide) rfl (fun ls hl => ?_)
    have hl : lv_has ls 5 [(4, .int (x.1 0 j 4)), (3, .int (nI (a * S + t))), (2, .int (nI a)), (0, .ref (q 0)), (1, .int (nI j))] := hl
    refine lv_aload_n hx hb dDecreePool_isAnsweredToAll_46 rfl (lv_at hl 3 rfl) ?_
    refine va_get (D := D) (ci := 0) (v := .ref (q 1)) (C := RDecreePool) (T := TDecreePool) (N := 9) hx hb hts (fun w h => mc (uDecreePool_in w h)) hown hK hP 0 rfl rfl 2 (by decide) (hts _ (mc wd107)) (fun _ h9 => h9) rfl dDecreePool_isAnsweredToAll_47 ?_
    refine lv_iload_n hx hb dDecreePool_isAnsweredToAll_50 rfl (lv_at hl 4 rfl) ?_
    refine lv_iconst (v := nI 0) hx hb dDecreePool_isAnsweredToAll_51 (by decide) ?_
    have hPc := hP.sub (ws' := (wPo q cI P (x.1 0) (cntx P x))) [1, 2] rfl
    have hDc := hD.sub (ws' := (wPo q cI P (x.1 0) (cntx P x))) [1, 2] (by decide) rfl
    refine kx_i (va_runV (As := [.int (nI j), .int (nI 0)]) (rest := []) ⟨hx, hb, hml, hown, hts⟩ ((c_field l D cI cZ q P (x.1 0) (cntx P x) j 0 (hP64) (hj) (by omega)) H.size) (cwV 2 hts (gV wd202 wd182 wd183 wd2 wd184) rfl rfl rfl (by decide +kernel) ⟨Nat.le_of_ble_eq_true rfl, Nat.le_of_ble_eq_true rfl⟩) ⟨fb_PW, va_recv (q0 := 0) (ci := 1) hK hPc rfl rfl, pre_PW hK hPc hDc hZ⟩ rfl rfl hl.1 rfl (lv_room (Nat.le_of_ble_eq_true rfl)) dDecreePool_isAnsweredToAll_52 ⟨Nat.zero_le _, Nat.zero_le _⟩) hP hD hS hA [1, 2] [0, 3, 4, 5, 6, 7, 8, 9, 10, 11, 12, 13, 14, 15] rfl rfl (by decide) (by decide) (fun r w1 H locs hw hP hD hS => ?_)
    obtain ⟨rfl, rfl⟩ := hw
    have hP : va_P D vwCl (wX q cI n S P x) H := hP.sub [0, 14, 15, 1, 2, 3, 4, 5, 6, 7, 8, 9, 10, 11, 12, 13] rfl
    have hD : va_D A (wX q cI n S P x) := hD.sub [0, 14, 15, 1, 2, 3, 4, 5, 6, 7, 8, 9, 10, 11, 12, 13] (by decide) rfl
    by_cases k55_2 : x.1 0 j 0 = nI 2
    · refine lv_topi (nm_r (k55_2) ?_)
      refine lv_lookup (off := 25) (tgt := 80) hx hb dDecreePool_isAnsweredToAll_55 (by decide) rfl (by decide) ?_
      refine lv_aload_n hx hb dDecreePool_isAnsweredToAll_80 rfl (lv_at hl 3 rfl) ?_
      refine va_get (D := D) (ci := 0) (v := .ref (q 3)) (C := RDecreePool) (T := TDecreePool) (N := 9) hx hb hts (fun w h => mc (uDecreePool_in w h)) hown hK hP 0 rfl rfl 3 (by decide) (hts _ (mc wd108)) (fun _ h9 => h9) rfl dDecreePool_isAnsweredToAll_81 ?_
      refine lv_iload_n hx hb dDecreePool_isAnsweredToAll_84 rfl (lv_at hl 1 rfl) ?_
      refine lv_aload_n hx hb dDecreePool_isAnsweredToAll_85 rfl (lv_at hl 3 rfl) ?_
      refine va_get (D := D) (ci := 0) (v := .ref (q 1)) (C := RDecreePool) (T := TDecreePool) (N := 9) hx hb hts (fun w h => mc (uDecreePool_in w h)) hown hK hP 0 rfl rfl 2 (by decide) (hts _ (mc wd107)) (fun _ h9 => h9) rfl dDecreePool_isAnsweredToAll_86 ?_
      refine lv_iload_n hx hb dDecreePool_isAnsweredToAll_89 rfl (lv_at hl 4 rfl) ?_
      refine lv_iconst (v := nI 1) hx hb dDecreePool_isAnsweredToAll_90 (by decide) ?_
      have hPc := hP.sub (ws' := (wPo q cI P (x.1 0) (cntx P x))) [1, 2] rfl
      have hDc := hD.sub (ws' := (wPo q cI P (x.1 0) (cntx P x))) [1, 2] (by decide) rfl
      refine kx_i (va_runV (As := [.int (nI j), .int (nI 1)]) (rest := [.int (nI (a * S + t)), .ref (q 3)]) ⟨hx, hb, hml, hown, hts⟩ ((c_field l D cI cZ q P (x.1 0) (cntx P x) j 1 (hP64) (hj) (by omega)) H.size) (cwV 2 hts (gV wd202 wd182 wd183 wd2 wd184) rfl rfl rfl (by decide +kernel) ⟨Nat.le_of_ble_eq_true rfl, Nat.le_of_ble_eq_true rfl⟩) ⟨fb_PW, va_recv (q0 := 0) (ci := 1) hK hPc rfl rfl, pre_PW hK hPc hDc hZ⟩ rfl rfl hl.1 rfl (lv_room (Nat.le_of_ble_eq_true rfl)) dDecreePool_isAnsweredToAll_91 ⟨Nat.zero_le _, Nat.zero_le _⟩) hP hD hS hA [1, 2] [0, 3, 4, 5, 6, 7, 8, 9, 10, 11, 12, 13, 14, 15] rfl rfl (by decide) (by decide) (fun r w1 H locs hw hP hD hS => ?_)
      obtain ⟨rfl, rfl⟩ := hw
      have hP : va_P D vwCl (wX q cI n S P x) H := hP.sub [0, 14, 15, 1, 2, 3, 4, 5, 6, 7, 8, 9, 10, 11, 12, 13] rfl
      have hD : va_D A (wX q cI n S P x) := hD.sub [0, 14, 15, 1, 2, 3, 4, 5, 6, 7, 8, 9, 10, 11, 12, 13] (by decide) rfl
      refine lv_topi (nm_r (hsd) ?_)
      refine lv_iload hx hb dDecreePool_isAnsweredToAll_94 (lv_at hl 0 rfl) ?_
      have hPc := hP.sub (ws' := (wPr q cI n (n * S) (sq S (x.1 1)) (sq S (x.1 2)) (sq S (x.1 3)) (sq S (x.1 4)) (sq S (x.1 5)))) [3, 4, 5, 6, 7, 8] rfl
      have hDc := hD.sub (ws' := (wPr q cI n (n * S) (sq S (x.1 1)) (sq S (x.1 2)) (sq S (x.1 3)) (sq S (x.1 4)) (sq S (x.1 5)))) [3, 4, 5, 6, 7, 8] (by decide) rfl
      refine kx_i (va_runV (As := [.int (nI (a * S + t)), .int (nI b), .int (x.1 0 j 4)]) (rest := []) ⟨hx, hb, hml, hown, hts⟩ ((c_wouldWin l D cI cZ q n (n * S) (sq S (x.1 1)) (sq S (x.1 2)) (sq S (x.1 3)) (sq S (x.1 4)) (sq S (x.1 5)) (a * S + t) (nI b) (x.1 0 j 4) (e1 ||| 2 ^ b) (L20 hn5 hS4) (seat_lt ha ht) (hn5) (by rw [sq_at ht, he2]; exact hE.1) (hE.2)) H.size) (cwV 3 hts (gV wd203 wd204 wd205 wd3 wd206) rfl rfl rfl (by decide +kernel) ⟨Nat.le_of_ble_eq_true rfl, Nat.le_of_ble_eq_true rfl⟩) ⟨fb_PW, va_recv (q0 := 0) (ci := 2) hK hPc rfl rfl, pre_PW hK hPc hDc hZ⟩ rfl rfl hl.1 rfl (lv_room (Nat.le_of_ble_eq_true rfl)) dDecreePool_isAnsweredToAll_96 ⟨Nat.zero_le _, Nat.zero_le _⟩) hP hD hS hA [3, 4, 5, 6, 7, 8] [0, 1, 2, 9, 10, 11, 12, 13, 14, 15] rfl rfl (by decide) (by decide) (fun r w1 H locs hw hP hD hS => ?_)
      rcases hw with ⟨rfl, h96, rfl⟩ | ⟨rfl, h96, rfl⟩
      · have hP : va_P D vwCl (wX q cI n S P x) H := hP.sub [0, 1, 2, 10, 11, 12, 13, 14, 15, 3, 4, 5, 6, 7, 8, 9] rfl
        have hD : va_D A (wX q cI n S P x) := hD.sub [0, 1, 2, 10, 11, 12, 13, 14, 15, 3, 4, 5, 6, 7, 8, 9] (by decide) rfl
        simp only [sq_at ht] at h96
        exact W.zret (v := nI 1) (ty := .boolean) hx hb hr (by decide) (fun t9 ht9 hW9 => ⟨⟨nI 1, (wX q cI n S P x), rfl, Or.inl ⟨rfl, hiff.mpr ⟨h12, Or.inl ⟨k55_2, h96⟩⟩, rfl⟩, by rw [ht9]; exact hP, va_K.moved hW9.alike hK, hD⟩, hS.F ht9⟩) hS.2.2 dDecreePool_isAnsweredToAll_99
      · have hP : va_P D vwCl (wX q cI n S P x) H := hP.sub [0, 1, 2, 10, 11, 12, 13, 14, 15, 3, 4, 5, 6, 7, 8, 9] rfl
        have hD : va_D A (wX q cI n S P x) := hD.sub [0, 1, 2, 10, 11, 12, 13, 14, 15, 3, 4, 5, 6, 7, 8, 9] (by decide) rfl
        simp only [sq_at ht] at h96
        exact W.zret (v := nI 0) (ty := .boolean) hx hb hr (by decide) (fun t9 ht9 hW9 => ⟨⟨nI 0, (wX q cI n S P x), rfl, Or.inr ⟨rfl, fun h => (hiff.mp h).2.elim (fun q => h96 q.2) (fun q => absurd (k55_2.symm.trans q.1) (by decide)), rfl⟩, by rw [ht9]; exact hP, va_K.moved hW9.alike hK, hD⟩, hS.F ht9⟩) hS.2.2 dDecreePool_isAnsweredToAll_99
    by_cases k55_3 : x.1 0 j 0 = nI 3
    · refine lv_topi (nm_r (k55_3) ?_)
      refine lv_lookup (off := 45) (tgt := 100) hx hb dDecreePool_isAnsweredToAll_55 (by decide) rfl (by decide) ?_
      refine lv_aload_n hx hb dDecreePool_isAnsweredToAll_100 rfl (lv_at hl 3 rfl) ?_
      refine va_get (D := D) (ci := 0) (v := .ref (q 9)) (C := RDecreePool) (T := TDecreePool) (N := 9) hx hb hts (fun w h => mc (uDecreePool_in w h)) hown hK hP 0 rfl rfl 4 (by decide) (hts _ (mc wd109)) (fun _ h9 => h9) rfl dDecreePool_isAnsweredToAll_101 ?_
      refine lv_iload_n hx hb dDecreePool_isAnsweredToAll_104 rfl (lv_at hl 1 rfl) ?_
      refine lv_iload hx hb dDecreePool_isAnsweredToAll_105 (lv_at hl 0 rfl) ?_
      have hPc := hP.sub (ws' := (wAc q cI n S (n * S) (sq S (x.1 8)) (sq S (x.1 9)) (sq S (x.1 10)))) [9, 10, 11, 12] rfl
      have hDc := hD.sub (ws' := (wAc q cI n S (n * S) (sq S (x.1 8)) (sq S (x.1 9)) (sq S (x.1 10)))) [9, 10, 11, 12] (by decide) rfl
      refine kx_i (va_runV (As := [.int (nI (a * S + t)), .int (x.1 0 j 4)]) (rest := []) ⟨hx, hb, hml, hown, hts⟩ ((c_wouldAccept l D cI cZ q n S (n * S) (sq S (x.1 8)) (sq S (x.1 9)) (sq S (x.1 10)) (a * S + t) (x.1 0 j 4) (L20 hn5 hS4) (seat_lt ha ht)) H.size) (cwV 2 hts (gV wd220 wd221 wd222 wd5 wd223) rfl rfl rfl (by decide +kernel) ⟨Nat.le_of_ble_eq_true rfl, Nat.le_of_ble_eq_true rfl⟩) ⟨fb_PW, va_recv (q0 := 0) (ci := 3) hK hPc rfl rfl, pre_PW hK hPc hDc hZ⟩ rfl rfl hl.1 rfl (lv_room (Nat.le_of_ble_eq_true rfl)) dDecreePool_isAnsweredToAll_107 ⟨Nat.zero_le _, Nat.zero_le _⟩) hP hD hS hA [9, 10, 11, 12] [0, 1, 2, 3, 4, 5, 6, 7, 8, 13, 14, 15] rfl rfl (by decide) (by decide) (fun r w1 H locs hw hP hD hS => ?_)
      rcases hw with ⟨rfl, h107, rfl⟩ | ⟨rfl, h107, rfl⟩
      · have hP : va_P D vwCl (wX q cI n S P x) H := hP.sub [0, 1, 2, 3, 4, 5, 6, 7, 8, 12, 13, 14, 15, 9, 10, 11] rfl
        have hD : va_D A (wX q cI n S P x) := hD.sub [0, 1, 2, 3, 4, 5, 6, 7, 8, 12, 13, 14, 15, 9, 10, 11] (by decide) rfl
        simp only [sq_at ht] at h107
        exact W.zret (v := nI 1) (ty := .boolean) hx hb hr (by decide) (fun t9 ht9 hW9 => ⟨⟨nI 1, (wX q cI n S P x), rfl, Or.inl ⟨rfl, hiff.mpr ⟨h12, Or.inr ⟨k55_3, h107⟩⟩, rfl⟩, by rw [ht9]; exact hP, va_K.moved hW9.alike hK, hD⟩, hS.F ht9⟩) hS.2.2 dDecreePool_isAnsweredToAll_110
      · have hP : va_P D vwCl (wX q cI n S P x) H := hP.sub [0, 1, 2, 3, 4, 5, 6, 7, 8, 12, 13, 14, 15, 9, 10, 11] rfl
        have hD : va_D A (wX q cI n S P x) := hD.sub [0, 1, 2, 3, 4, 5, 6, 7, 8, 12, 13, 14, 15, 9, 10, 11] (by decide) rfl
        simp only [sq_at ht] at h107
        exact W.zret (v := nI 0) (ty := .boolean) hx hb hr (by decide) (fun t9 ht9 hW9 => ⟨⟨nI 0, (wX q cI n S P x), rfl, Or.inr ⟨rfl, fun h => (hiff.mp h).2.elim (fun q => absurd (k55_3.symm.trans q.1) (by decide)) (fun q => h107 q.2), rfl⟩, by rw [ht9]; exact hP, va_K.moved hW9.alike hK, hD⟩, hS.F ht9⟩) hS.2.2 dDecreePool_isAnsweredToAll_110
    refine lv_lookup (off := 56) (tgt := 111) hx hb dDecreePool_isAnsweredToAll_55 (by decide) ((lv_osw k55_2 rfl).trans ((lv_osw k55_3 rfl).trans (rfl))) (by decide) ?_
    refine lv_iconst (v := nI 0) hx hb dDecreePool_isAnsweredToAll_111 (by decide) ?_
    exact W.zret (v := nI 0) (ty := .boolean) hx hb hr (by decide) (fun t9 ht9 hW9 => ⟨⟨nI 0, (wX q cI n S P x), rfl, Or.inr ⟨rfl, fun h => (hiff.mp h).2.elim (fun q => k55_2 q.1) (fun q => k55_3 q.1), rfl⟩, by rw [ht9]; exact hP, va_K.moved hW9.alike hK, hD⟩, hS.F ht9⟩) hS.2.2 dDecreePool_isAnsweredToAll_112
  · have hP : va_P D vwCl (wX q cI n S P x) H := hP
    have hD : va_D A (wX q cI n S P x) := hD
    refine lv_if_ne (tgt := 20) hx hb dDecreePool_isAnsweredToAll_15 (by decide) (fun h9 => absurd (by decide) h9) (fun _ => ?_)
    refine lv_iconst (v := nI 0) hx hb dDecreePool_isAnsweredToAll_18 (by decide) ?_
    exact W.zret (v := nI 0) (ty := .boolean) hx hb hr (by decide) (fun t9 ht9 hW9 => ⟨⟨nI 0, (wX q cI n S P x), rfl, Or.inr ⟨rfl, fun h => h12 (hiff.mp h).1, rfl⟩, by rw [ht9]; exact hP, va_K.moved hW9.alike hK, hD⟩, hS.F ht9⟩) hS.2.2 dDecreePool_isAnsweredToAll_19
theorem dDecreePool_isDeliverable_0 : decode cDecreePool_isDeliverable 0 = .ok (.aload_n 0, 1) := by decide +kernel
theorem dDecreePool_isDeliverable_1 : decode cDecreePool_isDeliverable 1 = .ok (.getfield 25, 3) := by decide +kernel
theorem dDecreePool_isDeliverable_4 : decode cDecreePool_isDeliverable 4 = .ok (.invokevirtual 77, 3) := by decide +kernel
theorem dDecreePool_isDeliverable_7 : decode cDecreePool_isDeliverable 7 = .ok (.iconst 1, 1) := by decide +kernel
theorem dDecreePool_isDeliverable_8 : decode cDecreePool_isDeliverable 8 = .ok (.iadd, 1) := by decide +kernel
theorem dDecreePool_isDeliverable_9 : decode cDecreePool_isDeliverable 9 = .ok (.aload_n 0, 1) := by decide +kernel
theorem dDecreePool_isDeliverable_10 : decode cDecreePool_isDeliverable 10 = .ok (.getfield 13, 3) := by decide +kernel
theorem dDecreePool_isDeliverable_13 : decode cDecreePool_isDeliverable 13 = .ok (.if_icmp .ge 11, 3) := by decide +kernel
theorem dDecreePool_isDeliverable_16 : decode cDecreePool_isDeliverable 16 = .ok (.aload_n 0, 1) := by decide +kernel
theorem dDecreePool_isDeliverable_17 : decode cDecreePool_isDeliverable 17 = .ok (.iload_n 1, 1) := by decide +kernel
theorem dDecreePool_isDeliverable_18 : decode cDecreePool_isDeliverable 18 = .ok (.invokevirtual 168, 3) := by decide +kernel
theorem dDecreePool_isDeliverable_21 : decode cDecreePool_isDeliverable 21 = .ok (.ifCond .ne 7, 3) := by decide +kernel
theorem dDecreePool_isDeliverable_24 : decode cDecreePool_isDeliverable 24 = .ok (.iconst 1, 1) := by decide +kernel
theorem dDecreePool_isDeliverable_25 : decode cDecreePool_isDeliverable 25 = .ok (.goto 4, 3) := by decide +kernel
theorem dDecreePool_isDeliverable_28 : decode cDecreePool_isDeliverable 28 = .ok (.iconst 0, 1) := by decide +kernel
theorem dDecreePool_isDeliverable_29 : decode cDecreePool_isDeliverable 29 = .ok (.ireturn, 1) := by decide +kernel
set_option maxRecDepth 100000 in
set_option maxHeartbeats 4000000 in
theorem c_isDeliverable (l : Launch) (D : va_G) (cI cZ : ClassId) (q : Nat → Nat) (n : Nat) (S : Nat) (P : Nat) (x : St) (j : Nat) (hn1 : 1 ≤ n) (hn5 : n ≤ 5) (hS1 : 1 ≤ S) (hS4 : S ≤ 4) (hP5 : 5 ≤ P) (hP64 : P ≤ 64) (hj : j < P) (hV : vmsg n S (x.1 0 j 0) (x.1 0 j 1) (x.1 0 j 2) (x.1 0 j 3) (x.1 0 j 5)) (hI : Ibit x) : MI l D [(cI, .int), (cZ, .boolean)] yDecreePool_isDeliverable wsDecreePool_isDeliverable ({ frames := 3, cells := 0, slots := 0, locals := 69 }) [.ref (q 0), .int (nI j)] (wX q cI n S P x) (fun r w => (r = nI 1 ∧ (¬ sBlk n P x j) ∧ w = (wX q cI n S P x)) ∨ (r = nI 0 ∧ (sBlk n P x j) ∧ w = (wX q cI n S P x))) := by
  intro sz
  refine Met.ofW (cc := cDecreePool_isDeliverable) (maxL := 2) (ret := (Option.some .boolean)) (by decide) rfl ?_
  intro p e s m args below meth c s₁ B hml hv
  obtain ⟨rfl, hsz, hP, hK, hD0, hZ⟩ := hv
  have hx := B.exec
  have hb := B.bytes
  have hr := B.returns
  have hts := atoms_spec (ws := wsDecreePool_isDeliverable) B.pre
  have hown : s.vm.findClass RDecreePool = some m.cls := findClass_of_methodNamed B.named
  have hlocks := B.notSynchronized
  subst hsz
  have hD := hD0.self (sz := s.heap.size)
  generalize hAe : va_A (wX q cI n S P x) s.heap.size = A at hD ⊢
  have hA : ∀ q : Nat, s.heap.size ≤ q → A q := fun q h => by rw [← hAe]; exact Or.inr h
  have hS : va_S A s.heap s.heap [] := va_S.rf
  have hP : va_P D vwCl (wX q cI n S P x) s.heap := hP
  have hl := lv_entry ([.ref (q 0), .int (nI j)]) (n := 2) (Nat.le_of_ble_eq_true rfl)
  rw [lg_entry_eq]
  generalize (lg_sl ([.ref (q 0), .int (nI j)]) ++ List.replicate (2 - (lg_sl ([.ref (q 0), .int (nI j)])).length) Slot.unset).toArray = ls at hl ⊢
  have hl : lv_has ls 2 [(0, .ref (q 0)), (1, .int (nI j))] := hl
  refine lv_aload_n hx hb dDecreePool_isDeliverable_0 rfl (lv_at hl 0 rfl) ?_
  refine va_get (D := D) (ci := 0) (v := .ref (q 1)) (C := RDecreePool) (T := TDecreePool) (N := 9) hx hb hts (fun w h => mc (uDecreePool_in w h)) hown hK hP 0 rfl rfl 2 (by decide) (hts _ (mc wd107)) (fun _ h9 => h9) rfl dDecreePool_isDeliverable_1 ?_
  have hPc := hP.sub (ws' := (wPo q cI P (x.1 0) (cntx P x))) [1, 2] rfl
  have hDc := hD.sub (ws' := (wPo q cI P (x.1 0) (cntx P x))) [1, 2] (by decide) rfl
  refine kx_i (va_runV (As := []) (rest := []) ⟨hx, hb, hml, hown, hts⟩ ((c_emptyPlaces l D cI cZ q P (x.1 0) (cntx P x) (cnt_le _ _)) s.heap.size) (cwV 0 hts (gV wd161 wd162 wd163 wd2 wd164) rfl rfl rfl (by decide +kernel) ⟨Nat.le_of_ble_eq_true rfl, Nat.le_of_ble_eq_true rfl⟩) ⟨fb_PW, va_recv (q0 := 0) (ci := 1) hK hPc rfl rfl, pre_PW hK hPc hDc hZ⟩ rfl rfl hl.1 rfl (lv_room (Nat.le_of_ble_eq_true rfl)) dDecreePool_isDeliverable_4 ⟨Nat.zero_le _, Nat.zero_le _⟩) hP hD hS hA [1, 2] [0, 3, 4, 5, 6, 7, 8, 9, 10, 11, 12, 13, 14, 15] rfl rfl (by decide) (by decide) (fun r w1 H locs hw hP hD hS => ?_)
  obtain ⟨rfl, rfl⟩ := hw
  have hP : va_P D vwCl (wX q cI n S P x) H := hP.sub [0, 14, 15, 1, 2, 3, 4, 5, 6, 7, 8, 9, 10, 11, 12, 13] rfl
  have hD : va_D A (wX q cI n S P x) := hD.sub [0, 14, 15, 1, 2, 3, 4, 5, 6, 7, 8, 9, 10, 11, 12, 13] (by decide) rfl
  refine lv_iconst (v := nI 1) hx hb dDecreePool_isDeliverable_7 (by decide) ?_
  refine lv_iadd hx hb dDecreePool_isDeliverable_8 ?_
  refine lv_topi (nm_r (nI_add _ _) ?_)
  refine lv_aload_n hx hb dDecreePool_isDeliverable_9 rfl (lv_at hl 0 rfl) ?_
  refine va_get (D := D) (ci := 0) (v := .int (nI n)) (C := RDecreePool) (T := TDecreePool) (N := 9) hx hb hts (fun w h => mc (uDecreePool_in w h)) hown hK hP 0 rfl rfl 0 (by decide) (hts _ (mc wd105)) (fun _ h9 => h9) rfl dDecreePool_isDeliverable_10 ?_
  refine lv_icmp_ge (tgt := 24) hx hb dDecreePool_isDeliverable_13 (by decide) (fun c13 => ?_) (fun c13 => ?_)
  · refine lv_iconst (v := nI 1) hx hb dDecreePool_isDeliverable_24 (by decide) ?_
    refine lv_goto (tgt := 29) hx hb dDecreePool_isDeliverable_25 (by decide) ?_
    exact W.zret (v := nI 1) (ty := .boolean) hx hb hr (by decide) (fun t9 ht9 hW9 => ⟨⟨nI 1, (wX q cI n S P x), rfl, Or.inl ⟨rfl, fun h => absurd c13 (nI_ge h.2.1 (by omega)), rfl⟩, by rw [ht9]; exact hP, va_K.moved hW9.alike hK, hD⟩, hS.F ht9⟩) hS.2.2 dDecreePool_isDeliverable_29
  · have hlt : P - cntx P x + 1 < n := Nat.lt_of_not_le (fun q => c13 (nI_le q (by omega)))
    refine lv_aload_n hx hb dDecreePool_isDeliverable_16 rfl (lv_at hl 0 rfl) ?_
    refine lv_iload_n hx hb dDecreePool_isDeliverable_17 rfl (lv_at hl 1 rfl) ?_
    have hPc := hP.sub (ws' := (wX q cI n S P x)) [0, 1, 2, 3, 4, 5, 6, 7, 8, 9, 10, 11, 12, 13, 14, 15] rfl
    have hDc := hD.sub (ws' := (wX q cI n S P x)) [0, 1, 2, 3, 4, 5, 6, 7, 8, 9, 10, 11, 12, 13, 14, 15] (by decide) rfl
    refine kx_i (va_runV (As := [.int (nI j)]) (rest := []) ⟨hx, hb, hml, hown, hts⟩ ((c_isAnsweredToAll l D cI cZ q n S P x j (hn1) (hn5) (hS1) (hS4) (hP5) (hP64) (hj) (hV) (hI)) H.size) (cwV 1 hts (gV wd198 wd200 sl_DecreePool_isAnsweredToAll wd1 wd201) rfl rfl rfl (by decide +kernel) ⟨Nat.le_of_ble_eq_true rfl, Nat.le_of_ble_eq_true rfl⟩) ⟨fb_PW, va_recv (q0 := 0) (ci := 0) hK hPc rfl rfl, pre_PW hK hPc hDc hZ⟩ rfl rfl hl.1 rfl (lv_room (Nat.le_of_ble_eq_true rfl)) dDecreePool_isDeliverable_18 ⟨Nat.zero_le _, Nat.zero_le _⟩) hP hD hS hA [0, 1, 2, 3, 4, 5, 6, 7, 8, 9, 10, 11, 12, 13, 14, 15] [] rfl rfl (by decide) (by decide) (fun r w1 H locs hw hP hD hS => ?_)
    rcases hw with ⟨rfl, h18, rfl⟩ | ⟨rfl, h18, rfl⟩
    · have hP : va_P D vwCl (wX q cI n S P x) H := hP
      have hD : va_D A (wX q cI n S P x) := hD
      refine lv_if_ne (tgt := 28) hx hb dDecreePool_isDeliverable_21 (by decide) (fun _ => ?_) (fun h9 => absurd h9 (by decide))
      refine lv_iconst (v := nI 0) hx hb dDecreePool_isDeliverable_28 (by decide) ?_
      exact W.zret (v := nI 0) (ty := .boolean) hx hb hr (by decide) (fun t9 ht9 hW9 => ⟨⟨nI 0, (wX q cI n S P x), rfl, Or.inr ⟨rfl, ⟨h18.1, hlt, h18.2⟩, rfl⟩, by rw [ht9]; exact hP, va_K.moved hW9.alike hK, hD⟩, hS.F ht9⟩) hS.2.2 dDecreePool_isDeliverable_29
    · have hP : va_P D vwCl (wX q cI n S P x) H := hP
      have hD : va_D A (wX q cI n S P x) := hD
      refine lv_if_ne (tgt := 28) hx hb dDecreePool_isDeliverable_21 (by decide) (fun h9 => absurd (by decide) h9) (fun _ => ?_)
      refine lv_iconst (v := nI 1) hx hb dDecreePool_isDeliverable_24 (by decide) ?_
      refine lv_goto (tgt := 29) hx hb dDecreePool_isDeliverable_25 (by decide) ?_
      exact W.zret (v := nI 1) (ty := .boolean) hx hb hr (by decide) (fun t9 ht9 hW9 => ⟨⟨nI 1, (wX q cI n S P x), rfl, Or.inl ⟨rfl, fun h => h18 ⟨h.1, h.2.2⟩, rfl⟩, by rw [ht9]; exact hP, va_K.moved hW9.alike hK, hD⟩, hS.F ht9⟩) hS.2.2 dDecreePool_isDeliverable_29
theorem dDecreePool_leastDeliverable_0 : decode cDecreePool_leastDeliverable 0 = .ok (.iconst 0, 1) := by decide +kernel
theorem dDecreePool_leastDeliverable_1 : decode cDecreePool_leastDeliverable 1 = .ok (.istore_n 1, 1) := by decide +kernel
theorem dDecreePool_leastDeliverable_2 : decode cDecreePool_leastDeliverable 2 = .ok (.iload_n 1, 1) := by decide +kernel
theorem dDecreePool_leastDeliverable_3 : decode cDecreePool_leastDeliverable 3 = .ok (.aload_n 0, 1) := by decide +kernel
theorem dDecreePool_leastDeliverable_4 : decode cDecreePool_leastDeliverable 4 = .ok (.getfield 25, 3) := by decide +kernel
theorem dDecreePool_leastDeliverable_7 : decode cDecreePool_leastDeliverable 7 = .ok (.invokevirtual 161, 3) := by decide +kernel
theorem dDecreePool_leastDeliverable_10 : decode cDecreePool_leastDeliverable 10 = .ok (.if_icmp .ge 30, 3) := by decide +kernel
theorem dDecreePool_leastDeliverable_13 : decode cDecreePool_leastDeliverable 13 = .ok (.aload_n 0, 1) := by decide +kernel
theorem dDecreePool_leastDeliverable_14 : decode cDecreePool_leastDeliverable 14 = .ok (.getfield 25, 3) := by decide +kernel
theorem dDecreePool_leastDeliverable_17 : decode cDecreePool_leastDeliverable 17 = .ok (.iload_n 1, 1) := by decide +kernel
theorem dDecreePool_leastDeliverable_18 : decode cDecreePool_leastDeliverable 18 = .ok (.invokevirtual 89, 3) := by decide +kernel
theorem dDecreePool_leastDeliverable_21 : decode cDecreePool_leastDeliverable 21 = .ok (.ifCond .eq 13, 3) := by decide +kernel
theorem dDecreePool_leastDeliverable_24 : decode cDecreePool_leastDeliverable 24 = .ok (.aload_n 0, 1) := by decide +kernel
theorem dDecreePool_leastDeliverable_25 : decode cDecreePool_leastDeliverable 25 = .ok (.iload_n 1, 1) := by decide +kernel
theorem dDecreePool_leastDeliverable_26 : decode cDecreePool_leastDeliverable 26 = .ok (.invokevirtual 92, 3) := by decide +kernel
theorem dDecreePool_leastDeliverable_29 : decode cDecreePool_leastDeliverable 29 = .ok (.ifCond .eq 5, 3) := by decide +kernel
theorem dDecreePool_leastDeliverable_32 : decode cDecreePool_leastDeliverable 32 = .ok (.iload_n 1, 1) := by decide +kernel
theorem dDecreePool_leastDeliverable_33 : decode cDecreePool_leastDeliverable 33 = .ok (.ireturn, 1) := by decide +kernel
theorem dDecreePool_leastDeliverable_34 : decode cDecreePool_leastDeliverable 34 = .ok (.iinc 1  1, 3) := by decide +kernel
theorem dDecreePool_leastDeliverable_37 : decode cDecreePool_leastDeliverable 37 = .ok (.goto (-35), 3) := by decide +kernel
theorem dDecreePool_leastDeliverable_40 : decode cDecreePool_leastDeliverable 40 = .ok (.iconst (-1), 1) := by decide +kernel
theorem dDecreePool_leastDeliverable_41 : decode cDecreePool_leastDeliverable 41 = .ok (.ireturn, 1) := by decide +kernel
set_option maxRecDepth 100000 in
set_option maxHeartbeats 4000000 in
theorem c_leastDeliverable (l : Launch) (D : va_G) (cI cZ : ClassId) (q : Nat → Nat) (n : Nat) (S : Nat) (P : Nat) (x : St) (hn1 : 1 ≤ n) (hn5 : n ≤ 5) (hS1 : 1 ≤ S) (hS4 : S ≤ 4) (hP5 : 5 ≤ P) (hP64 : P ≤ 64) (hM : Imsg n S x) (hI : Ibit x) : MI l D [(cI, .int), (cZ, .boolean)] yDecreePool_leastDeliverable wsDecreePool_leastDeliverable ({ frames := 4, cells := 0, slots := 0, locals := 90 }) [.ref (q 0)] (wX q cI n S P x) (fun r w => (r = nI (ldv n P x P 0) ∧ (ldv n P x P 0 < P) ∧ w = (wX q cI n S P x)) ∨ (r = -1 ∧ (ldv n P x P 0 = P) ∧ w = (wX q cI n S P x))) := by
  intro sz
  refine Met.ofW (cc := cDecreePool_leastDeliverable) (maxL := 2) (ret := (Option.some .int)) (by decide) rfl ?_
  intro p e s m args below meth c s₁ B hml hv
  obtain ⟨rfl, hsz, hP, hK, hD0, hZ⟩ := hv
  have hx := B.exec
  have hb := B.bytes
  have hr := B.returns
  have hts := atoms_spec (ws := wsDecreePool_leastDeliverable) B.pre
  have hown : s.vm.findClass RDecreePool = some m.cls := findClass_of_methodNamed B.named
  have hlocks := B.notSynchronized
  subst hsz
  have hD := hD0.self (sz := s.heap.size)
  generalize hAe : va_A (wX q cI n S P x) s.heap.size = A at hD ⊢
  have hA : ∀ q : Nat, s.heap.size ≤ q → A q := fun q h => by rw [← hAe]; exact Or.inr h
  have hS : va_S A s.heap s.heap [] := va_S.rf
  have hP : va_P D vwCl (wX q cI n S P x) s.heap := hP
  have hl := lv_entry ([.ref (q 0)]) (n := 2) (Nat.le_of_ble_eq_true rfl)
  rw [lg_entry_eq]
  generalize (lg_sl ([.ref (q 0)]) ++ List.replicate (2 - (lg_sl ([.ref (q 0)])).length) Slot.unset).toArray = ls at hl ⊢
  have hl : lv_has ls 2 [(0, .ref (q 0))] := hl
  refine lv_iconst (v := nI 0) hx hb dDecreePool_leastDeliverable_0 (by decide) ?_
  refine lv_istore_n hx hb dDecreePool_leastDeliverable_1 rfl hl (by decide) rfl (fun ls hl => ?_)
  have hl : lv_has ls 2 [(1, .int (nI 0)), (0, .ref (q 0))] := hl
  have loop2 : ∀ (d2 i : Nat) (ls : Array Slot) (H : Heap) (locs : List Loc), i + d2 = P → ldv n P x d2 i = ldv n P x P 0 → lv_has ls 2 [(1, .int (nI i)), (0, .ref (q 0))] → va_P D vwCl (wX q cI n S P x) H → va_D A (wX q cI n S P x) → va_S A s.heap H locs → W p l e (headSpec wsDecreePool_leastDeliverable { frames := 4, cells := 0, slots := 0, locals := 90 }).room s m [.ref (q 0)].toArray below meth c H locs 0 0 (MQ below (va_Qi (fun r w => (r = nI (ldv n P x P 0) ∧ (ldv n P x P 0 < P) ∧ w = (wX q cI n S P x)) ∨ (r = -1 ∧ (ldv n P x P 0 = P) ∧ w = (wX q cI n S P x))) (QW D [(cI, .int), (cZ, .boolean)] A) A) [.ref (q 0)].toArray s 0 0 A) (F0 m 2 ls []) := by
    intro d2
    induction d2 with
    | zero =>
      intro i ls H locs hid2 hG hl hP hD hS
      refine lv_iload_n hx hb dDecreePool_leastDeliverable_2 rfl (lv_at hl 0 rfl) ?_
      refine lv_aload_n hx hb dDecreePool_leastDeliverable_3 rfl (lv_at hl 1 rfl) ?_
      refine va_get (D := D) (ci := 0) (v := .ref (q 1)) (C := RDecreePool) (T := TDecreePool) (N := 9) hx hb hts (fun w h => mc (uDecreePool_in w h)) hown hK hP 0 rfl rfl 2 (by decide) (hts _ (mc wd107)) (fun _ h9 => h9) rfl dDecreePool_leastDeliverable_4 ?_
      have hPc := hP.sub (ws' := (wPo q cI P (x.1 0) (cntx P x))) [1, 2] rfl
      have hDc := hD.sub (ws' := (wPo q cI P (x.1 0) (cntx P x))) [1, 2] (by decide) rfl
      refine kx_i (va_runV (As := []) (rest := [.int (nI i)]) ⟨hx, hb, hml, hown, hts⟩ ((c_places l D cI cZ q P (x.1 0) (cntx P x)) H.size) (cwV 0 hts (gV wd287 wd288 wd289 wd2 wd290) rfl rfl rfl (by decide +kernel) ⟨Nat.le_of_ble_eq_true rfl, Nat.le_of_ble_eq_true rfl⟩) ⟨fb_PW, va_recv (q0 := 0) (ci := 1) hK hPc rfl rfl, pre_PW hK hPc hDc hZ⟩ rfl rfl hl.1 rfl (lv_room (Nat.le_of_ble_eq_true rfl)) dDecreePool_leastDeliverable_7 ⟨Nat.zero_le _, Nat.zero_le _⟩) hP hD hS hA [1, 2] [0, 3, 4, 5, 6, 7, 8, 9, 10, 11, 12, 13, 14, 15] rfl rfl (by decide) (by decide) (fun r w1 H locs hw hP hD hS => ?_)
      obtain ⟨rfl, rfl⟩ := hw
      have hP : va_P D vwCl (wX q cI n S P x) H := hP.sub [0, 14, 15, 1, 2, 3, 4, 5, 6, 7, 8, 9, 10, 11, 12, 13] rfl
      have hD : va_D A (wX q cI n S P x) := hD.sub [0, 14, 15, 1, 2, 3, 4, 5, 6, 7, 8, 9, 10, 11, 12, 13] (by decide) rfl
      refine lv_icmp_ge (tgt := 40) hx hb dDecreePool_leastDeliverable_10 (by decide) (fun _ => ?_) (fun h9 => absurd (nI_le (by omega) (by omega)) h9)
      refine lv_iconst (v := (-1)) hx hb dDecreePool_leastDeliverable_40 (by decide) ?_
      exact W.iret (v := (-1)) hx hb hr (fun t9 ht9 hW9 => ⟨⟨(-1), (wX q cI n S P x), rfl, Or.inr ⟨rfl, (hG.symm.trans (show i = P by omega)), rfl⟩, by rw [ht9]; exact hP, va_K.moved hW9.alike hK, hD⟩, hS.F ht9⟩) hS.2.2 dDecreePool_leastDeliverable_41
    | succ d2 ih2 =>
      intro i ls H locs hid2 hG hl hP hD hS
      refine lv_iload_n hx hb dDecreePool_leastDeliverable_2 rfl (lv_at hl 0 rfl) ?_
      refine lv_aload_n hx hb dDecreePool_leastDeliverable_3 rfl (lv_at hl 1 rfl) ?_
      refine va_get (D := D) (ci := 0) (v := .ref (q 1)) (C := RDecreePool) (T := TDecreePool) (N := 9) hx hb hts (fun w h => mc (uDecreePool_in w h)) hown hK hP 0 rfl rfl 2 (by decide) (hts _ (mc wd107)) (fun _ h9 => h9) rfl dDecreePool_leastDeliverable_4 ?_
      have hPc := hP.sub (ws' := (wPo q cI P (x.1 0) (cntx P x))) [1, 2] rfl
      have hDc := hD.sub (ws' := (wPo q cI P (x.1 0) (cntx P x))) [1, 2] (by decide) rfl
      refine kx_i (va_runV (As := []) (rest := [.int (nI i)]) ⟨hx, hb, hml, hown, hts⟩ ((c_places l D cI cZ q P (x.1 0) (cntx P x)) H.size) (cwV 0 hts (gV wd287 wd288 wd289 wd2 wd290) rfl rfl rfl (by decide +kernel) ⟨Nat.le_of_ble_eq_true rfl, Nat.le_of_ble_eq_true rfl⟩) ⟨fb_PW, va_recv (q0 := 0) (ci := 1) hK hPc rfl rfl, pre_PW hK hPc hDc hZ⟩ rfl rfl hl.1 rfl (lv_room (Nat.le_of_ble_eq_true rfl)) dDecreePool_leastDeliverable_7 ⟨Nat.zero_le _, Nat.zero_le _⟩) hP hD hS hA [1, 2] [0, 3, 4, 5, 6, 7, 8, 9, 10, 11, 12, 13, 14, 15] rfl rfl (by decide) (by decide) (fun r w1 H locs hw hP hD hS => ?_)
      obtain ⟨rfl, rfl⟩ := hw
      have hP : va_P D vwCl (wX q cI n S P x) H := hP.sub [0, 14, 15, 1, 2, 3, 4, 5, 6, 7, 8, 9, 10, 11, 12, 13] rfl
      have hD : va_D A (wX q cI n S P x) := hD.sub [0, 14, 15, 1, 2, 3, 4, 5, 6, 7, 8, 9, 10, 11, 12, 13] (by decide) rfl
      refine lv_icmp_ge (tgt := 40) hx hb dDecreePool_leastDeliverable_10 (by decide) (fun h9 => absurd h9 (nI_ge (by omega) (by omega))) (fun _ => ?_)
      refine lv_aload_n hx hb dDecreePool_leastDeliverable_13 rfl (lv_at hl 1 rfl) ?_
      refine va_get (D := D) (ci := 0) (v := .ref (q 1)) (C := RDecreePool) (T := TDecreePool) (N := 9) hx hb hts (fun w h => mc (uDecreePool_in w h)) hown hK hP 0 rfl rfl 2 (by decide) (hts _ (mc wd107)) (fun _ h9 => h9) rfl dDecreePool_leastDeliverable_14 ?_
      refine lv_iload_n hx hb dDecreePool_leastDeliverable_17 rfl (lv_at hl 0 rfl) ?_
      have hPc := hP.sub (ws' := (wPo q cI P (x.1 0) (cntx P x))) [1, 2] rfl
      have hDc := hD.sub (ws' := (wPo q cI P (x.1 0) (cntx P x))) [1, 2] (by decide) rfl
      refine kx_i (va_runV (As := [.int (nI i)]) (rest := []) ⟨hx, hb, hml, hown, hts⟩ ((c_holds l D cI cZ q P (x.1 0) (cntx P x) (nI i) (hP64) (by omega)) H.size) (cwV 1 hts (gV wd189 wd190 wd191 wd2 wd192) rfl rfl rfl (by decide +kernel) ⟨Nat.le_of_ble_eq_true rfl, Nat.le_of_ble_eq_true rfl⟩) ⟨fb_PW, va_recv (q0 := 0) (ci := 1) hK hPc rfl rfl, pre_PW hK hPc hDc hZ⟩ rfl rfl hl.1 rfl (lv_room (Nat.le_of_ble_eq_true rfl)) dDecreePool_leastDeliverable_18 ⟨Nat.zero_le _, Nat.zero_le _⟩) hP hD hS hA [1, 2] [0, 3, 4, 5, 6, 7, 8, 9, 10, 11, 12, 13, 14, 15] rfl rfl (by decide) (by decide) (fun r w1 H locs hw hP hD hS => ?_)
      rcases hw with ⟨rfl, h18, rfl⟩ | ⟨rfl, h18, rfl⟩
      · have hP : va_P D vwCl (wX q cI n S P x) H := hP.sub [0, 14, 15, 1, 2, 3, 4, 5, 6, 7, 8, 9, 10, 11, 12, 13] rfl
        have hD : va_D A (wX q cI n S P x) := hD.sub [0, 14, 15, 1, 2, 3, 4, 5, 6, 7, 8, 9, 10, 11, 12, 13] (by decide) rfl
        rw [ix_nI (show i < P by omega) (by omega)] at h18
        refine lv_if_eq (tgt := 34) hx hb dDecreePool_leastDeliverable_21 (by decide) (fun h9 => absurd h9 (by decide)) (fun _ => ?_)
        refine lv_aload_n hx hb dDecreePool_leastDeliverable_24 rfl (lv_at hl 1 rfl) ?_
        refine lv_iload_n hx hb dDecreePool_leastDeliverable_25 rfl (lv_at hl 0 rfl) ?_
        have hPc := hP.sub (ws' := (wX q cI n S P x)) [0, 1, 2, 3, 4, 5, 6, 7, 8, 9, 10, 11, 12, 13, 14, 15] rfl
        have hDc := hD.sub (ws' := (wX q cI n S P x)) [0, 1, 2, 3, 4, 5, 6, 7, 8, 9, 10, 11, 12, 13, 14, 15] (by decide) rfl
        refine kx_i (va_runV (As := [.int (nI i)]) (rest := []) ⟨hx, hb, hml, hown, hts⟩ ((c_isDeliverable l D cI cZ q n S P x i (hn1) (hn5) (hS1) (hS4) (hP5) (hP64) (by omega) (hM i h18.2) (hI)) H.size) (cwV 1 hts (gV wd194 wd196 sl_DecreePool_isDeliverable wd1 wd197) rfl rfl rfl (by decide +kernel) ⟨Nat.le_of_ble_eq_true rfl, Nat.le_of_ble_eq_true rfl⟩) ⟨fb_PW, va_recv (q0 := 0) (ci := 0) hK hPc rfl rfl, pre_PW hK hPc hDc hZ⟩ rfl rfl hl.1 rfl (lv_room (Nat.le_of_ble_eq_true rfl)) dDecreePool_leastDeliverable_26 ⟨Nat.zero_le _, Nat.zero_le _⟩) hP hD hS hA [0, 1, 2, 3, 4, 5, 6, 7, 8, 9, 10, 11, 12, 13, 14, 15] [] rfl rfl (by decide) (by decide) (fun r w1 H locs hw hP hD hS => ?_)
        rcases hw with ⟨rfl, h26, rfl⟩ | ⟨rfl, h26, rfl⟩
        · have hP : va_P D vwCl (wX q cI n S P x) H := hP
          have hD : va_D A (wX q cI n S P x) := hD
          refine lv_if_eq (tgt := 34) hx hb dDecreePool_leastDeliverable_29 (by decide) (fun h9 => absurd h9 (by decide)) (fun _ => ?_)
          refine lv_iload_n hx hb dDecreePool_leastDeliverable_32 rfl (lv_at hl 0 rfl) ?_
          have hGi : i = ldv n P x P 0 := by rw [← hG]; exact (ldv_s ⟨h18.2, h26⟩).symm
          rw [hGi]
          exact W.iret (v := nI (ldv n P x P 0)) hx hb hr (fun t9 ht9 hW9 => ⟨⟨nI (ldv n P x P 0), (wX q cI n S P x), rfl, Or.inl ⟨rfl, (by omega), rfl⟩, by rw [ht9]; exact hP, va_K.moved hW9.alike hK, hD⟩, hS.F ht9⟩) hS.2.2 dDecreePool_leastDeliverable_33
        · have hP : va_P D vwCl (wX q cI n S P x) H := hP
          have hD : va_D A (wX q cI n S P x) := hD
          have hno : ¬ (x.1 0 i 0 ≠ 0 ∧ ¬ sBlk n P x i) := fun q => q.2 h26
          refine lv_if_eq (tgt := 34) hx hb dDecreePool_leastDeliverable_29 (by decide) (fun _ => ?_) (fun h9 => absurd (by decide) h9)
          refine lv_iinc (k := 0) (v := nI (i + 1)) hx hb dDecreePool_leastDeliverable_34 hl rfl ((nI_succ _).symm) (by decide) rfl (fun ls hl => ?_)
          have hl : lv_has ls 2 [(1, .int (nI (i + 1))), (0, .ref (q 0))] := hl
          refine lv_goto (tgt := 2) hx hb dDecreePool_leastDeliverable_37 (by decide) ?_
          exact ih2 (i + 1) ls H locs (by omega) (by rw [← hG]; exact (ldv_n hno).symm) hl hP hD hS
      · have hP : va_P D vwCl (wX q cI n S P x) H := hP.sub [0, 14, 15, 1, 2, 3, 4, 5, 6, 7, 8, 9, 10, 11, 12, 13] rfl
        have hD : va_D A (wX q cI n S P x) := hD.sub [0, 14, 15, 1, 2, 3, 4, 5, 6, 7, 8, 9, 10, 11, 12, 13] (by decide) rfl
        have hno : ¬ (x.1 0 i 0 ≠ 0 ∧ ¬ sBlk n P x i) := fun q => h18 ⟨okN_nI (by omega) (by omega), by rw [ix_nI (show i < P by omega) (by omega)]; exact q.1⟩
        refine lv_if_eq (tgt := 34) hx hb dDecreePool_leastDeliverable_21 (by decide) (fun _ => ?_) (fun h9 => absurd (by decide) h9)
        refine lv_iinc (k := 0) (v := nI (i + 1)) hx hb dDecreePool_leastDeliverable_34 hl rfl ((nI_succ _).symm) (by decide) rfl (fun ls hl => ?_)
        have hl : lv_has ls 2 [(1, .int (nI (i + 1))), (0, .ref (q 0))] := hl
        refine lv_goto (tgt := 2) hx hb dDecreePool_leastDeliverable_37 (by decide) ?_
        exact ih2 (i + 1) ls H locs (by omega) (by rw [← hG]; exact (ldv_n hno).symm) hl hP hD hS
  exact loop2 P 0 ls s.heap [] (by omega) (rfl) hl hP hD hS
end
section
theorem dDecreePool_handOver_0 : decode cDecreePool_handOver 0 = .ok (.aload_n 0, 1) := by decide +kernel
theorem dDecreePool_handOver_1 : decode cDecreePool_handOver 1 = .ok (.getfield 25, 3) := by decide +kernel
theorem dDecreePool_handOver_4 : decode cDecreePool_handOver 4 = .ok (.iload_n 1, 1) := by decide +kernel
theorem dDecreePool_handOver_5 : decode cDecreePool_handOver 5 = .ok (.iconst 0, 1) := by decide +kernel
theorem dDecreePool_handOver_6 : decode cDecreePool_handOver 6 = .ok (.invokevirtual 101, 3) := by decide +kernel
theorem dDecreePool_handOver_9 : decode cDecreePool_handOver 9 = .ok (.istore_n 2, 1) := by decide +kernel
theorem dDecreePool_handOver_10 : decode cDecreePool_handOver 10 = .ok (.aload_n 0, 1) := by decide +kernel
theorem dDecreePool_handOver_11 : decode cDecreePool_handOver 11 = .ok (.getfield 25, 3) := by decide +kernel
theorem dDecreePool_handOver_14 : decode cDecreePool_handOver 14 = .ok (.iload_n 1, 1) := by decide +kernel
theorem dDecreePool_handOver_15 : decode cDecreePool_handOver 15 = .ok (.iconst 1, 1) := by decide +kernel
theorem dDecreePool_handOver_16 : decode cDecreePool_handOver 16 = .ok (.invokevirtual 101, 3) := by decide +kernel
theorem dDecreePool_handOver_19 : decode cDecreePool_handOver 19 = .ok (.istore_n 3, 1) := by decide +kernel
theorem dDecreePool_handOver_20 : decode cDecreePool_handOver 20 = .ok (.aload_n 0, 1) := by decide +kernel
theorem dDecreePool_handOver_21 : decode cDecreePool_handOver 21 = .ok (.getfield 25, 3) := by decide +kernel
theorem dDecreePool_handOver_24 : decode cDecreePool_handOver 24 = .ok (.iload_n 1, 1) := by decide +kernel
theorem dDecreePool_handOver_25 : decode cDecreePool_handOver 25 = .ok (.iconst 2, 1) := by decide +kernel
theorem dDecreePool_handOver_26 : decode cDecreePool_handOver 26 = .ok (.invokevirtual 101, 3) := by decide +kernel
theorem dDecreePool_handOver_29 : decode cDecreePool_handOver 29 = .ok (.istore 4, 2) := by decide +kernel
theorem dDecreePool_handOver_31 : decode cDecreePool_handOver 31 = .ok (.aload_n 0, 1) := by decide +kernel
theorem dDecreePool_handOver_32 : decode cDecreePool_handOver 32 = .ok (.getfield 25, 3) := by decide +kernel
theorem dDecreePool_handOver_35 : decode cDecreePool_handOver 35 = .ok (.iload_n 1, 1) := by decide +kernel
theorem dDecreePool_handOver_36 : decode cDecreePool_handOver 36 = .ok (.iconst 3, 1) := by decide +kernel
theorem dDecreePool_handOver_37 : decode cDecreePool_handOver 37 = .ok (.invokevirtual 101, 3) := by decide +kernel
theorem dDecreePool_handOver_40 : decode cDecreePool_handOver 40 = .ok (.istore 5, 2) := by decide +kernel
theorem dDecreePool_handOver_42 : decode cDecreePool_handOver 42 = .ok (.aload_n 0, 1) := by decide +kernel
theorem dDecreePool_handOver_43 : decode cDecreePool_handOver 43 = .ok (.getfield 25, 3) := by decide +kernel
theorem dDecreePool_handOver_46 : decode cDecreePool_handOver 46 = .ok (.iload_n 1, 1) := by decide +kernel
theorem dDecreePool_handOver_47 : decode cDecreePool_handOver 47 = .ok (.iconst 4, 1) := by decide +kernel
theorem dDecreePool_handOver_48 : decode cDecreePool_handOver 48 = .ok (.invokevirtual 101, 3) := by decide +kernel
theorem dDecreePool_handOver_51 : decode cDecreePool_handOver 51 = .ok (.istore 6, 2) := by decide +kernel
theorem dDecreePool_handOver_53 : decode cDecreePool_handOver 53 = .ok (.aload_n 0, 1) := by decide +kernel
theorem dDecreePool_handOver_54 : decode cDecreePool_handOver 54 = .ok (.getfield 25, 3) := by decide +kernel
theorem dDecreePool_handOver_57 : decode cDecreePool_handOver 57 = .ok (.iload_n 1, 1) := by decide +kernel
theorem dDecreePool_handOver_58 : decode cDecreePool_handOver 58 = .ok (.iconst 5, 1) := by decide +kernel
theorem dDecreePool_handOver_59 : decode cDecreePool_handOver 59 = .ok (.invokevirtual 101, 3) := by decide +kernel
theorem dDecreePool_handOver_62 : decode cDecreePool_handOver 62 = .ok (.istore 7, 2) := by decide +kernel
theorem dDecreePool_handOver_64 : decode cDecreePool_handOver 64 = .ok (.aload_n 0, 1) := by decide +kernel
theorem dDecreePool_handOver_65 : decode cDecreePool_handOver 65 = .ok (.getfield 25, 3) := by decide +kernel
theorem dDecreePool_handOver_68 : decode cDecreePool_handOver 68 = .ok (.iload_n 1, 1) := by decide +kernel
theorem dDecreePool_handOver_69 : decode cDecreePool_handOver 69 = .ok (.bipush 6, 2) := by decide +kernel
theorem dDecreePool_handOver_71 : decode cDecreePool_handOver 71 = .ok (.invokevirtual 101, 3) := by decide +kernel
theorem dDecreePool_handOver_74 : decode cDecreePool_handOver 74 = .ok (.istore 8, 2) := by decide +kernel
theorem dDecreePool_handOver_76 : decode cDecreePool_handOver 76 = .ok (.aload_n 0, 1) := by decide +kernel
theorem dDecreePool_handOver_77 : decode cDecreePool_handOver 77 = .ok (.getfield 25, 3) := by decide +kernel
theorem dDecreePool_handOver_80 : decode cDecreePool_handOver 80 = .ok (.iload_n 1, 1) := by decide +kernel
theorem dDecreePool_handOver_81 : decode cDecreePool_handOver 81 = .ok (.invokevirtual 104, 3) := by decide +kernel
theorem dDecreePool_handOver_84 : decode cDecreePool_handOver 84 = .ok (.aload_n 0, 1) := by decide +kernel
theorem dDecreePool_handOver_85 : decode cDecreePool_handOver 85 = .ok (.dup, 1) := by decide +kernel
theorem dDecreePool_handOver_86 : decode cDecreePool_handOver 86 = .ok (.getfield 55, 3) := by decide +kernel
theorem dDecreePool_handOver_89 : decode cDecreePool_handOver 89 = .ok (.iconst 1, 1) := by decide +kernel
theorem dDecreePool_handOver_90 : decode cDecreePool_handOver 90 = .ok (.iadd, 1) := by decide +kernel
theorem dDecreePool_handOver_91 : decode cDecreePool_handOver 91 = .ok (.putfield 55, 3) := by decide +kernel
theorem dDecreePool_handOver_94 : decode cDecreePool_handOver 94 = .ok (.aload_n 0, 1) := by decide +kernel
theorem dDecreePool_handOver_95 : decode cDecreePool_handOver 95 = .ok (.iload 4, 2) := by decide +kernel
theorem dDecreePool_handOver_97 : decode cDecreePool_handOver 97 = .ok (.invokevirtual 65, 3) := by decide +kernel
theorem dDecreePool_handOver_100 : decode cDecreePool_handOver 100 = .ok (.ifCond .ne 15, 3) := by decide +kernel
theorem dDecreePool_handOver_103 : decode cDecreePool_handOver 103 = .ok (.aload_n 0, 1) := by decide +kernel
theorem dDecreePool_handOver_104 : decode cDecreePool_handOver 104 = .ok (.dup, 1) := by decide +kernel
theorem dDecreePool_handOver_105 : decode cDecreePool_handOver 105 = .ok (.getfield 58, 3) := by decide +kernel
theorem dDecreePool_handOver_108 : decode cDecreePool_handOver 108 = .ok (.iconst 1, 1) := by decide +kernel
theorem dDecreePool_handOver_109 : decode cDecreePool_handOver 109 = .ok (.iadd, 1) := by decide +kernel
theorem dDecreePool_handOver_110 : decode cDecreePool_handOver 110 = .ok (.putfield 58, 3) := by decide +kernel
theorem dDecreePool_handOver_113 : decode cDecreePool_handOver 113 = .ok (.iconst 0, 1) := by decide +kernel
theorem dDecreePool_handOver_114 : decode cDecreePool_handOver 114 = .ok (.ireturn, 1) := by decide +kernel
theorem dDecreePool_handOver_115 : decode cDecreePool_handOver 115 = .ok (.aload_n 0, 1) := by decide +kernel
theorem dDecreePool_handOver_116 : decode cDecreePool_handOver 116 = .ok (.iload 4, 2) := by decide +kernel
theorem dDecreePool_handOver_118 : decode cDecreePool_handOver 118 = .ok (.iload 5, 2) := by decide +kernel
theorem dDecreePool_handOver_120 : decode cDecreePool_handOver 120 = .ok (.invokevirtual 69, 3) := by decide +kernel
theorem dDecreePool_handOver_123 : decode cDecreePool_handOver 123 = .ok (.istore 9, 2) := by decide +kernel
theorem dDecreePool_handOver_125 : decode cDecreePool_handOver 125 = .ok (.iload_n 2, 1) := by decide +kernel
theorem dDecreePool_handOver_126 : decode cDecreePool_handOver 126 = .ok (.tableswitch 172 1 4 #[30, 81, 123, 155], 30) := by decide +kernel
theorem dDecreePool_handOver_156 : decode cDecreePool_handOver 156 = .ok (.aload_n 0, 1) := by decide +kernel
theorem dDecreePool_handOver_157 : decode cDecreePool_handOver 157 = .ok (.getfield 41, 3) := by decide +kernel
theorem dDecreePool_handOver_160 : decode cDecreePool_handOver 160 = .ok (.iload 9, 2) := by decide +kernel
theorem dDecreePool_handOver_162 : decode cDecreePool_handOver 162 = .ok (.iload 6, 2) := by decide +kernel
theorem dDecreePool_handOver_164 : decode cDecreePool_handOver 164 = .ok (.invokevirtual 177, 3) := by decide +kernel
theorem dDecreePool_handOver_167 : decode cDecreePool_handOver 167 = .ok (.ifCond .eq 142, 3) := by decide +kernel
theorem dDecreePool_handOver_170 : decode cDecreePool_handOver 170 = .ok (.aload_n 0, 1) := by decide +kernel
theorem dDecreePool_handOver_171 : decode cDecreePool_handOver 171 = .ok (.getfield 25, 3) := by decide +kernel
theorem dDecreePool_handOver_174 : decode cDecreePool_handOver 174 = .ok (.iconst 2, 1) := by decide +kernel
theorem dDecreePool_handOver_175 : decode cDecreePool_handOver 175 = .ok (.iload 4, 2) := by decide +kernel
theorem dDecreePool_handOver_177 : decode cDecreePool_handOver 177 = .ok (.iload_n 3, 1) := by decide +kernel
theorem dDecreePool_handOver_178 : decode cDecreePool_handOver 178 = .ok (.iload 5, 2) := by decide +kernel
theorem dDecreePool_handOver_180 : decode cDecreePool_handOver 180 = .ok (.iload 6, 2) := by decide +kernel
theorem dDecreePool_handOver_182 : decode cDecreePool_handOver 182 = .ok (.aload_n 0, 1) := by decide +kernel
theorem dDecreePool_handOver_183 : decode cDecreePool_handOver 183 = .ok (.getfield 41, 3) := by decide +kernel
theorem dDecreePool_handOver_186 : decode cDecreePool_handOver 186 = .ok (.iload 9, 2) := by decide +kernel
theorem dDecreePool_handOver_188 : decode cDecreePool_handOver 188 = .ok (.invokevirtual 131, 3) := by decide +kernel
theorem dDecreePool_handOver_191 : decode cDecreePool_handOver 191 = .ok (.aload_n 0, 1) := by decide +kernel
theorem dDecreePool_handOver_192 : decode cDecreePool_handOver 192 = .ok (.getfield 41, 3) := by decide +kernel
theorem dDecreePool_handOver_195 : decode cDecreePool_handOver 195 = .ok (.iload 9, 2) := by decide +kernel
theorem dDecreePool_handOver_197 : decode cDecreePool_handOver 197 = .ok (.invokevirtual 128, 3) := by decide +kernel
theorem dDecreePool_handOver_200 : decode cDecreePool_handOver 200 = .ok (.invokevirtual 164, 3) := by decide +kernel
theorem dDecreePool_handOver_203 : decode cDecreePool_handOver 203 = .ok (.pop, 1) := by decide +kernel
theorem dDecreePool_handOver_204 : decode cDecreePool_handOver 204 = .ok (.goto 105, 3) := by decide +kernel
theorem dDecreePool_handOver_207 : decode cDecreePool_handOver 207 = .ok (.aload_n 0, 1) := by decide +kernel
theorem dDecreePool_handOver_208 : decode cDecreePool_handOver 208 = .ok (.getfield 34, 3) := by decide +kernel
theorem dDecreePool_handOver_211 : decode cDecreePool_handOver 211 = .ok (.iload 9, 2) := by decide +kernel
theorem dDecreePool_handOver_213 : decode cDecreePool_handOver 213 = .ok (.iload_n 3, 1) := by decide +kernel
theorem dDecreePool_handOver_214 : decode cDecreePool_handOver 214 = .ok (.iload 6, 2) := by decide +kernel
theorem dDecreePool_handOver_216 : decode cDecreePool_handOver 216 = .ok (.iload 8, 2) := by decide +kernel
theorem dDecreePool_handOver_218 : decode cDecreePool_handOver 218 = .ok (.iload 7, 2) := by decide +kernel
theorem dDecreePool_handOver_220 : decode cDecreePool_handOver 220 = .ok (.invokevirtual 180, 3) := by decide +kernel
theorem dDecreePool_handOver_223 : decode cDecreePool_handOver 223 = .ok (.ifCond .eq 86, 3) := by decide +kernel
theorem dDecreePool_handOver_226 : decode cDecreePool_handOver 226 = .ok (.aload_n 0, 1) := by decide +kernel
theorem dDecreePool_handOver_227 : decode cDecreePool_handOver 227 = .ok (.iconst 3, 1) := by decide +kernel
theorem dDecreePool_handOver_228 : decode cDecreePool_handOver 228 = .ok (.iload 4, 2) := by decide +kernel
theorem dDecreePool_handOver_230 : decode cDecreePool_handOver 230 = .ok (.iload 5, 2) := by decide +kernel
theorem dDecreePool_handOver_232 : decode cDecreePool_handOver 232 = .ok (.iload 6, 2) := by decide +kernel
theorem dDecreePool_handOver_234 : decode cDecreePool_handOver 234 = .ok (.aload_n 0, 1) := by decide +kernel
theorem dDecreePool_handOver_235 : decode cDecreePool_handOver 235 = .ok (.getfield 34, 3) := by decide +kernel
theorem dDecreePool_handOver_238 : decode cDecreePool_handOver 238 = .ok (.iload 9, 2) := by decide +kernel
theorem dDecreePool_handOver_240 : decode cDecreePool_handOver 240 = .ok (.invokevirtual 143, 3) := by decide +kernel
theorem dDecreePool_handOver_243 : decode cDecreePool_handOver 243 = .ok (.invokevirtual 85, 3) := by decide +kernel
theorem dDecreePool_handOver_246 : decode cDecreePool_handOver 246 = .ok (.goto 63, 3) := by decide +kernel
theorem dDecreePool_handOver_249 : decode cDecreePool_handOver 249 = .ok (.aload_n 0, 1) := by decide +kernel
theorem dDecreePool_handOver_250 : decode cDecreePool_handOver 250 = .ok (.getfield 41, 3) := by decide +kernel
theorem dDecreePool_handOver_253 : decode cDecreePool_handOver 253 = .ok (.iload 9, 2) := by decide +kernel
theorem dDecreePool_handOver_255 : decode cDecreePool_handOver 255 = .ok (.iload 6, 2) := by decide +kernel
theorem dDecreePool_handOver_257 : decode cDecreePool_handOver 257 = .ok (.iload 7, 2) := by decide +kernel
theorem dDecreePool_handOver_259 : decode cDecreePool_handOver 259 = .ok (.invokevirtual 184, 3) := by decide +kernel
theorem dDecreePool_handOver_262 : decode cDecreePool_handOver 262 = .ok (.ifCond .eq 47, 3) := by decide +kernel
theorem dDecreePool_handOver_265 : decode cDecreePool_handOver 265 = .ok (.aload_n 0, 1) := by decide +kernel
theorem dDecreePool_handOver_266 : decode cDecreePool_handOver 266 = .ok (.iconst 4, 1) := by decide +kernel
theorem dDecreePool_handOver_267 : decode cDecreePool_handOver 267 = .ok (.iload 4, 2) := by decide +kernel
theorem dDecreePool_handOver_269 : decode cDecreePool_handOver 269 = .ok (.iload 5, 2) := by decide +kernel
theorem dDecreePool_handOver_271 : decode cDecreePool_handOver 271 = .ok (.iload 6, 2) := by decide +kernel
theorem dDecreePool_handOver_273 : decode cDecreePool_handOver 273 = .ok (.iload 7, 2) := by decide +kernel
theorem dDecreePool_handOver_275 : decode cDecreePool_handOver 275 = .ok (.invokevirtual 85, 3) := by decide +kernel
theorem dDecreePool_handOver_278 : decode cDecreePool_handOver 278 = .ok (.goto 31, 3) := by decide +kernel
theorem dDecreePool_handOver_281 : decode cDecreePool_handOver 281 = .ok (.aload_n 0, 1) := by decide +kernel
theorem dDecreePool_handOver_282 : decode cDecreePool_handOver 282 = .ok (.getfield 48, 3) := by decide +kernel
theorem dDecreePool_handOver_285 : decode cDecreePool_handOver 285 = .ok (.iload 9, 2) := by decide +kernel
theorem dDecreePool_handOver_287 : decode cDecreePool_handOver 287 = .ok (.iload_n 3, 1) := by decide +kernel
theorem dDecreePool_handOver_288 : decode cDecreePool_handOver 288 = .ok (.iload 6, 2) := by decide +kernel
theorem dDecreePool_handOver_290 : decode cDecreePool_handOver 290 = .ok (.iload 7, 2) := by decide +kernel
theorem dDecreePool_handOver_292 : decode cDecreePool_handOver 292 = .ok (.invokevirtual 187, 3) := by decide +kernel
theorem dDecreePool_handOver_295 : decode cDecreePool_handOver 295 = .ok (.goto 14, 3) := by decide +kernel
theorem dDecreePool_handOver_298 : decode cDecreePool_handOver 298 = .ok (.aload_n 0, 1) := by decide +kernel
theorem dDecreePool_handOver_299 : decode cDecreePool_handOver 299 = .ok (.getfield 48, 3) := by decide +kernel
theorem dDecreePool_handOver_302 : decode cDecreePool_handOver 302 = .ok (.iload 9, 2) := by decide +kernel
theorem dDecreePool_handOver_304 : decode cDecreePool_handOver 304 = .ok (.iload 7, 2) := by decide +kernel
theorem dDecreePool_handOver_306 : decode cDecreePool_handOver 306 = .ok (.invokevirtual 191, 3) := by decide +kernel
theorem dDecreePool_handOver_309 : decode cDecreePool_handOver 309 = .ok (.iload_n 2, 1) := by decide +kernel
theorem dDecreePool_handOver_310 : decode cDecreePool_handOver 310 = .ok (.ireturn, 1) := by decide +kernel
set_option maxRecDepth 100000 in
set_option maxHeartbeats 4000000 in
theorem c_handOver (l : Launch) (D : va_G) (cI cZ : ClassId) (q : Nat → Nat) (n : Nat) (S : Nat) (P : Nat) (x : St) (j : Nat) (hn1 : 1 ≤ n) (hn5 : n ≤ 5) (hS1 : 1 ≤ S) (hS4 : S ≤ 4) (hP5 : 5 ≤ P) (hP64 : P ≤ 64) (hj : j < P) (hV : vmsg n S (x.1 0 j 0) (x.1 0 j 1) (x.1 0 j 2) (x.1 0 j 3) (x.1 0 j 5)) (hI : Ibit x) (hk0 : x.1 0 j 0 ≠ 0) (hNB : ¬ sBlk n P x j) : MI l D [(cI, .int), (cZ, .boolean)] yDecreePool_handOver wsDecreePool_handOver ({ frames := 4, cells := 0, slots := 0, locals := 98 }) [.ref (q 0), .int (nI j)] (wX q cI n S P x) (fun r w => r = (sHo n P x j).1 ∧ w = (wX q cI n S P (sHo n P x j).2)) := by
  intro sz
  obtain ⟨k9, b, a, t, hk1, hk5, hbn, ha, ht, hkk, hsd, hrc, hsl, hv0⟩ := hV
  obtain ⟨e1, he1, he2⟩ := hI.1 a t
  have hE := orb_fin e1 he1 b (by omega)
  have iA : ix (x.1 0 j 2) = a := by rw [hrc]; exact ix_nI ha (by omega)
  have iT : ix (x.1 0 j 3) = t := by rw [hsl]; exact ix_nI ht (by omega)
  have iB : ix (x.1 0 j 1) = b := by rw [hsd]; exact ix_nI hbn (by omega)
  have hiff : (x.1 13 (ix (x.1 0 j 2)) 0 = 0 ∧ sAll n x j) ↔ (x.1 13 a 0 = 0 ∧ ((x.1 0 j 0 = nI 2 ∧ ((x.1 1 a t = nI 1 ∧ x.1 2 a t = x.1 0 j 4) ∧ n < 2 * popn (e1 ||| 2 ^ b))) ∨ (x.1 0 j 0 = nI 3 ∧ x.1 8 a t ≤ x.1 0 j 4))) := by
    unfold sAll sWins
    rw [iA, iT, hsd, he2, hE.1, ix_nI hE.2 (by omega)]
  have hc := cnt_out hj hk0
  have hcl : cntx P x ≤ P := cnt_le _ _
  have hroom : x.1 13 a 0 = 0 → ((x.1 0 j 0 = nI 2 ∧ ((x.1 1 a t = nI 1 ∧ x.1 2 a t = x.1 0 j 4) ∧ n < 2 * popn (e1 ||| 2 ^ b))) ∨ (x.1 0 j 0 = nI 3 ∧ x.1 8 a t ≤ x.1 0 j 4)) → n ≤ P - cntx P x + 1 := fun h1 h2 => Nat.le_of_not_lt (fun q => hNB ⟨(hiff.mpr ⟨h1, h2⟩).1, q, (hiff.mpr ⟨h1, h2⟩).2⟩)
  have hpo : ix (orb ((sOut x j).1 3 a t) (nI b)) = e1 ||| 2 ^ b := by
    show ix (orb (x.1 3 a t) (nI b)) = _
    rw [he2, hE.1]
    exact ix_nI hE.2 (by omega)
  refine Met.ofW (cc := cDecreePool_handOver) (maxL := 10) (ret := (Option.some .int)) (by decide) rfl ?_
  intro p e s m args below meth c s₁ B hml hv
  obtain ⟨rfl, hsz, hP, hK, hD0, hZ⟩ := hv
  have hx := B.exec
  have hb := B.bytes
  have hr := B.returns
  have hts := atoms_spec (ws := wsDecreePool_handOver) B.pre
  have hown : s.vm.findClass RDecreePool = some m.cls := findClass_of_methodNamed B.named
  have hlocks := B.notSynchronized
  subst hsz
  have hD := hD0.self (sz := s.heap.size)
  generalize hAe : va_A (wX q cI n S P x) s.heap.size = A at hD ⊢
  have hA : ∀ q : Nat, s.heap.size ≤ q → A q := fun q h => by rw [← hAe]; exact Or.inr h
  have hS : va_S A s.heap s.heap [] := va_S.rf
  have hP : va_P D vwCl (wX q cI n S P x) s.heap := hP
  have hl := lv_entry ([.ref (q 0), .int (nI j)]) (n := 10) (Nat.le_of_ble_eq_true rfl)
  rw [lg_entry_eq]
  generalize (lg_sl ([.ref (q 0), .int (nI j)]) ++ List.replicate (10 - (lg_sl ([.ref (q 0), .int (nI j)])).length) Slot.unset).toArray = ls at hl ⊢
  have hl : lv_has ls 10 [(0, .ref (q 0)), (1, .int (nI j))] := hl
  refine lv_aload_n hx hb dDecreePool_handOver_0 rfl (lv_at hl 0 rfl) ?_
  refine va_get (D := D) (ci := 0) (v := .ref (q 1)) (C := RDecreePool) (T := TDecreePool) (N := 9) hx hb hts (fun w h => mc (uDecreePool_in w h)) hown hK hP 0 rfl rfl 2 (by decide) (hts _ (mc wd107)) (fun _ h9 => h9) rfl dDecreePool_handOver_1 ?_
  refine lv_iload_n hx hb dDecreePool_handOver_4 rfl (lv_at hl 1 rfl) ?_
  refine lv_iconst (v := nI 0) hx hb dDecreePool_handOver_5 (by decide) ?_
  have hPc := hP.sub (ws' := (wPo q cI P (x.1 0) (cntx P x))) [1, 2] rfl
  have hDc := hD.sub (ws' := (wPo q cI P (x.1 0) (cntx P x))) [1, 2] (by decide) rfl
  refine kx_i (va_runV (As := [.int (nI j), .int (nI 0)]) (rest := []) ⟨hx, hb, hml, hown, hts⟩ ((c_field l D cI cZ q P (x.1 0) (cntx P x) j 0 (hP64) (hj) (by omega)) s.heap.size) (cwV 2 hts (gV wd202 wd182 wd183 wd2 wd184) rfl rfl rfl (by decide +kernel) ⟨Nat.le_of_ble_eq_true rfl, Nat.le_of_ble_eq_true rfl⟩) ⟨fb_PW, va_recv (q0 := 0) (ci := 1) hK hPc rfl rfl, pre_PW hK hPc hDc hZ⟩ rfl rfl hl.1 rfl (lv_room (Nat.le_of_ble_eq_true rfl)) dDecreePool_handOver_6 ⟨Nat.zero_le _, Nat.zero_le _⟩) hP hD hS hA [1, 2] [0, 3, 4, 5, 6, 7, 8, 9, 10, 11, 12, 13, 14, 15] rfl rfl (by decide) (by decide) (fun r w1 H locs hw hP hD hS => ?_)
  obtain ⟨rfl, rfl⟩ := hw
  have hP : va_P D vwCl (wX q cI n S P x) H := hP.sub [0, 14, 15, 1, 2, 3, 4, 5, 6, 7, 8, 9, 10, 11, 12, 13] rfl
  have hD : va_D A (wX q cI n S P x) := hD.sub [0, 14, 15, 1, 2, 3, 4, 5, 6, 7, 8, 9, 10, 11, 12, 13] (by decide) rfl
  refine lv_istore_n hx hb dDecreePool_handOver_9 rfl hl (by decide) rfl (fun ls hl => ?_)
  have hl : lv_has ls 10 [(2, .int (x.1 0 j 0)), (0, .ref (q 0)), (1, .int (nI j))] := hl
  refine lv_aload_n hx hb dDecreePool_handOver_10 rfl (lv_at hl 1 rfl) ?_
  refine va_get (D := D) (ci := 0) (v := .ref (q 1)) (C := RDecreePool) (T := TDecreePool) (N := 9) hx hb hts (fun w h => mc (uDecreePool_in w h)) hown hK hP 0 rfl rfl 2 (by decide) (hts _ (mc wd107)) (fun _ h9 => h9) rfl dDecreePool_handOver_11 ?_
  refine lv_iload_n hx hb dDecreePool_handOver_14 rfl (lv_at hl 2 rfl) ?_
  refine lv_iconst (v := nI 1) hx hb dDecreePool_handOver_15 (by decide) ?_
  have hPc := hP.sub (ws' := (wPo q cI P (x.1 0) (cntx P x))) [1, 2] rfl
  have hDc := hD.sub (ws' := (wPo q cI P (x.1 0) (cntx P x))) [1, 2] (by decide) rfl
  refine kx_i (va_runV (As := [.int (nI j), .int (nI 1)]) (rest := []) ⟨hx, hb, hml, hown, hts⟩ ((c_field l D cI cZ q P (x.1 0) (cntx P x) j 1 (hP64) (hj) (by omega)) H.size) (cwV 2 hts (gV wd202 wd182 wd183 wd2 wd184) rfl rfl rfl (by decide +kernel) ⟨Nat.le_of_ble_eq_true rfl, Nat.le_of_ble_eq_true rfl⟩) ⟨fb_PW, va_recv (q0 := 0) (ci := 1) hK hPc rfl rfl, pre_PW hK hPc hDc hZ⟩ rfl rfl hl.1 rfl (lv_room (Nat.le_of_ble_eq_true rfl)) dDecreePool_handOver_16 ⟨Nat.zero_le _, Nat.zero_le _⟩) hP hD hS hA [1, 2] [0, 3, 4, 5, 6, 7, 8, 9, 10, 11, 12, 13, 14, 15] rfl rfl (by decide) (by decide) (fun r w1 H locs hw hP hD hS => ?_)
  obtain ⟨rfl, rfl⟩ := hw
  have hP : va_P D vwCl (wX q cI n S P x) H := hP.sub [0, 14, 15, 1, 2, 3, 4, 5, 6, 7, 8, 9, 10, 11, 12, 13] rfl
  have hD : va_D A (wX q cI n S P x) := hD.sub [0, 14, 15, 1, 2, 3, 4, 5, 6, 7, 8, 9, 10, 11, 12, 13] (by decide) rfl
  refine lv_topi (nm_r (hsd) ?_)
  refine lv_istore_n hx hb dDecreePool_handOver_19 rfl hl (by decide) rfl (fun ls hl => ?_)
  have hl : lv_has ls 10 [(3, .int (nI b)), (2, .int (x.1 0 j 0)), (0, .ref (q 0)), (1, .int (nI j))] := hl
  refine lv_aload_n hx hb dDecreePool_handOver_20 rfl (lv_at hl 2 rfl) ?_
  refine va_get (D := D) (ci := 0) (v := .ref (q 1)) (C := RDecreePool) (T := TDecreePool) (N := 9) hx hb hts (fun w h => mc (uDecreePool_in w h)) hown hK hP 0 rfl rfl 2 (by decide) (hts _ (mc wd107)) (fun _ h9 => h9) rfl dDecreePool_handOver_21 ?_
  refine lv_iload_n hx hb dDecreePool_handOver_24 rfl (lv_at hl 3 rfl) ?_
  refine lv_iconst (v := nI 2) hx hb dDecreePool_handOver_25 (by decide) ?_
  have hPc := hP.sub (ws' := (wPo q cI P (x.1 0) (cntx P x))) [1, 2] rfl
  have hDc := hD.sub (ws' := (wPo q cI P (x.1 0) (cntx P x))) [1, 2] (by decide) rfl
  refine kx_i (va_runV (As := [.int (nI j), .int (nI 2)]) (rest := []) ⟨hx, hb, hml, hown, hts⟩ ((c_field l D cI cZ q P (x.1 0) (cntx P x) j 2 (hP64) (hj) (by omega)) H.size) (cwV 2 hts (gV wd202 wd182 wd183 wd2 wd184) rfl rfl rfl (by decide +kernel) ⟨Nat.le_of_ble_eq_true rfl, Nat.le_of_ble_eq_true rfl⟩) ⟨fb_PW, va_recv (q0 := 0) (ci := 1) hK hPc rfl rfl, pre_PW hK hPc hDc hZ⟩ rfl rfl hl.1 rfl (lv_room (Nat.le_of_ble_eq_true rfl)) dDecreePool_handOver_26 ⟨Nat.zero_le _, Nat.zero_le _⟩) hP hD hS hA [1, 2] [0, 3, 4, 5, 6, 7, 8, 9, 10, 11, 12, 13, 14, 15] rfl rfl (by decide) (by decide) (fun r w1 H locs hw hP hD hS => ?_)
  obtain ⟨rfl, rfl⟩ := hw
  have hP : va_P D vwCl (wX q cI n S P x) H := hP.sub [0, 14, 15, 1, 2, 3, 4, 5, 6, 7, 8, 9, 10, 11, 12, 13] rfl
  have hD : va_D A (wX q cI n S P x) := hD.sub [0, 14, 15, 1, 2, 3, 4, 5, 6, 7, 8, 9, 10, 11, 12, 13] (by decide) rfl
  refine lv_topi (nm_r (hrc) ?_)
  refine lv_istore hx hb dDecreePool_handOver_29 hl (by decide) rfl (fun ls hl => ?_)
  have hl : lv_has ls 10 [(4, .int (nI a)), (3, .int (nI b)), (2, .int (x.1 0 j 0)), (0, .ref (q 0)), (1, .int (nI j))] := hl
  refine lv_aload_n hx hb dDecreePool_handOver_31 rfl (lv_at hl 3 rfl) ?_
  refine va_get (D := D) (ci := 0) (v := .ref (q 1)) (C := RDecreePool) (T := TDecreePool) (N := 9) hx hb hts (fun w h => mc (uDecreePool_in w h)) hown hK hP 0 rfl rfl 2 (by decide) (hts _ (mc wd107)) (fun _ h9 => h9) rfl dDecreePool_handOver_32 ?_
  refine lv_iload_n hx hb dDecreePool_handOver_35 rfl (lv_at hl 4 rfl) ?_
  refine lv_iconst (v := nI 3) hx hb dDecreePool_handOver_36 (by decide) ?_
  have hPc := hP.sub (ws' := (wPo q cI P (x.1 0) (cntx P x))) [1, 2] rfl
  have hDc := hD.sub (ws' := (wPo q cI P (x.1 0) (cntx P x))) [1, 2] (by decide) rfl
  refine kx_i (va_runV (As := [.int (nI j), .int (nI 3)]) (rest := []) ⟨hx, hb, hml, hown, hts⟩ ((c_field l D cI cZ q P (x.1 0) (cntx P x) j 3 (hP64) (hj) (by omega)) H.size) (cwV 2 hts (gV wd202 wd182 wd183 wd2 wd184) rfl rfl rfl (by decide +kernel) ⟨Nat.le_of_ble_eq_true rfl, Nat.le_of_ble_eq_true rfl⟩) ⟨fb_PW, va_recv (q0 := 0) (ci := 1) hK hPc rfl rfl, pre_PW hK hPc hDc hZ⟩ rfl rfl hl.1 rfl (lv_room (Nat.le_of_ble_eq_true rfl)) dDecreePool_handOver_37 ⟨Nat.zero_le _, Nat.zero_le _⟩) hP hD hS hA [1, 2] [0, 3, 4, 5, 6, 7, 8, 9, 10, 11, 12, 13, 14, 15] rfl rfl (by decide) (by decide) (fun r w1 H locs hw hP hD hS => ?_)
  obtain ⟨rfl, rfl⟩ := hw
  have hP : va_P D vwCl (wX q cI n S P x) H := hP.sub [0, 14, 15, 1, 2, 3, 4, 5, 6, 7, 8, 9, 10, 11, 12, 13] rfl
  have hD : va_D A (wX q cI n S P x) := hD.sub [0, 14, 15, 1, 2, 3, 4, 5, 6, 7, 8, 9, 10, 11, 12, 13] (by decide) rfl
  refine lv_topi (nm_r (hsl) ?_)
  refine lv_istore hx hb dDecreePool_handOver_40 hl (by decide) rfl (fun ls hl => ?_)
  have hl : lv_has ls 10 [(5, .int (nI t)), (4, .int (nI a)), (3, .int (nI b)), (2, .int (x.1 0 j 0)), (0, .ref (q 0)), (1, .int (nI j))] := hl
  refine lv_aload_n hx hb dDecreePool_handOver_42 rfl (lv_at hl 4 rfl) ?_
  refine va_get (D := D) (ci := 0) (v := .ref (q 1)) (C := RDecreePool) (T := TDecreePool) (N := 9) hx hb hts (fun w h => mc (uDecreePool_in w h)) hown hK hP 0 rfl rfl 2 (by decide) (hts _ (mc wd107)) (fun _ h9 => h9) rfl dDecreePool_handOver_43 ?_
  refine lv_iload_n hx hb dDecreePool_handOver_46 rfl (lv_at hl 5 rfl) ?_
  refine lv_iconst (v := nI 4) hx hb dDecreePool_handOver_47 (by decide) ?_
  have hPc := hP.sub (ws' := (wPo q cI P (x.1 0) (cntx P x))) [1, 2] rfl
  have hDc := hD.sub (ws' := (wPo q cI P (x.1 0) (cntx P x))) [1, 2] (by decide) rfl
  refine kx_i (va_runV (As := [.int (nI j), .int (nI 4)]) (rest := []) ⟨hx, hb, hml, hown, hts⟩ ((c_field l D cI cZ q P (x.1 0) (cntx P x) j 4 (hP64) (hj) (by omega)) H.size) (cwV 2 hts (gV wd202 wd182 wd183 wd2 wd184) rfl rfl rfl (by decide +kernel) ⟨Nat.le_of_ble_eq_true rfl, Nat.le_of_ble_eq_true rfl⟩) ⟨fb_PW, va_recv (q0 := 0) (ci := 1) hK hPc rfl rfl, pre_PW hK hPc hDc hZ⟩ rfl rfl hl.1 rfl (lv_room (Nat.le_of_ble_eq_true rfl)) dDecreePool_handOver_48 ⟨Nat.zero_le _, Nat.zero_le _⟩) hP hD hS hA [1, 2] [0, 3, 4, 5, 6, 7, 8, 9, 10, 11, 12, 13, 14, 15] rfl rfl (by decide) (by decide) (fun r w1 H locs hw hP hD hS => ?_)
  obtain ⟨rfl, rfl⟩ := hw
  have hP : va_P D vwCl (wX q cI n S P x) H := hP.sub [0, 14, 15, 1, 2, 3, 4, 5, 6, 7, 8, 9, 10, 11, 12, 13] rfl
  have hD : va_D A (wX q cI n S P x) := hD.sub [0, 14, 15, 1, 2, 3, 4, 5, 6, 7, 8, 9, 10, 11, 12, 13] (by decide) rfl
  refine lv_istore hx hb dDecreePool_handOver_51 hl (by decide) rfl (fun ls hl => ?_)
  have hl : lv_has ls 10 [(6, .int (x.1 0 j 4)), (5, .int (nI t)), (4, .int (nI a)), (3, .int (nI b)), (2, .int (x.1 0 j 0)), (0, .ref (q 0)), (1, .int (nI j))] := hl
  refine lv_aload_n hx hb dDecreePool_handOver_53 rfl (lv_at hl 5 rfl) ?_
  refine va_get (D := D) (ci := 0) (v := .ref (q 1)) (C := RDecreePool) (T := TDecreePool) (N := 9) hx hb hts (fun w h => mc (uDecreePool_in w h)) hown hK hP 0 rfl rfl 2 (by decide) (hts _ (mc wd107)) (fun _ h9 => h9) rfl dDecreePool_handOver_54 ?_
  refine lv_iload_n hx hb dDecreePool_handOver_57 rfl (lv_at hl 6 rfl) ?_
  refine lv_iconst (v := nI 5) hx hb dDecreePool_handOver_58 (by decide) ?_
  have hPc := hP.sub (ws' := (wPo q cI P (x.1 0) (cntx P x))) [1, 2] rfl
  have hDc := hD.sub (ws' := (wPo q cI P (x.1 0) (cntx P x))) [1, 2] (by decide) rfl
  refine kx_i (va_runV (As := [.int (nI j), .int (nI 5)]) (rest := []) ⟨hx, hb, hml, hown, hts⟩ ((c_field l D cI cZ q P (x.1 0) (cntx P x) j 5 (hP64) (hj) (by omega)) H.size) (cwV 2 hts (gV wd202 wd182 wd183 wd2 wd184) rfl rfl rfl (by decide +kernel) ⟨Nat.le_of_ble_eq_true rfl, Nat.le_of_ble_eq_true rfl⟩) ⟨fb_PW, va_recv (q0 := 0) (ci := 1) hK hPc rfl rfl, pre_PW hK hPc hDc hZ⟩ rfl rfl hl.1 rfl (lv_room (Nat.le_of_ble_eq_true rfl)) dDecreePool_handOver_59 ⟨Nat.zero_le _, Nat.zero_le _⟩) hP hD hS hA [1, 2] [0, 3, 4, 5, 6, 7, 8, 9, 10, 11, 12, 13, 14, 15] rfl rfl (by decide) (by decide) (fun r w1 H locs hw hP hD hS => ?_)
  obtain ⟨rfl, rfl⟩ := hw
  have hP : va_P D vwCl (wX q cI n S P x) H := hP.sub [0, 14, 15, 1, 2, 3, 4, 5, 6, 7, 8, 9, 10, 11, 12, 13] rfl
  have hD : va_D A (wX q cI n S P x) := hD.sub [0, 14, 15, 1, 2, 3, 4, 5, 6, 7, 8, 9, 10, 11, 12, 13] (by decide) rfl
  refine lv_istore hx hb dDecreePool_handOver_62 hl (by decide) rfl (fun ls hl => ?_)
  have hl : lv_has ls 10 [(7, .int (x.1 0 j 5)), (6, .int (x.1 0 j 4)), (5, .int (nI t)), (4, .int (nI a)), (3, .int (nI b)), (2, .int (x.1 0 j 0)), (0, .ref (q 0)), (1, .int (nI j))] := hl
  refine lv_aload_n hx hb dDecreePool_handOver_64 rfl (lv_at hl 6 rfl) ?_
  refine va_get (D := D) (ci := 0) (v := .ref (q 1)) (C := RDecreePool) (T := TDecreePool) (N := 9) hx hb hts (fun w h => mc (uDecreePool_in w h)) hown hK hP 0 rfl rfl 2 (by decide) (hts _ (mc wd107)) (fun _ h9 => h9) rfl dDecreePool_handOver_65 ?_
  refine lv_iload_n hx hb dDecreePool_handOver_68 rfl (lv_at hl 7 rfl) ?_
  refine lv_bipush (v := nI 6) hx hb dDecreePool_handOver_69 (by decide) ?_
  have hPc := hP.sub (ws' := (wPo q cI P (x.1 0) (cntx P x))) [1, 2] rfl
  have hDc := hD.sub (ws' := (wPo q cI P (x.1 0) (cntx P x))) [1, 2] (by decide) rfl
  refine kx_i (va_runV (As := [.int (nI j), .int (nI 6)]) (rest := []) ⟨hx, hb, hml, hown, hts⟩ ((c_field l D cI cZ q P (x.1 0) (cntx P x) j 6 (hP64) (hj) (by omega)) H.size) (cwV 2 hts (gV wd202 wd182 wd183 wd2 wd184) rfl rfl rfl (by decide +kernel) ⟨Nat.le_of_ble_eq_true rfl, Nat.le_of_ble_eq_true rfl⟩) ⟨fb_PW, va_recv (q0 := 0) (ci := 1) hK hPc rfl rfl, pre_PW hK hPc hDc hZ⟩ rfl rfl hl.1 rfl (lv_room (Nat.le_of_ble_eq_true rfl)) dDecreePool_handOver_71 ⟨Nat.zero_le _, Nat.zero_le _⟩) hP hD hS hA [1, 2] [0, 3, 4, 5, 6, 7, 8, 9, 10, 11, 12, 13, 14, 15] rfl rfl (by decide) (by decide) (fun r w1 H locs hw hP hD hS => ?_)
  obtain ⟨rfl, rfl⟩ := hw
  have hP : va_P D vwCl (wX q cI n S P x) H := hP.sub [0, 14, 15, 1, 2, 3, 4, 5, 6, 7, 8, 9, 10, 11, 12, 13] rfl
  have hD : va_D A (wX q cI n S P x) := hD.sub [0, 14, 15, 1, 2, 3, 4, 5, 6, 7, 8, 9, 10, 11, 12, 13] (by decide) rfl
  refine lv_istore hx hb dDecreePool_handOver_74 hl (by decide) rfl (fun ls hl => ?_)
  have hl : lv_has ls 10 [(8, .int (x.1 0 j 6)), (7, .int (x.1 0 j 5)), (6, .int (x.1 0 j 4)), (5, .int (nI t)), (4, .int (nI a)), (3, .int (nI b)), (2, .int (x.1 0 j 0)), (0, .ref (q 0)), (1, .int (nI j))] := hl
  refine lv_aload_n hx hb dDecreePool_handOver_76 rfl (lv_at hl 7 rfl) ?_
  refine va_get (D := D) (ci := 0) (v := .ref (q 1)) (C := RDecreePool) (T := TDecreePool) (N := 9) hx hb hts (fun w h => mc (uDecreePool_in w h)) hown hK hP 0 rfl rfl 2 (by decide) (hts _ (mc wd107)) (fun _ h9 => h9) rfl dDecreePool_handOver_77 ?_
  refine lv_iload_n hx hb dDecreePool_handOver_80 rfl (lv_at hl 8 rfl) ?_
  have hPc := hP.sub (ws' := (wPo q cI P (x.1 0) (cntx P x))) [1, 2] rfl
  have hDc := hD.sub (ws' := (wPo q cI P (x.1 0) (cntx P x))) [1, 2] (by decide) rfl
  refine kx_v (va_runV (As := [.int (nI j)]) (rest := []) ⟨hx, hb, hml, hown, hts⟩ ((c_takeOut l D cI cZ q P (x.1 0) (cntx P x) j (hP64) (hj) (cnt_pos hj hk0)) H.size) (cwV 1 hts (gV wd228 wd229 wd230 wd2 wd231) rfl rfl rfl (by decide +kernel) ⟨Nat.le_of_ble_eq_true rfl, Nat.le_of_ble_eq_true rfl⟩) ⟨fb_PW, va_recv (q0 := 0) (ci := 1) hK hPc rfl rfl, pre_PW hK hPc hDc hZ⟩ rfl rfl hl.1 rfl (lv_room (Nat.le_of_ble_eq_true rfl)) dDecreePool_handOver_81 ⟨Nat.zero_le _, Nat.zero_le _⟩) hP hD hS hA [1, 2] [0, 3, 4, 5, 6, 7, 8, 9, 10, 11, 12, 13, 14, 15] rfl rfl (by decide) (by decide) (fun w1 H locs hw hP hD hS => ?_)
  obtain rfl := hw
  have hP : va_P D vwCl (wD q cI n S P (n * S) (nI (msk (col (x.1 13) 0) n)) (x.1 12 0 0) (x.1 12 0 1) (up2 (x.1 0) j 0 (nI 0)) ((cntx P x) - 1) (sq S (x.1 1)) (sq S (x.1 2)) (sq S (x.1 3)) (sq S (x.1 4)) (sq S (x.1 5)) (sq S (x.1 8)) (sq S (x.1 9)) (sq S (x.1 10)) (hq n S (x.2 0)) (sq S (x.1 11))) H := hP.sub [0, 14, 15, 1, 2, 3, 4, 5, 6, 7, 8, 9, 10, 11, 12, 13] rfl
  have hD : va_D A (wD q cI n S P (n * S) (nI (msk (col (x.1 13) 0) n)) (x.1 12 0 0) (x.1 12 0 1) (up2 (x.1 0) j 0 (nI 0)) ((cntx P x) - 1) (sq S (x.1 1)) (sq S (x.1 2)) (sq S (x.1 3)) (sq S (x.1 4)) (sq S (x.1 5)) (sq S (x.1 8)) (sq S (x.1 9)) (sq S (x.1 10)) (hq n S (x.2 0)) (sq S (x.1 11))) := hD.sub [0, 14, 15, 1, 2, 3, 4, 5, 6, 7, 8, 9, 10, 11, 12, 13] (by decide) rfl
  have hW1 : (wD q cI n S P (n * S) (nI (msk (col (x.1 13) 0) n)) (x.1 12 0 0) (x.1 12 0 1) (up2 (x.1 0) j 0 (nI 0)) ((cntx P x) - 1) (sq S (x.1 1)) (sq S (x.1 2)) (sq S (x.1 3)) (sq S (x.1 4)) (sq S (x.1 5)) (sq S (x.1 8)) (sq S (x.1 9)) (sq S (x.1 10)) (hq n S (x.2 0)) (sq S (x.1 11))) = (wX q cI n S P (put x 0 j 0 (nI 0))) := by rw [show cntx P x - 1 = cntx P (put x 0 j 0 (nI 0)) by omega]; try rfl
  rw [hW1] at hP hD
  refine lv_aload_n hx hb dDecreePool_handOver_84 rfl (lv_at hl 7 rfl) ?_
  refine lv_dup hx hb dDecreePool_handOver_85 rfl ?_
  refine va_get (D := D) (ci := 0) (v := .int ((put x 0 j 0 (nI 0)).1 12 0 0)) (C := RDecreePool) (T := TDecreePool) (N := 9) hx hb hts (fun w h => mc (uDecreePool_in w h)) hown hK hP 0 rfl rfl 7 (by decide) (hts _ (mc wd112)) (fun _ h9 => h9) rfl dDecreePool_handOver_86 ?_
  refine lv_iconst (v := nI 1) hx hb dDecreePool_handOver_89 (by decide) ?_
  refine lv_iadd hx hb dDecreePool_handOver_90 ?_
  refine va_put (D := D) (ci := 0) (v := .int (((put x 0 j 0 (nI 0)).1 12 0 0) + (nI 1))) (ty := .int) (C := RDecreePool) (T := TDecreePool) (N := 9) hx hb hts (fun w h => mc (uDecreePool_in w h)) tyDecreePool tyDecreePool_ok nmDecreePool hown hK hP hD hS 0 rfl rfl 7 (by decide) (hts _ (mc wd112)) (fun _ h9 => h9) rfl (by decide +kernel) rfl rfl (Nat.le_of_ble_eq_true rfl) dDecreePool_handOver_91 (fun H locs hP hD hS => ?_)
  have hP : va_P D vwCl (wX q cI n S P (sOut x j)) H := hP
  have hD : va_D A (wX q cI n S P (sOut x j)) := hD
  refine lv_aload_n hx hb dDecreePool_handOver_94 rfl (lv_at hl 7 rfl) ?_
  refine lv_iload hx hb dDecreePool_handOver_95 (lv_at hl 4 rfl) ?_
  have hPc := hP.sub (ws' := (wX q cI n S P (sOut x j))) [0, 1, 2, 3, 4, 5, 6, 7, 8, 9, 10, 11, 12, 13, 14, 15] rfl
  have hDc := hD.sub (ws' := (wX q cI n S P (sOut x j))) [0, 1, 2, 3, 4, 5, 6, 7, 8, 9, 10, 11, 12, 13, 14, 15] (by decide) rfl
  refine kx_i (va_runV (As := [.int (nI a)]) (rest := []) ⟨hx, hb, hml, hown, hts⟩ ((c_isUp l D cI cZ q n S P (sOut x j) a (hn1) (hn5) (hS1) (hS4) (hP5) (hP64) (by omega)) H.size) (cwV 1 hts (gV wd149 wd151 sl_DecreePool_isUp wd1 wd152) rfl rfl rfl (by decide +kernel) ⟨Nat.le_of_ble_eq_true rfl, Nat.le_of_ble_eq_true rfl⟩) ⟨fb_PW, va_recv (q0 := 0) (ci := 0) hK hPc rfl rfl, pre_PW hK hPc hDc hZ⟩ rfl rfl hl.1 rfl (lv_room (Nat.le_of_ble_eq_true rfl)) dDecreePool_handOver_97 ⟨Nat.zero_le _, Nat.zero_le _⟩) hP hD hS hA [0, 1, 2, 3, 4, 5, 6, 7, 8, 9, 10, 11, 12, 13, 14, 15] [] rfl rfl (by decide) (by decide) (fun r w1 H locs hw hP hD hS => ?_)
  rcases hw with ⟨rfl, h97, rfl⟩ | ⟨rfl, h97, rfl⟩
  · have hP : va_P D vwCl (wX q cI n S P (sOut x j)) H := hP
    have hD : va_D A (wX q cI n S P (sOut x j)) := hD
    have h97 : x.1 13 a 0 = 0 := h97
    refine lv_if_ne (tgt := 115) hx hb dDecreePool_handOver_100 (by decide) (fun _ => ?_) (fun h9 => absurd h9 (by decide))
    refine lv_aload_n hx hb dDecreePool_handOver_115 rfl (lv_at hl 7 rfl) ?_
    refine lv_iload hx hb dDecreePool_handOver_116 (lv_at hl 4 rfl) ?_
    refine lv_iload hx hb dDecreePool_handOver_118 (lv_at hl 3 rfl) ?_
    have hPc := hP.sub (ws' := (wX q cI n S P (sOut x j))) [0, 1, 2, 3, 4, 5, 6, 7, 8, 9, 10, 11, 12, 13, 14, 15] rfl
    have hDc := hD.sub (ws' := (wX q cI n S P (sOut x j))) [0, 1, 2, 3, 4, 5, 6, 7, 8, 9, 10, 11, 12, 13, 14, 15] (by decide) rfl
    refine kx_i (va_runV (As := [.int (nI a), .int (nI t)]) (rest := []) ⟨hx, hb, hml, hown, hts⟩ ((c_seatOf l D cI cZ q n S P (sOut x j) a t (hn1) (hn5) (hS1) (hS4) (hP5) (hP64)) H.size) (cwV 2 hts (gV wd153 wd155 sl_DecreePool_seatOf wd1 wd156) rfl rfl rfl (by decide +kernel) ⟨Nat.le_of_ble_eq_true rfl, Nat.le_of_ble_eq_true rfl⟩) ⟨fb_PW, va_recv (q0 := 0) (ci := 0) hK hPc rfl rfl, pre_PW hK hPc hDc hZ⟩ rfl rfl hl.1 rfl (lv_room (Nat.le_of_ble_eq_true rfl)) dDecreePool_handOver_120 ⟨Nat.zero_le _, Nat.zero_le _⟩) hP hD hS hA [0, 1, 2, 3, 4, 5, 6, 7, 8, 9, 10, 11, 12, 13, 14, 15] [] rfl rfl (by decide) (by decide) (fun r w1 H locs hw hP hD hS => ?_)
    obtain ⟨rfl, rfl⟩ := hw
    have hP : va_P D vwCl (wX q cI n S P (sOut x j)) H := hP
    have hD : va_D A (wX q cI n S P (sOut x j)) := hD
    refine lv_istore hx hb dDecreePool_handOver_123 hl (by decide) rfl (fun ls hl => ?_)
    have hl : lv_has ls 10 [(9, .int (nI (a * S + t))), (8, .int (x.1 0 j 6)), (7, .int (x.1 0 j 5)), (6, .int (x.1 0 j 4)), (5, .int (nI t)), (4, .int (nI a)), (3, .int (nI b)), (2, .int (x.1 0 j 0)), (0, .ref (q 0)), (1, .int (nI j))] := hl
    refine lv_iload_n hx hb dDecreePool_handOver_125 rfl (lv_at hl 7 rfl) ?_
    by_cases k126_1 : x.1 0 j 0 = nI 1
    · refine lv_topi (nm_r (k126_1) ?_)
      refine lv_tableIn (tgt := 156) hx hb dDecreePool_handOver_126 (by decide) (by decide) rfl (by decide) ?_
      refine lv_aload_n hx hb dDecreePool_handOver_156 rfl (lv_at hl 8 rfl) ?_
      refine va_get (D := D) (ci := 0) (v := .ref (q 9)) (C := RDecreePool) (T := TDecreePool) (N := 9) hx hb hts (fun w h => mc (uDecreePool_in w h)) hown hK hP 0 rfl rfl 4 (by decide) (hts _ (mc wd109)) (fun _ h9 => h9) rfl dDecreePool_handOver_157 ?_
      refine lv_iload hx hb dDecreePool_handOver_160 (lv_at hl 0 rfl) ?_
      refine lv_iload hx hb dDecreePool_handOver_162 (lv_at hl 3 rfl) ?_
      have hPc := hP.sub (ws' := (wAc q cI n S (n * S) (sq S ((sOut x j).1 8)) (sq S ((sOut x j).1 9)) (sq S ((sOut x j).1 10)))) [9, 10, 11, 12] rfl
      have hDc := hD.sub (ws' := (wAc q cI n S (n * S) (sq S ((sOut x j).1 8)) (sq S ((sOut x j).1 9)) (sq S ((sOut x j).1 10)))) [9, 10, 11, 12] (by decide) rfl
      refine kx_i (va_runV (As := [.int (nI (a * S + t)), .int (x.1 0 j 4)]) (rest := []) ⟨hx, hb, hml, hown, hts⟩ ((c_promise l D cI cZ q n S (n * S) (sq S ((sOut x j).1 8)) (sq S ((sOut x j).1 9)) (sq S ((sOut x j).1 10)) (a * S + t) (x.1 0 j 4) (L20 hn5 hS4) (seat_lt ha ht)) H.size) (cwV 2 hts (gV wd232 wd233 wd234 wd5 wd235) rfl rfl rfl (by decide +kernel) ⟨Nat.le_of_ble_eq_true rfl, Nat.le_of_ble_eq_true rfl⟩) ⟨fb_PW, va_recv (q0 := 0) (ci := 3) hK hPc rfl rfl, pre_PW hK hPc hDc hZ⟩ rfl rfl hl.1 rfl (lv_room (Nat.le_of_ble_eq_true rfl)) dDecreePool_handOver_164 ⟨Nat.zero_le _, Nat.zero_le _⟩) hP hD hS hA [9, 10, 11, 12] [0, 1, 2, 3, 4, 5, 6, 7, 8, 13, 14, 15] rfl rfl (by decide) (by decide) (fun r w1 H locs hw hP hD hS => ?_)
      rcases hw with ⟨rfl, h164, rfl⟩ | ⟨rfl, h164, rfl⟩
      · have hP : va_P D vwCl (wD q cI n S P (n * S) (nI (msk (col ((sOut x j).1 13) 0) n)) ((sOut x j).1 12 0 0) ((sOut x j).1 12 0 1) ((sOut x j).1 0) (cntx P (sOut x j)) (sq S ((sOut x j).1 1)) (sq S ((sOut x j).1 2)) (sq S ((sOut x j).1 3)) (sq S ((sOut x j).1 4)) (sq S ((sOut x j).1 5)) (upd (sq S ((sOut x j).1 8)) (a * S + t) (x.1 0 j 4)) (sq S ((sOut x j).1 9)) (sq S ((sOut x j).1 10)) (hq n S ((sOut x j).2 0)) (sq S ((sOut x j).1 11))) H := hP.sub [0, 1, 2, 3, 4, 5, 6, 7, 8, 12, 13, 14, 15, 9, 10, 11] rfl
        have hD : va_D A (wD q cI n S P (n * S) (nI (msk (col ((sOut x j).1 13) 0) n)) ((sOut x j).1 12 0 0) ((sOut x j).1 12 0 1) ((sOut x j).1 0) (cntx P (sOut x j)) (sq S ((sOut x j).1 1)) (sq S ((sOut x j).1 2)) (sq S ((sOut x j).1 3)) (sq S ((sOut x j).1 4)) (sq S ((sOut x j).1 5)) (upd (sq S ((sOut x j).1 8)) (a * S + t) (x.1 0 j 4)) (sq S ((sOut x j).1 9)) (sq S ((sOut x j).1 10)) (hq n S ((sOut x j).2 0)) (sq S ((sOut x j).1 11))) := hD.sub [0, 1, 2, 3, 4, 5, 6, 7, 8, 12, 13, 14, 15, 9, 10, 11] (by decide) rfl
        rw [sq_at ht] at h164
        refine lv_if_eq (tgt := 309) hx hb dDecreePool_handOver_167 (by decide) (fun h9 => absurd h9 (by decide)) (fun _ => ?_)
        have hW2 : (wD q cI n S P (n * S) (nI (msk (col ((sOut x j).1 13) 0) n)) ((sOut x j).1 12 0 0) ((sOut x j).1 12 0 1) ((sOut x j).1 0) (cntx P (sOut x j)) (sq S ((sOut x j).1 1)) (sq S ((sOut x j).1 2)) (sq S ((sOut x j).1 3)) (sq S ((sOut x j).1 4)) (sq S ((sOut x j).1 5)) (upd (sq S ((sOut x j).1 8)) (a * S + t) (x.1 0 j 4)) (sq S ((sOut x j).1 9)) (sq S ((sOut x j).1 10)) (hq n S ((sOut x j).2 0)) (sq S ((sOut x j).1 11))) = (wX q cI n S P (put (sOut x j) 8 a t (x.1 0 j 4))) := by rw [sq_up ht]; try rfl
        rw [hW2] at hP hD
        refine lv_aload_n hx hb dDecreePool_handOver_170 rfl (lv_at hl 8 rfl) ?_
        refine va_get (D := D) (ci := 0) (v := .ref (q 1)) (C := RDecreePool) (T := TDecreePool) (N := 9) hx hb hts (fun w h => mc (uDecreePool_in w h)) hown hK hP 0 rfl rfl 2 (by decide) (hts _ (mc wd107)) (fun _ h9 => h9) rfl dDecreePool_handOver_171 ?_
        refine lv_iconst (v := nI 2) hx hb dDecreePool_handOver_174 (by decide) ?_
        refine lv_iload hx hb dDecreePool_handOver_175 (lv_at hl 5 rfl) ?_
        refine lv_iload_n hx hb dDecreePool_handOver_177 rfl (lv_at hl 6 rfl) ?_
        refine lv_iload hx hb dDecreePool_handOver_178 (lv_at hl 4 rfl) ?_
        refine lv_iload hx hb dDecreePool_handOver_180 (lv_at hl 3 rfl) ?_
        refine lv_aload_n hx hb dDecreePool_handOver_182 rfl (lv_at hl 8 rfl) ?_
        refine va_get (D := D) (ci := 0) (v := .ref (q 9)) (C := RDecreePool) (T := TDecreePool) (N := 9) hx hb hts (fun w h => mc (uDecreePool_in w h)) hown hK hP 0 rfl rfl 4 (by decide) (hts _ (mc wd109)) (fun _ h9 => h9) rfl dDecreePool_handOver_183 ?_
        refine lv_iload hx hb dDecreePool_handOver_186 (lv_at hl 0 rfl) ?_
        have hPc := hP.sub (ws' := (wAc q cI n S (n * S) (sq S ((put (sOut x j) 8 a t (x.1 0 j 4)).1 8)) (sq S ((put (sOut x j) 8 a t (x.1 0 j 4)).1 9)) (sq S ((put (sOut x j) 8 a t (x.1 0 j 4)).1 10)))) [9, 10, 11, 12] rfl
        have hDc := hD.sub (ws' := (wAc q cI n S (n * S) (sq S ((put (sOut x j) 8 a t (x.1 0 j 4)).1 8)) (sq S ((put (sOut x j) 8 a t (x.1 0 j 4)).1 9)) (sq S ((put (sOut x j) 8 a t (x.1 0 j 4)).1 10)))) [9, 10, 11, 12] (by decide) rfl
        refine kx_i (va_runV (As := [.int (nI (a * S + t))]) (rest := [.int (x.1 0 j 4), .int (nI t), .int (nI b), .int (nI a), .int (nI 2), .ref (q 1)]) ⟨hx, hb, hml, hown, hts⟩ ((c_ac_acceptedValue l D cI cZ q n S (n * S) (sq S ((put (sOut x j) 8 a t (x.1 0 j 4)).1 8)) (sq S ((put (sOut x j) 8 a t (x.1 0 j 4)).1 9)) (sq S ((put (sOut x j) 8 a t (x.1 0 j 4)).1 10)) (a * S + t) (L20 hn5 hS4) (seat_lt ha ht)) H.size) (cwV 1 hts (gV wd236 wd237 wd238 wd5 wd239) rfl rfl rfl (by decide +kernel) ⟨Nat.le_of_ble_eq_true rfl, Nat.le_of_ble_eq_true rfl⟩) ⟨fb_PW, va_recv (q0 := 0) (ci := 3) hK hPc rfl rfl, pre_PW hK hPc hDc hZ⟩ rfl rfl hl.1 rfl (lv_room (Nat.le_of_ble_eq_true rfl)) dDecreePool_handOver_188 ⟨Nat.zero_le _, Nat.zero_le _⟩) hP hD hS hA [9, 10, 11, 12] [0, 1, 2, 3, 4, 5, 6, 7, 8, 13, 14, 15] rfl rfl (by decide) (by decide) (fun r w1 H locs hw hP hD hS => ?_)
        obtain ⟨rfl, rfl⟩ := hw
        have hP : va_P D vwCl (wX q cI n S P (put (sOut x j) 8 a t (x.1 0 j 4))) H := hP.sub [0, 1, 2, 3, 4, 5, 6, 7, 8, 12, 13, 14, 15, 9, 10, 11] rfl
        have hD : va_D A (wX q cI n S P (put (sOut x j) 8 a t (x.1 0 j 4))) := hD.sub [0, 1, 2, 3, 4, 5, 6, 7, 8, 12, 13, 14, 15, 9, 10, 11] (by decide) rfl
        refine lv_topi (nm_r (show sq S ((put (sOut x j) 8 a t (x.1 0 j 4)).1 10) (a * S + t) = x.1 10 a t from sq_at ht) ?_)
        refine lv_aload_n hx hb dDecreePool_handOver_191 rfl (lv_at hl 8 rfl) ?_
        refine va_get (D := D) (ci := 0) (v := .ref (q 9)) (C := RDecreePool) (T := TDecreePool) (N := 9) hx hb hts (fun w h => mc (uDecreePool_in w h)) hown hK hP 0 rfl rfl 4 (by decide) (hts _ (mc wd109)) (fun _ h9 => h9) rfl dDecreePool_handOver_192 ?_
        refine lv_iload hx hb dDecreePool_handOver_195 (lv_at hl 0 rfl) ?_
        have hPc := hP.sub (ws' := (wAc q cI n S (n * S) (sq S ((put (sOut x j) 8 a t (x.1 0 j 4)).1 8)) (sq S ((put (sOut x j) 8 a t (x.1 0 j 4)).1 9)) (sq S ((put (sOut x j) 8 a t (x.1 0 j 4)).1 10)))) [9, 10, 11, 12] rfl
        have hDc := hD.sub (ws' := (wAc q cI n S (n * S) (sq S ((put (sOut x j) 8 a t (x.1 0 j 4)).1 8)) (sq S ((put (sOut x j) 8 a t (x.1 0 j 4)).1 9)) (sq S ((put (sOut x j) 8 a t (x.1 0 j 4)).1 10)))) [9, 10, 11, 12] (by decide) rfl
        refine kx_i (va_runV (As := [.int (nI (a * S + t))]) (rest := [.int (x.1 10 a t), .int (x.1 0 j 4), .int (nI t), .int (nI b), .int (nI a), .int (nI 2), .ref (q 1)]) ⟨hx, hb, hml, hown, hts⟩ ((c_ac_acceptedBallot l D cI cZ q n S (n * S) (sq S ((put (sOut x j) 8 a t (x.1 0 j 4)).1 8)) (sq S ((put (sOut x j) 8 a t (x.1 0 j 4)).1 9)) (sq S ((put (sOut x j) 8 a t (x.1 0 j 4)).1 10)) (a * S + t) (L20 hn5 hS4) (seat_lt ha ht)) H.size) (cwV 1 hts (gV wd240 wd241 wd242 wd5 wd243) rfl rfl rfl (by decide +kernel) ⟨Nat.le_of_ble_eq_true rfl, Nat.le_of_ble_eq_true rfl⟩) ⟨fb_PW, va_recv (q0 := 0) (ci := 3) hK hPc rfl rfl, pre_PW hK hPc hDc hZ⟩ rfl rfl hl.1 rfl (lv_room (Nat.le_of_ble_eq_true rfl)) dDecreePool_handOver_197 ⟨Nat.zero_le _, Nat.zero_le _⟩) hP hD hS hA [9, 10, 11, 12] [0, 1, 2, 3, 4, 5, 6, 7, 8, 13, 14, 15] rfl rfl (by decide) (by decide) (fun r w1 H locs hw hP hD hS => ?_)
        obtain ⟨rfl, rfl⟩ := hw
        have hP : va_P D vwCl (wX q cI n S P (put (sOut x j) 8 a t (x.1 0 j 4))) H := hP.sub [0, 1, 2, 3, 4, 5, 6, 7, 8, 12, 13, 14, 15, 9, 10, 11] rfl
        have hD : va_D A (wX q cI n S P (put (sOut x j) 8 a t (x.1 0 j 4))) := hD.sub [0, 1, 2, 3, 4, 5, 6, 7, 8, 12, 13, 14, 15, 9, 10, 11] (by decide) rfl
        refine lv_topi (nm_r (show sq S ((put (sOut x j) 8 a t (x.1 0 j 4)).1 9) (a * S + t) = x.1 9 a t from sq_at ht) ?_)
        have hPc := hP.sub (ws' := (wPo q cI P ((put (sOut x j) 8 a t (x.1 0 j 4)).1 0) (cntx P (put (sOut x j) 8 a t (x.1 0 j 4))))) [1, 2] rfl
        have hDc := hD.sub (ws' := (wPo q cI P ((put (sOut x j) 8 a t (x.1 0 j 4)).1 0) (cntx P (put (sOut x j) 8 a t (x.1 0 j 4))))) [1, 2] (by decide) rfl
        refine kx_i (va_runV (As := [.int (nI 2), .int (nI a), .int (nI b), .int (nI t), .int (x.1 0 j 4), .int (x.1 10 a t), .int (x.1 9 a t)]) (rest := []) ⟨hx, hb, hml, hown, hts⟩ ((c_send l D cI cZ q P ((put (sOut x j) 8 a t (x.1 0 j 4)).1 0) (cntx P (put (sOut x j) 8 a t (x.1 0 j 4))) (nI 2) (nI a) (nI b) (nI t) (x.1 0 j 4) (x.1 10 a t) (x.1 9 a t) (hP64)) H.size) (cwV 7 hts (gV wd173 wd174 wd175 wd2 wd176) rfl rfl rfl (by decide +kernel) ⟨Nat.le_of_ble_eq_true rfl, Nat.le_of_ble_eq_true rfl⟩) ⟨fb_PW, va_recv (q0 := 0) (ci := 1) hK hPc rfl rfl, pre_PW hK hPc hDc hZ⟩ rfl rfl hl.1 rfl (lv_room (Nat.le_of_ble_eq_true rfl)) dDecreePool_handOver_200 ⟨Nat.zero_le _, Nat.zero_le _⟩) hP hD hS hA [1, 2] [0, 3, 4, 5, 6, 7, 8, 9, 10, 11, 12, 13, 14, 15] rfl rfl (by decide) (by decide) (fun r w1 H locs hw hP hD hS => ?_)
        rcases hw with ⟨rfl, h200, rfl⟩ | ⟨rfl, h200, rfl⟩
        · have hP : va_P D vwCl (wD q cI n S P (n * S) (nI (msk (col ((put (sOut x j) 8 a t (x.1 0 j 4)).1 13) 0) n)) ((put (sOut x j) 8 a t (x.1 0 j 4)).1 12 0 0) ((put (sOut x j) 8 a t (x.1 0 j 4)).1 12 0 1) (up7 ((put (sOut x j) 8 a t (x.1 0 j 4)).1 0) (lst (col ((put (sOut x j) 8 a t (x.1 0 j 4)).1 0) 0) P 0) (nI 2) (nI a) (nI b) (nI t) (x.1 0 j 4) (x.1 10 a t) (x.1 9 a t)) ((cntx P (put (sOut x j) 8 a t (x.1 0 j 4))) + 1) (sq S ((put (sOut x j) 8 a t (x.1 0 j 4)).1 1)) (sq S ((put (sOut x j) 8 a t (x.1 0 j 4)).1 2)) (sq S ((put (sOut x j) 8 a t (x.1 0 j 4)).1 3)) (sq S ((put (sOut x j) 8 a t (x.1 0 j 4)).1 4)) (sq S ((put (sOut x j) 8 a t (x.1 0 j 4)).1 5)) (sq S ((put (sOut x j) 8 a t (x.1 0 j 4)).1 8)) (sq S ((put (sOut x j) 8 a t (x.1 0 j 4)).1 9)) (sq S ((put (sOut x j) 8 a t (x.1 0 j 4)).1 10)) (hq n S ((put (sOut x j) 8 a t (x.1 0 j 4)).2 0)) (sq S ((put (sOut x j) 8 a t (x.1 0 j 4)).1 11))) H := hP.sub [0, 14, 15, 1, 2, 3, 4, 5, 6, 7, 8, 9, 10, 11, 12, 13] rfl
          have hD : va_D A (wD q cI n S P (n * S) (nI (msk (col ((put (sOut x j) 8 a t (x.1 0 j 4)).1 13) 0) n)) ((put (sOut x j) 8 a t (x.1 0 j 4)).1 12 0 0) ((put (sOut x j) 8 a t (x.1 0 j 4)).1 12 0 1) (up7 ((put (sOut x j) 8 a t (x.1 0 j 4)).1 0) (lst (col ((put (sOut x j) 8 a t (x.1 0 j 4)).1 0) 0) P 0) (nI 2) (nI a) (nI b) (nI t) (x.1 0 j 4) (x.1 10 a t) (x.1 9 a t)) ((cntx P (put (sOut x j) 8 a t (x.1 0 j 4))) + 1) (sq S ((put (sOut x j) 8 a t (x.1 0 j 4)).1 1)) (sq S ((put (sOut x j) 8 a t (x.1 0 j 4)).1 2)) (sq S ((put (sOut x j) 8 a t (x.1 0 j 4)).1 3)) (sq S ((put (sOut x j) 8 a t (x.1 0 j 4)).1 4)) (sq S ((put (sOut x j) 8 a t (x.1 0 j 4)).1 5)) (sq S ((put (sOut x j) 8 a t (x.1 0 j 4)).1 8)) (sq S ((put (sOut x j) 8 a t (x.1 0 j 4)).1 9)) (sq S ((put (sOut x j) 8 a t (x.1 0 j 4)).1 10)) (hq n S ((put (sOut x j) 8 a t (x.1 0 j 4)).2 0)) (sq S ((put (sOut x j) 8 a t (x.1 0 j 4)).1 11))) := hD.sub [0, 14, 15, 1, 2, 3, 4, 5, 6, 7, 8, 9, 10, 11, 12, 13] (by decide) rfl
          have hW3 : (wD q cI n S P (n * S) (nI (msk (col ((put (sOut x j) 8 a t (x.1 0 j 4)).1 13) 0) n)) ((put (sOut x j) 8 a t (x.1 0 j 4)).1 12 0 0) ((put (sOut x j) 8 a t (x.1 0 j 4)).1 12 0 1) (up7 ((put (sOut x j) 8 a t (x.1 0 j 4)).1 0) (lst (col ((put (sOut x j) 8 a t (x.1 0 j 4)).1 0) 0) P 0) (nI 2) (nI a) (nI b) (nI t) (x.1 0 j 4) (x.1 10 a t) (x.1 9 a t)) ((cntx P (put (sOut x j) 8 a t (x.1 0 j 4))) + 1) (sq S ((put (sOut x j) 8 a t (x.1 0 j 4)).1 1)) (sq S ((put (sOut x j) 8 a t (x.1 0 j 4)).1 2)) (sq S ((put (sOut x j) 8 a t (x.1 0 j 4)).1 3)) (sq S ((put (sOut x j) 8 a t (x.1 0 j 4)).1 4)) (sq S ((put (sOut x j) 8 a t (x.1 0 j 4)).1 5)) (sq S ((put (sOut x j) 8 a t (x.1 0 j 4)).1 8)) (sq S ((put (sOut x j) 8 a t (x.1 0 j 4)).1 9)) (sq S ((put (sOut x j) 8 a t (x.1 0 j 4)).1 10)) (hq n S ((put (sOut x j) 8 a t (x.1 0 j 4)).2 0)) (sq S ((put (sOut x j) 8 a t (x.1 0 j 4)).1 11))) = (wX q cI n S P (send1 P (put (sOut x j) 8 a t (x.1 0 j 4)) (nI 2) (nI a) (nI b) (nI t) (x.1 0 j 4) (x.1 10 a t) (x.1 9 a t))) := wX_send (y := put (sOut x j) 8 a t (x.1 0 j 4)) (by decide) (show cntx P (put x 0 j 0 (nI 0)) < P by omega)
          rw [hW3] at hP hD
          refine lv_pop hx hb dDecreePool_handOver_203 rfl ?_
          refine lv_goto (tgt := 309) hx hb dDecreePool_handOver_204 (by decide) ?_
          refine lv_iload_n hx hb dDecreePool_handOver_309 rfl (lv_at hl 7 rfl) ?_
          have hres : sHo n P x j = (nI 1, send1 P (put (sOut x j) 8 a t (x.1 0 j 4)) (nI 2) (nI a) (nI b) (nI t) (x.1 0 j 4) (x.1 10 a t) (x.1 9 a t)) := by rw [sHo_u iB iA iT h97, k126_1, sTake_1, if_pos h164]; try rfl
          exact W.iret (v := x.1 0 j 0) hx hb hr (fun t9 ht9 hW9 => ⟨⟨x.1 0 j 0, (wX q cI n S P (send1 P (put (sOut x j) 8 a t (x.1 0 j 4)) (nI 2) (nI a) (nI b) (nI t) (x.1 0 j 4) (x.1 10 a t) (x.1 9 a t))), rfl, ⟨by rw [hres]; exact k126_1, by rw [hres]⟩, by rw [ht9]; exact hP, va_K.moved hW9.alike hK, hD⟩, hS.F ht9⟩) hS.2.2 dDecreePool_handOver_310
        · have hP : va_P D vwCl (wX q cI n S P (put (sOut x j) 8 a t (x.1 0 j 4))) H := hP.sub [0, 14, 15, 1, 2, 3, 4, 5, 6, 7, 8, 9, 10, 11, 12, 13] rfl
          have hD : va_D A (wX q cI n S P (put (sOut x j) 8 a t (x.1 0 j 4))) := hD.sub [0, 14, 15, 1, 2, 3, 4, 5, 6, 7, 8, 9, 10, 11, 12, 13] (by decide) rfl
          exact absurd h200 (Nat.ne_of_lt (lst_lt (show cntx P (put x 0 j 0 (nI 0)) < P by omega)))
      · have hP : va_P D vwCl (wX q cI n S P (sOut x j)) H := hP.sub [0, 1, 2, 3, 4, 5, 6, 7, 8, 12, 13, 14, 15, 9, 10, 11] rfl
        have hD : va_D A (wX q cI n S P (sOut x j)) := hD.sub [0, 1, 2, 3, 4, 5, 6, 7, 8, 12, 13, 14, 15, 9, 10, 11] (by decide) rfl
        rw [sq_at ht] at h164
        refine lv_if_eq (tgt := 309) hx hb dDecreePool_handOver_167 (by decide) (fun _ => ?_) (fun h9 => absurd (by decide) h9)
        refine lv_iload_n hx hb dDecreePool_handOver_309 rfl (lv_at hl 7 rfl) ?_
        have hres : sHo n P x j = (nI 1, sOut x j) := by rw [sHo_u iB iA iT h97, k126_1, sTake_1, if_neg h164]; try rfl
        exact W.iret (v := x.1 0 j 0) hx hb hr (fun t9 ht9 hW9 => ⟨⟨x.1 0 j 0, (wX q cI n S P (sOut x j)), rfl, ⟨by rw [hres]; exact k126_1, by rw [hres]⟩, by rw [ht9]; exact hP, va_K.moved hW9.alike hK, hD⟩, hS.F ht9⟩) hS.2.2 dDecreePool_handOver_310
    by_cases k126_2 : x.1 0 j 0 = nI 2
    · refine lv_topi (nm_r (k126_2) ?_)
      refine lv_tableIn (tgt := 207) hx hb dDecreePool_handOver_126 (by decide) (by decide) rfl (by decide) ?_
      refine lv_aload_n hx hb dDecreePool_handOver_207 rfl (lv_at hl 8 rfl) ?_
      refine va_get (D := D) (ci := 0) (v := .ref (q 3)) (C := RDecreePool) (T := TDecreePool) (N := 9) hx hb hts (fun w h => mc (uDecreePool_in w h)) hown hK hP 0 rfl rfl 3 (by decide) (hts _ (mc wd108)) (fun _ h9 => h9) rfl dDecreePool_handOver_208 ?_
      refine lv_iload hx hb dDecreePool_handOver_211 (lv_at hl 0 rfl) ?_
      refine lv_iload_n hx hb dDecreePool_handOver_213 rfl (lv_at hl 6 rfl) ?_
      refine lv_iload hx hb dDecreePool_handOver_214 (lv_at hl 3 rfl) ?_
      refine lv_iload hx hb dDecreePool_handOver_216 (lv_at hl 1 rfl) ?_
      refine lv_iload hx hb dDecreePool_handOver_218 (lv_at hl 2 rfl) ?_
      have hPc := hP.sub (ws' := (wPr q cI n (n * S) (sq S ((sOut x j).1 1)) (sq S ((sOut x j).1 2)) (sq S ((sOut x j).1 3)) (sq S ((sOut x j).1 4)) (sq S ((sOut x j).1 5)))) [3, 4, 5, 6, 7, 8] rfl
      have hDc := hD.sub (ws' := (wPr q cI n (n * S) (sq S ((sOut x j).1 1)) (sq S ((sOut x j).1 2)) (sq S ((sOut x j).1 3)) (sq S ((sOut x j).1 4)) (sq S ((sOut x j).1 5)))) [3, 4, 5, 6, 7, 8] (by decide) rfl
      refine kx_i (va_runV (As := [.int (nI (a * S + t)), .int (nI b), .int (x.1 0 j 4), .int (x.1 0 j 6), .int (x.1 0 j 5)]) (rest := []) ⟨hx, hb, hml, hown, hts⟩ ((c_takePromise l D cI cZ q n (n * S) (sq S ((sOut x j).1 1)) (sq S ((sOut x j).1 2)) (sq S ((sOut x j).1 3)) (sq S ((sOut x j).1 4)) (sq S ((sOut x j).1 5)) (a * S + t) (nI b) (x.1 0 j 4) (x.1 0 j 6) (x.1 0 j 5) (e1 ||| 2 ^ b) (L20 hn5 hS4) (seat_lt ha ht) (hn5) (by rw [sq_at ht]; show orb (x.1 3 a t) (nI b) = _; rw [he2]; exact hE.1) (hE.2)) H.size) (cwV 5 hts (gV wd244 wd245 wd246 wd3 wd247) rfl rfl rfl (by decide +kernel) ⟨Nat.le_of_ble_eq_true rfl, Nat.le_of_ble_eq_true rfl⟩) ⟨fb_PW, va_recv (q0 := 0) (ci := 2) hK hPc rfl rfl, pre_PW hK hPc hDc hZ⟩ rfl rfl hl.1 rfl (lv_room (Nat.le_of_ble_eq_true rfl)) dDecreePool_handOver_220 ⟨Nat.zero_le _, Nat.zero_le _⟩) hP hD hS hA [3, 4, 5, 6, 7, 8] [0, 1, 2, 9, 10, 11, 12, 13, 14, 15] rfl rfl (by decide) (by decide) (fun r w1 H locs hw hP hD hS => ?_)
      rcases hw with ⟨rfl, h220, rfl⟩ | ⟨rfl, h220, rfl⟩ | ⟨rfl, h220, rfl⟩
      · have hP : va_P D vwCl (wD q cI n S P (n * S) (nI (msk (col ((sOut x j).1 13) 0) n)) ((sOut x j).1 12 0 0) ((sOut x j).1 12 0 1) ((sOut x j).1 0) (cntx P (sOut x j)) (upd (sq S ((sOut x j).1 1)) (a * S + t) (nI 2)) (sq S ((sOut x j).1 2)) (upd (sq S ((sOut x j).1 3)) (a * S + t) (orb ((sq S ((sOut x j).1 3)) (a * S + t)) (nI b))) (if (sq S ((sOut x j).1 4)) (a * S + t) < (x.1 0 j 6) then upd (sq S ((sOut x j).1 4)) (a * S + t) (x.1 0 j 6) else (sq S ((sOut x j).1 4))) (if (sq S ((sOut x j).1 4)) (a * S + t) < (x.1 0 j 6) then upd (sq S ((sOut x j).1 5)) (a * S + t) (x.1 0 j 5) else (sq S ((sOut x j).1 5))) (sq S ((sOut x j).1 8)) (sq S ((sOut x j).1 9)) (sq S ((sOut x j).1 10)) (hq n S ((sOut x j).2 0)) (sq S ((sOut x j).1 11))) H := hP.sub [0, 1, 2, 10, 11, 12, 13, 14, 15, 3, 4, 5, 6, 7, 8, 9] rfl
        have hD : va_D A (wD q cI n S P (n * S) (nI (msk (col ((sOut x j).1 13) 0) n)) ((sOut x j).1 12 0 0) ((sOut x j).1 12 0 1) ((sOut x j).1 0) (cntx P (sOut x j)) (upd (sq S ((sOut x j).1 1)) (a * S + t) (nI 2)) (sq S ((sOut x j).1 2)) (upd (sq S ((sOut x j).1 3)) (a * S + t) (orb ((sq S ((sOut x j).1 3)) (a * S + t)) (nI b))) (if (sq S ((sOut x j).1 4)) (a * S + t) < (x.1 0 j 6) then upd (sq S ((sOut x j).1 4)) (a * S + t) (x.1 0 j 6) else (sq S ((sOut x j).1 4))) (if (sq S ((sOut x j).1 4)) (a * S + t) < (x.1 0 j 6) then upd (sq S ((sOut x j).1 5)) (a * S + t) (x.1 0 j 5) else (sq S ((sOut x j).1 5))) (sq S ((sOut x j).1 8)) (sq S ((sOut x j).1 9)) (sq S ((sOut x j).1 10)) (hq n S ((sOut x j).2 0)) (sq S ((sOut x j).1 11))) := hD.sub [0, 1, 2, 10, 11, 12, 13, 14, 15, 3, 4, 5, 6, 7, 8, 9] (by decide) rfl
        simp only [sq_at ht] at h220
        refine lv_if_eq (tgt := 309) hx hb dDecreePool_handOver_223 (by decide) (fun h9 => absurd h9 (by decide)) (fun _ => ?_)
        have hW4 : (wD q cI n S P (n * S) (nI (msk (col ((sOut x j).1 13) 0) n)) ((sOut x j).1 12 0 0) ((sOut x j).1 12 0 1) ((sOut x j).1 0) (cntx P (sOut x j)) (upd (sq S ((sOut x j).1 1)) (a * S + t) (nI 2)) (sq S ((sOut x j).1 2)) (upd (sq S ((sOut x j).1 3)) (a * S + t) (orb ((sq S ((sOut x j).1 3)) (a * S + t)) (nI b))) (if (sq S ((sOut x j).1 4)) (a * S + t) < (x.1 0 j 6) then upd (sq S ((sOut x j).1 4)) (a * S + t) (x.1 0 j 6) else (sq S ((sOut x j).1 4))) (if (sq S ((sOut x j).1 4)) (a * S + t) < (x.1 0 j 6) then upd (sq S ((sOut x j).1 5)) (a * S + t) (x.1 0 j 5) else (sq S ((sOut x j).1 5))) (sq S ((sOut x j).1 8)) (sq S ((sOut x j).1 9)) (sq S ((sOut x j).1 10)) (hq n S ((sOut x j).2 0)) (sq S ((sOut x j).1 11))) = (wX q cI n S P (put (sProm1 (sOut x j) a t (nI b) (x.1 0 j 5) (x.1 0 j 6)) 1 a t (nI 2))) := wX_prom2 (y := sOut x j) ht
        rw [hW4] at hP hD
        refine lv_aload_n hx hb dDecreePool_handOver_226 rfl (lv_at hl 8 rfl) ?_
        refine lv_iconst (v := nI 3) hx hb dDecreePool_handOver_227 (by decide) ?_
        refine lv_iload hx hb dDecreePool_handOver_228 (lv_at hl 5 rfl) ?_
        refine lv_iload hx hb dDecreePool_handOver_230 (lv_at hl 4 rfl) ?_
        refine lv_iload hx hb dDecreePool_handOver_232 (lv_at hl 3 rfl) ?_
        refine lv_aload_n hx hb dDecreePool_handOver_234 rfl (lv_at hl 8 rfl) ?_
        refine va_get (D := D) (ci := 0) (v := .ref (q 3)) (C := RDecreePool) (T := TDecreePool) (N := 9) hx hb hts (fun w h => mc (uDecreePool_in w h)) hown hK hP 0 rfl rfl 3 (by decide) (hts _ (mc wd108)) (fun _ h9 => h9) rfl dDecreePool_handOver_235 ?_
        refine lv_iload hx hb dDecreePool_handOver_238 (lv_at hl 0 rfl) ?_
        have hPc := hP.sub (ws' := (wPr q cI n (n * S) (sq S ((put (sProm1 (sOut x j) a t (nI b) (x.1 0 j 5) (x.1 0 j 6)) 1 a t (nI 2)).1 1)) (sq S ((put (sProm1 (sOut x j) a t (nI b) (x.1 0 j 5) (x.1 0 j 6)) 1 a t (nI 2)).1 2)) (sq S ((put (sProm1 (sOut x j) a t (nI b) (x.1 0 j 5) (x.1 0 j 6)) 1 a t (nI 2)).1 3)) (sq S ((put (sProm1 (sOut x j) a t (nI b) (x.1 0 j 5) (x.1 0 j 6)) 1 a t (nI 2)).1 4)) (sq S ((put (sProm1 (sOut x j) a t (nI b) (x.1 0 j 5) (x.1 0 j 6)) 1 a t (nI 2)).1 5)))) [3, 4, 5, 6, 7, 8] rfl
        have hDc := hD.sub (ws' := (wPr q cI n (n * S) (sq S ((put (sProm1 (sOut x j) a t (nI b) (x.1 0 j 5) (x.1 0 j 6)) 1 a t (nI 2)).1 1)) (sq S ((put (sProm1 (sOut x j) a t (nI b) (x.1 0 j 5) (x.1 0 j 6)) 1 a t (nI 2)).1 2)) (sq S ((put (sProm1 (sOut x j) a t (nI b) (x.1 0 j 5) (x.1 0 j 6)) 1 a t (nI 2)).1 3)) (sq S ((put (sProm1 (sOut x j) a t (nI b) (x.1 0 j 5) (x.1 0 j 6)) 1 a t (nI 2)).1 4)) (sq S ((put (sProm1 (sOut x j) a t (nI b) (x.1 0 j 5) (x.1 0 j 6)) 1 a t (nI 2)).1 5)))) [3, 4, 5, 6, 7, 8] (by decide) rfl
        refine kx_i (va_runV (As := [.int (nI (a * S + t))]) (rest := [.int (x.1 0 j 4), .int (nI t), .int (nI a), .int (nI 3), .ref (q 0)]) ⟨hx, hb, hml, hown, hts⟩ ((c_pr_value l D cI cZ q n (n * S) (sq S ((put (sProm1 (sOut x j) a t (nI b) (x.1 0 j 5) (x.1 0 j 6)) 1 a t (nI 2)).1 1)) (sq S ((put (sProm1 (sOut x j) a t (nI b) (x.1 0 j 5) (x.1 0 j 6)) 1 a t (nI 2)).1 2)) (sq S ((put (sProm1 (sOut x j) a t (nI b) (x.1 0 j 5) (x.1 0 j 6)) 1 a t (nI 2)).1 3)) (sq S ((put (sProm1 (sOut x j) a t (nI b) (x.1 0 j 5) (x.1 0 j 6)) 1 a t (nI 2)).1 4)) (sq S ((put (sProm1 (sOut x j) a t (nI b) (x.1 0 j 5) (x.1 0 j 6)) 1 a t (nI 2)).1 5)) (a * S + t) (L20 hn5 hS4) (seat_lt ha ht)) H.size) (cwV 1 hts (gV wd252 wd253 wd254 wd3 wd255) rfl rfl rfl (by decide +kernel) ⟨Nat.le_of_ble_eq_true rfl, Nat.le_of_ble_eq_true rfl⟩) ⟨fb_PW, va_recv (q0 := 0) (ci := 2) hK hPc rfl rfl, pre_PW hK hPc hDc hZ⟩ rfl rfl hl.1 rfl (lv_room (Nat.le_of_ble_eq_true rfl)) dDecreePool_handOver_240 ⟨Nat.zero_le _, Nat.zero_le _⟩) hP hD hS hA [3, 4, 5, 6, 7, 8] [0, 1, 2, 9, 10, 11, 12, 13, 14, 15] rfl rfl (by decide) (by decide) (fun r w1 H locs hw hP hD hS => ?_)
        obtain ⟨rfl, rfl⟩ := hw
        have hP : va_P D vwCl (wX q cI n S P (put (sProm1 (sOut x j) a t (nI b) (x.1 0 j 5) (x.1 0 j 6)) 1 a t (nI 2))) H := hP.sub [0, 1, 2, 10, 11, 12, 13, 14, 15, 3, 4, 5, 6, 7, 8, 9] rfl
        have hD : va_D A (wX q cI n S P (put (sProm1 (sOut x j) a t (nI b) (x.1 0 j 5) (x.1 0 j 6)) 1 a t (nI 2))) := hD.sub [0, 1, 2, 10, 11, 12, 13, 14, 15, 3, 4, 5, 6, 7, 8, 9] (by decide) rfl
        refine lv_topi (nm_r (show sq S ((put (sProm1 (sOut x j) a t (nI b) (x.1 0 j 5) (x.1 0 j 6)) 1 a t (nI 2)).1 5) (a * S + t) = (sProm1 (sOut x j) a t (nI b) (x.1 0 j 5) (x.1 0 j 6)).1 5 a t from sq_at ht) ?_)
        have hPc := hP.sub (ws' := (wX q cI n S P (put (sProm1 (sOut x j) a t (nI b) (x.1 0 j 5) (x.1 0 j 6)) 1 a t (nI 2)))) [0, 1, 2, 3, 4, 5, 6, 7, 8, 9, 10, 11, 12, 13, 14, 15] rfl
        have hDc := hD.sub (ws' := (wX q cI n S P (put (sProm1 (sOut x j) a t (nI b) (x.1 0 j 5) (x.1 0 j 6)) 1 a t (nI 2)))) [0, 1, 2, 3, 4, 5, 6, 7, 8, 9, 10, 11, 12, 13, 14, 15] (by decide) rfl
        refine kx_v (va_runV (As := [.int (nI 3), .int (nI a), .int (nI t), .int (x.1 0 j 4), .int ((sProm1 (sOut x j) a t (nI b) (x.1 0 j 5) (x.1 0 j 6)).1 5 a t)]) (rest := []) ⟨hx, hb, hml, hown, hts⟩ ((c_sendToAll l D cI cZ q n S P (put (sProm1 (sOut x j) a t (nI b) (x.1 0 j 5) (x.1 0 j 6)) 1 a t (nI 2)) (nI 3) (nI a) (nI t) (x.1 0 j 4) ((sProm1 (sOut x j) a t (nI b) (x.1 0 j 5) (x.1 0 j 6)).1 5 a t) (hn1) (hn5) (hS1) (hS4) (hP5) (hP64) (by decide) (by rw [cnt_prom]; have := hroom h97 (Or.inl ⟨k126_2, h220⟩); show cntx P (put x 0 j 0 (nI 0)) + n ≤ P; omega)) H.size) (cwV 5 hts (gV wd169 wd171 sl_DecreePool_sendToAll wd1 wd172) rfl rfl rfl (by decide +kernel) ⟨Nat.le_of_ble_eq_true rfl, Nat.le_of_ble_eq_true rfl⟩) ⟨fb_PW, va_recv (q0 := 0) (ci := 0) hK hPc rfl rfl, pre_PW hK hPc hDc hZ⟩ rfl rfl hl.1 rfl (lv_room (Nat.le_of_ble_eq_true rfl)) dDecreePool_handOver_243 ⟨Nat.zero_le _, Nat.zero_le _⟩) hP hD hS hA [0, 1, 2, 3, 4, 5, 6, 7, 8, 9, 10, 11, 12, 13, 14, 15] [] rfl rfl (by decide) (by decide) (fun w1 H locs hw hP hD hS => ?_)
        obtain rfl := hw
        have hP : va_P D vwCl (wX q cI n S P (sendA P (put (sProm1 (sOut x j) a t (nI b) (x.1 0 j 5) (x.1 0 j 6)) 1 a t (nI 2)) (nI 3) (nI a) (nI t) (x.1 0 j 4) ((sProm1 (sOut x j) a t (nI b) (x.1 0 j 5) (x.1 0 j 6)).1 5 a t) n)) H := hP
        have hD : va_D A (wX q cI n S P (sendA P (put (sProm1 (sOut x j) a t (nI b) (x.1 0 j 5) (x.1 0 j 6)) 1 a t (nI 2)) (nI 3) (nI a) (nI t) (x.1 0 j 4) ((sProm1 (sOut x j) a t (nI b) (x.1 0 j 5) (x.1 0 j 6)).1 5 a t) n)) := hD
        refine lv_goto (tgt := 309) hx hb dDecreePool_handOver_246 (by decide) ?_
        refine lv_iload_n hx hb dDecreePool_handOver_309 rfl (lv_at hl 7 rfl) ?_
        have hres : sHo n P x j = (nI 2, sendA P (put (sProm1 (sOut x j) a t (nI b) (x.1 0 j 5) (x.1 0 j 6)) 1 a t (nI 2)) (nI 3) (nI a) (nI t) (x.1 0 j 4) ((sProm1 (sOut x j) a t (nI b) (x.1 0 j 5) (x.1 0 j 6)).1 5 a t) n) := by rw [sHo_u iB iA iT h97, k126_2, sTake_2, if_pos h220.1, hpo, if_pos h220.2]; try rfl
        exact W.iret (v := x.1 0 j 0) hx hb hr (fun t9 ht9 hW9 => ⟨⟨x.1 0 j 0, (wX q cI n S P (sendA P (put (sProm1 (sOut x j) a t (nI b) (x.1 0 j 5) (x.1 0 j 6)) 1 a t (nI 2)) (nI 3) (nI a) (nI t) (x.1 0 j 4) ((sProm1 (sOut x j) a t (nI b) (x.1 0 j 5) (x.1 0 j 6)).1 5 a t) n)), rfl, ⟨by rw [hres]; exact k126_2, by rw [hres]⟩, by rw [ht9]; exact hP, va_K.moved hW9.alike hK, hD⟩, hS.F ht9⟩) hS.2.2 dDecreePool_handOver_310
      · have hP : va_P D vwCl (wD q cI n S P (n * S) (nI (msk (col ((sOut x j).1 13) 0) n)) ((sOut x j).1 12 0 0) ((sOut x j).1 12 0 1) ((sOut x j).1 0) (cntx P (sOut x j)) (sq S ((sOut x j).1 1)) (sq S ((sOut x j).1 2)) (upd (sq S ((sOut x j).1 3)) (a * S + t) (orb ((sq S ((sOut x j).1 3)) (a * S + t)) (nI b))) (if (sq S ((sOut x j).1 4)) (a * S + t) < (x.1 0 j 6) then upd (sq S ((sOut x j).1 4)) (a * S + t) (x.1 0 j 6) else (sq S ((sOut x j).1 4))) (if (sq S ((sOut x j).1 4)) (a * S + t) < (x.1 0 j 6) then upd (sq S ((sOut x j).1 5)) (a * S + t) (x.1 0 j 5) else (sq S ((sOut x j).1 5))) (sq S ((sOut x j).1 8)) (sq S ((sOut x j).1 9)) (sq S ((sOut x j).1 10)) (hq n S ((sOut x j).2 0)) (sq S ((sOut x j).1 11))) H := hP.sub [0, 1, 2, 10, 11, 12, 13, 14, 15, 3, 4, 5, 6, 7, 8, 9] rfl
        have hD : va_D A (wD q cI n S P (n * S) (nI (msk (col ((sOut x j).1 13) 0) n)) ((sOut x j).1 12 0 0) ((sOut x j).1 12 0 1) ((sOut x j).1 0) (cntx P (sOut x j)) (sq S ((sOut x j).1 1)) (sq S ((sOut x j).1 2)) (upd (sq S ((sOut x j).1 3)) (a * S + t) (orb ((sq S ((sOut x j).1 3)) (a * S + t)) (nI b))) (if (sq S ((sOut x j).1 4)) (a * S + t) < (x.1 0 j 6) then upd (sq S ((sOut x j).1 4)) (a * S + t) (x.1 0 j 6) else (sq S ((sOut x j).1 4))) (if (sq S ((sOut x j).1 4)) (a * S + t) < (x.1 0 j 6) then upd (sq S ((sOut x j).1 5)) (a * S + t) (x.1 0 j 5) else (sq S ((sOut x j).1 5))) (sq S ((sOut x j).1 8)) (sq S ((sOut x j).1 9)) (sq S ((sOut x j).1 10)) (hq n S ((sOut x j).2 0)) (sq S ((sOut x j).1 11))) := hD.sub [0, 1, 2, 10, 11, 12, 13, 14, 15, 3, 4, 5, 6, 7, 8, 9] (by decide) rfl
        simp only [sq_at ht] at h220
        refine lv_if_eq (tgt := 309) hx hb dDecreePool_handOver_223 (by decide) (fun _ => ?_) (fun h9 => absurd (by decide) h9)
        have hW5 : (wD q cI n S P (n * S) (nI (msk (col ((sOut x j).1 13) 0) n)) ((sOut x j).1 12 0 0) ((sOut x j).1 12 0 1) ((sOut x j).1 0) (cntx P (sOut x j)) (sq S ((sOut x j).1 1)) (sq S ((sOut x j).1 2)) (upd (sq S ((sOut x j).1 3)) (a * S + t) (orb ((sq S ((sOut x j).1 3)) (a * S + t)) (nI b))) (if (sq S ((sOut x j).1 4)) (a * S + t) < (x.1 0 j 6) then upd (sq S ((sOut x j).1 4)) (a * S + t) (x.1 0 j 6) else (sq S ((sOut x j).1 4))) (if (sq S ((sOut x j).1 4)) (a * S + t) < (x.1 0 j 6) then upd (sq S ((sOut x j).1 5)) (a * S + t) (x.1 0 j 5) else (sq S ((sOut x j).1 5))) (sq S ((sOut x j).1 8)) (sq S ((sOut x j).1 9)) (sq S ((sOut x j).1 10)) (hq n S ((sOut x j).2 0)) (sq S ((sOut x j).1 11))) = (wX q cI n S P (sProm1 (sOut x j) a t (nI b) (x.1 0 j 5) (x.1 0 j 6))) := wX_prom1 (y := sOut x j) ht
        rw [hW5] at hP hD
        refine lv_iload_n hx hb dDecreePool_handOver_309 rfl (lv_at hl 7 rfl) ?_
        have hres : sHo n P x j = (nI 2, sProm1 (sOut x j) a t (nI b) (x.1 0 j 5) (x.1 0 j 6)) := by rw [sHo_u iB iA iT h97, k126_2, sTake_2, if_pos h220.1, hpo, if_neg h220.2]; try rfl
        exact W.iret (v := x.1 0 j 0) hx hb hr (fun t9 ht9 hW9 => ⟨⟨x.1 0 j 0, (wX q cI n S P (sProm1 (sOut x j) a t (nI b) (x.1 0 j 5) (x.1 0 j 6))), rfl, ⟨by rw [hres]; exact k126_2, by rw [hres]⟩, by rw [ht9]; exact hP, va_K.moved hW9.alike hK, hD⟩, hS.F ht9⟩) hS.2.2 dDecreePool_handOver_310
      · have hP : va_P D vwCl (wX q cI n S P (sOut x j)) H := hP.sub [0, 1, 2, 10, 11, 12, 13, 14, 15, 3, 4, 5, 6, 7, 8, 9] rfl
        have hD : va_D A (wX q cI n S P (sOut x j)) := hD.sub [0, 1, 2, 10, 11, 12, 13, 14, 15, 3, 4, 5, 6, 7, 8, 9] (by decide) rfl
        simp only [sq_at ht] at h220
        refine lv_if_eq (tgt := 309) hx hb dDecreePool_handOver_223 (by decide) (fun _ => ?_) (fun h9 => absurd (by decide) h9)
        refine lv_iload_n hx hb dDecreePool_handOver_309 rfl (lv_at hl 7 rfl) ?_
        have hres : sHo n P x j = (nI 2, sOut x j) := by rw [sHo_u iB iA iT h97, k126_2, sTake_2, if_neg h220]; try rfl
        exact W.iret (v := x.1 0 j 0) hx hb hr (fun t9 ht9 hW9 => ⟨⟨x.1 0 j 0, (wX q cI n S P (sOut x j)), rfl, ⟨by rw [hres]; exact k126_2, by rw [hres]⟩, by rw [ht9]; exact hP, va_K.moved hW9.alike hK, hD⟩, hS.F ht9⟩) hS.2.2 dDecreePool_handOver_310
    by_cases k126_3 : x.1 0 j 0 = nI 3
    · refine lv_topi (nm_r (k126_3) ?_)
      refine lv_tableIn (tgt := 249) hx hb dDecreePool_handOver_126 (by decide) (by decide) rfl (by decide) ?_
      refine lv_aload_n hx hb dDecreePool_handOver_249 rfl (lv_at hl 8 rfl) ?_
      refine va_get (D := D) (ci := 0) (v := .ref (q 9)) (C := RDecreePool) (T := TDecreePool) (N := 9) hx hb hts (fun w h => mc (uDecreePool_in w h)) hown hK hP 0 rfl rfl 4 (by decide) (hts _ (mc wd109)) (fun _ h9 => h9) rfl dDecreePool_handOver_250 ?_
      refine lv_iload hx hb dDecreePool_handOver_253 (lv_at hl 0 rfl) ?_
      refine lv_iload hx hb dDecreePool_handOver_255 (lv_at hl 3 rfl) ?_
      refine lv_iload hx hb dDecreePool_handOver_257 (lv_at hl 2 rfl) ?_
      have hPc := hP.sub (ws' := (wAc q cI n S (n * S) (sq S ((sOut x j).1 8)) (sq S ((sOut x j).1 9)) (sq S ((sOut x j).1 10)))) [9, 10, 11, 12] rfl
      have hDc := hD.sub (ws' := (wAc q cI n S (n * S) (sq S ((sOut x j).1 8)) (sq S ((sOut x j).1 9)) (sq S ((sOut x j).1 10)))) [9, 10, 11, 12] (by decide) rfl
      refine kx_i (va_runV (As := [.int (nI (a * S + t)), .int (x.1 0 j 4), .int (x.1 0 j 5)]) (rest := []) ⟨hx, hb, hml, hown, hts⟩ ((c_accept l D cI cZ q n S (n * S) (sq S ((sOut x j).1 8)) (sq S ((sOut x j).1 9)) (sq S ((sOut x j).1 10)) (a * S + t) (x.1 0 j 4) (x.1 0 j 5) (L20 hn5 hS4) (seat_lt ha ht)) H.size) (cwV 3 hts (gV wd256 wd257 wd258 wd5 wd259) rfl rfl rfl (by decide +kernel) ⟨Nat.le_of_ble_eq_true rfl, Nat.le_of_ble_eq_true rfl⟩) ⟨fb_PW, va_recv (q0 := 0) (ci := 3) hK hPc rfl rfl, pre_PW hK hPc hDc hZ⟩ rfl rfl hl.1 rfl (lv_room (Nat.le_of_ble_eq_true rfl)) dDecreePool_handOver_259 ⟨Nat.zero_le _, Nat.zero_le _⟩) hP hD hS hA [9, 10, 11, 12] [0, 1, 2, 3, 4, 5, 6, 7, 8, 13, 14, 15] rfl rfl (by decide) (by decide) (fun r w1 H locs hw hP hD hS => ?_)
      rcases hw with ⟨rfl, h259, rfl⟩ | ⟨rfl, h259, rfl⟩
      · have hP : va_P D vwCl (wD q cI n S P (n * S) (nI (msk (col ((sOut x j).1 13) 0) n)) ((sOut x j).1 12 0 0) ((sOut x j).1 12 0 1) ((sOut x j).1 0) (cntx P (sOut x j)) (sq S ((sOut x j).1 1)) (sq S ((sOut x j).1 2)) (sq S ((sOut x j).1 3)) (sq S ((sOut x j).1 4)) (sq S ((sOut x j).1 5)) (upd (sq S ((sOut x j).1 8)) (a * S + t) (x.1 0 j 4)) (upd (sq S ((sOut x j).1 9)) (a * S + t) (x.1 0 j 4)) (upd (sq S ((sOut x j).1 10)) (a * S + t) (x.1 0 j 5)) (hq n S ((sOut x j).2 0)) (sq S ((sOut x j).1 11))) H := hP.sub [0, 1, 2, 3, 4, 5, 6, 7, 8, 12, 13, 14, 15, 9, 10, 11] rfl
        have hD : va_D A (wD q cI n S P (n * S) (nI (msk (col ((sOut x j).1 13) 0) n)) ((sOut x j).1 12 0 0) ((sOut x j).1 12 0 1) ((sOut x j).1 0) (cntx P (sOut x j)) (sq S ((sOut x j).1 1)) (sq S ((sOut x j).1 2)) (sq S ((sOut x j).1 3)) (sq S ((sOut x j).1 4)) (sq S ((sOut x j).1 5)) (upd (sq S ((sOut x j).1 8)) (a * S + t) (x.1 0 j 4)) (upd (sq S ((sOut x j).1 9)) (a * S + t) (x.1 0 j 4)) (upd (sq S ((sOut x j).1 10)) (a * S + t) (x.1 0 j 5)) (hq n S ((sOut x j).2 0)) (sq S ((sOut x j).1 11))) := hD.sub [0, 1, 2, 3, 4, 5, 6, 7, 8, 12, 13, 14, 15, 9, 10, 11] (by decide) rfl
        simp only [sq_at ht] at h259
        refine lv_if_eq (tgt := 309) hx hb dDecreePool_handOver_262 (by decide) (fun h9 => absurd h9 (by decide)) (fun _ => ?_)
        have hW6 : (wD q cI n S P (n * S) (nI (msk (col ((sOut x j).1 13) 0) n)) ((sOut x j).1 12 0 0) ((sOut x j).1 12 0 1) ((sOut x j).1 0) (cntx P (sOut x j)) (sq S ((sOut x j).1 1)) (sq S ((sOut x j).1 2)) (sq S ((sOut x j).1 3)) (sq S ((sOut x j).1 4)) (sq S ((sOut x j).1 5)) (upd (sq S ((sOut x j).1 8)) (a * S + t) (x.1 0 j 4)) (upd (sq S ((sOut x j).1 9)) (a * S + t) (x.1 0 j 4)) (upd (sq S ((sOut x j).1 10)) (a * S + t) (x.1 0 j 5)) (hq n S ((sOut x j).2 0)) (sq S ((sOut x j).1 11))) = (wX q cI n S P (sAcc (sOut x j) a t (x.1 0 j 4) (x.1 0 j 5))) := by rw [sq_up ht, sq_up ht, sq_up ht]; try rfl
        rw [hW6] at hP hD
        refine lv_aload_n hx hb dDecreePool_handOver_265 rfl (lv_at hl 8 rfl) ?_
        refine lv_iconst (v := nI 4) hx hb dDecreePool_handOver_266 (by decide) ?_
        refine lv_iload hx hb dDecreePool_handOver_267 (lv_at hl 5 rfl) ?_
        refine lv_iload hx hb dDecreePool_handOver_269 (lv_at hl 4 rfl) ?_
        refine lv_iload hx hb dDecreePool_handOver_271 (lv_at hl 3 rfl) ?_
        refine lv_iload hx hb dDecreePool_handOver_273 (lv_at hl 2 rfl) ?_
        have hPc := hP.sub (ws' := (wX q cI n S P (sAcc (sOut x j) a t (x.1 0 j 4) (x.1 0 j 5)))) [0, 1, 2, 3, 4, 5, 6, 7, 8, 9, 10, 11, 12, 13, 14, 15] rfl
        have hDc := hD.sub (ws' := (wX q cI n S P (sAcc (sOut x j) a t (x.1 0 j 4) (x.1 0 j 5)))) [0, 1, 2, 3, 4, 5, 6, 7, 8, 9, 10, 11, 12, 13, 14, 15] (by decide) rfl
        refine kx_v (va_runV (As := [.int (nI 4), .int (nI a), .int (nI t), .int (x.1 0 j 4), .int (x.1 0 j 5)]) (rest := []) ⟨hx, hb, hml, hown, hts⟩ ((c_sendToAll l D cI cZ q n S P (sAcc (sOut x j) a t (x.1 0 j 4) (x.1 0 j 5)) (nI 4) (nI a) (nI t) (x.1 0 j 4) (x.1 0 j 5) (hn1) (hn5) (hS1) (hS4) (hP5) (hP64) (by decide) (by have := hroom h97 (Or.inr ⟨k126_3, h259⟩); show cntx P (put x 0 j 0 (nI 0)) + n ≤ P; omega)) H.size) (cwV 5 hts (gV wd169 wd171 sl_DecreePool_sendToAll wd1 wd172) rfl rfl rfl (by decide +kernel) ⟨Nat.le_of_ble_eq_true rfl, Nat.le_of_ble_eq_true rfl⟩) ⟨fb_PW, va_recv (q0 := 0) (ci := 0) hK hPc rfl rfl, pre_PW hK hPc hDc hZ⟩ rfl rfl hl.1 rfl (lv_room (Nat.le_of_ble_eq_true rfl)) dDecreePool_handOver_275 ⟨Nat.zero_le _, Nat.zero_le _⟩) hP hD hS hA [0, 1, 2, 3, 4, 5, 6, 7, 8, 9, 10, 11, 12, 13, 14, 15] [] rfl rfl (by decide) (by decide) (fun w1 H locs hw hP hD hS => ?_)
        obtain rfl := hw
        have hP : va_P D vwCl (wX q cI n S P (sendA P (sAcc (sOut x j) a t (x.1 0 j 4) (x.1 0 j 5)) (nI 4) (nI a) (nI t) (x.1 0 j 4) (x.1 0 j 5) n)) H := hP
        have hD : va_D A (wX q cI n S P (sendA P (sAcc (sOut x j) a t (x.1 0 j 4) (x.1 0 j 5)) (nI 4) (nI a) (nI t) (x.1 0 j 4) (x.1 0 j 5) n)) := hD
        refine lv_goto (tgt := 309) hx hb dDecreePool_handOver_278 (by decide) ?_
        refine lv_iload_n hx hb dDecreePool_handOver_309 rfl (lv_at hl 7 rfl) ?_
        have hres : sHo n P x j = (nI 3, sendA P (sAcc (sOut x j) a t (x.1 0 j 4) (x.1 0 j 5)) (nI 4) (nI a) (nI t) (x.1 0 j 4) (x.1 0 j 5) n) := by rw [sHo_u iB iA iT h97, k126_3, sTake_3, if_pos h259]; try rfl
        exact W.iret (v := x.1 0 j 0) hx hb hr (fun t9 ht9 hW9 => ⟨⟨x.1 0 j 0, (wX q cI n S P (sendA P (sAcc (sOut x j) a t (x.1 0 j 4) (x.1 0 j 5)) (nI 4) (nI a) (nI t) (x.1 0 j 4) (x.1 0 j 5) n)), rfl, ⟨by rw [hres]; exact k126_3, by rw [hres]⟩, by rw [ht9]; exact hP, va_K.moved hW9.alike hK, hD⟩, hS.F ht9⟩) hS.2.2 dDecreePool_handOver_310
      · have hP : va_P D vwCl (wX q cI n S P (sOut x j)) H := hP.sub [0, 1, 2, 3, 4, 5, 6, 7, 8, 12, 13, 14, 15, 9, 10, 11] rfl
        have hD : va_D A (wX q cI n S P (sOut x j)) := hD.sub [0, 1, 2, 3, 4, 5, 6, 7, 8, 12, 13, 14, 15, 9, 10, 11] (by decide) rfl
        simp only [sq_at ht] at h259
        refine lv_if_eq (tgt := 309) hx hb dDecreePool_handOver_262 (by decide) (fun _ => ?_) (fun h9 => absurd (by decide) h9)
        refine lv_iload_n hx hb dDecreePool_handOver_309 rfl (lv_at hl 7 rfl) ?_
        have hres : sHo n P x j = (nI 3, sOut x j) := by rw [sHo_u iB iA iT h97, k126_3, sTake_3, if_neg h259]; try rfl
        exact W.iret (v := x.1 0 j 0) hx hb hr (fun t9 ht9 hW9 => ⟨⟨x.1 0 j 0, (wX q cI n S P (sOut x j)), rfl, ⟨by rw [hres]; exact k126_3, by rw [hres]⟩, by rw [ht9]; exact hP, va_K.moved hW9.alike hK, hD⟩, hS.F ht9⟩) hS.2.2 dDecreePool_handOver_310
    by_cases k126_4 : x.1 0 j 0 = nI 4
    · refine lv_topi (nm_r (k126_4) ?_)
      refine lv_tableIn (tgt := 281) hx hb dDecreePool_handOver_126 (by decide) (by decide) rfl (by decide) ?_
      refine lv_aload_n hx hb dDecreePool_handOver_281 rfl (lv_at hl 8 rfl) ?_
      refine va_get (D := D) (ci := 0) (v := .ref (q 13)) (C := RDecreePool) (T := TDecreePool) (N := 9) hx hb hts (fun w h => mc (uDecreePool_in w h)) hown hK hP 0 rfl rfl 5 (by decide) (hts _ (mc wd110)) (fun _ h9 => h9) rfl dDecreePool_handOver_282 ?_
      refine lv_iload hx hb dDecreePool_handOver_285 (lv_at hl 0 rfl) ?_
      refine lv_iload_n hx hb dDecreePool_handOver_287 rfl (lv_at hl 6 rfl) ?_
      refine lv_iload hx hb dDecreePool_handOver_288 (lv_at hl 3 rfl) ?_
      refine lv_iload hx hb dDecreePool_handOver_290 (lv_at hl 2 rfl) ?_
      have hPc := hP.sub (ws' := (wLe q cI n (n * S) (hq n S ((sOut x j).2 0)) (sq S ((sOut x j).1 11)))) [13, 14, 15] rfl
      have hDc := hD.sub (ws' := (wLe q cI n (n * S) (hq n S ((sOut x j).2 0)) (sq S ((sOut x j).1 11)))) [13, 14, 15] (by decide) rfl
      refine kx_v (va_runV (As := [.int (nI (a * S + t)), .int (nI b), .int (x.1 0 j 4), .int (x.1 0 j 5)]) (rest := []) ⟨hx, hb, hml, hown, hts⟩ ((c_hear l D cI cZ q n (n * S) (hq n S ((sOut x j).2 0)) (sq S ((sOut x j).1 11)) (a * S + t) b (x.1 0 j 4) (x.1 0 j 5) (L20 hn5 hS4) (hn5) (seat_lt ha ht) (hbn)) H.size) (cwV 4 hts (gV wd261 wd262 wd263 wd6 wd264) rfl rfl rfl (by decide +kernel) ⟨Nat.le_of_ble_eq_true rfl, Nat.le_of_ble_eq_true rfl⟩) ⟨fb_PW, va_recv (q0 := 0) (ci := 4) hK hPc rfl rfl, pre_PW hK hPc hDc hZ⟩ rfl rfl hl.1 rfl (lv_room (Nat.le_of_ble_eq_true rfl)) dDecreePool_handOver_292 ⟨Nat.zero_le _, Nat.zero_le _⟩) hP hD hS hA [13, 14, 15] [0, 1, 2, 3, 4, 5, 6, 7, 8, 9, 10, 11, 12] rfl rfl (by decide) (by decide) (fun w1 H locs hw hP hD hS => ?_)
      rcases hw with ⟨h292, rfl⟩ | ⟨h292, rfl⟩ | ⟨h292, rfl⟩
      · have hP : va_P D vwCl (wX q cI n S P (sOut x j)) H := hP
        have hD : va_D A (wX q cI n S P (sOut x j)) := hD
        rw [hq_at hbn ht] at h292
        refine lv_goto (tgt := 309) hx hb dDecreePool_handOver_295 (by decide) ?_
        refine lv_iload_n hx hb dDecreePool_handOver_309 rfl (lv_at hl 7 rfl) ?_
        have hres : sHo n P x j = (nI 4, sOut x j) := by rw [sHo_u iB iA iT h97, k126_4, sTake_4, sHear, if_neg h292]; try rfl
        exact W.iret (v := x.1 0 j 0) hx hb hr (fun t9 ht9 hW9 => ⟨⟨x.1 0 j 0, (wX q cI n S P (sOut x j)), rfl, ⟨by rw [hres]; exact k126_4, by rw [hres]⟩, by rw [ht9]; exact hP, va_K.moved hW9.alike hK, hD⟩, hS.F ht9⟩) hS.2.2 dDecreePool_handOver_310
      · have hP : va_P D vwCl (wD q cI n S P (n * S) (nI (msk (col ((sOut x j).1 13) 0) n)) ((sOut x j).1 12 0 0) ((sOut x j).1 12 0 1) ((sOut x j).1 0) (cntx P (sOut x j)) (sq S ((sOut x j).1 1)) (sq S ((sOut x j).1 2)) (sq S ((sOut x j).1 3)) (sq S ((sOut x j).1 4)) (sq S ((sOut x j).1 5)) (sq S ((sOut x j).1 8)) (sq S ((sOut x j).1 9)) (sq S ((sOut x j).1 10)) (upd (hq n S ((sOut x j).2 0)) ((a * S + t) * n + b) (x.1 0 j 4)) (sq S ((sOut x j).1 11))) H := hP
        have hD : va_D A (wD q cI n S P (n * S) (nI (msk (col ((sOut x j).1 13) 0) n)) ((sOut x j).1 12 0 0) ((sOut x j).1 12 0 1) ((sOut x j).1 0) (cntx P (sOut x j)) (sq S ((sOut x j).1 1)) (sq S ((sOut x j).1 2)) (sq S ((sOut x j).1 3)) (sq S ((sOut x j).1 4)) (sq S ((sOut x j).1 5)) (sq S ((sOut x j).1 8)) (sq S ((sOut x j).1 9)) (sq S ((sOut x j).1 10)) (upd (hq n S ((sOut x j).2 0)) ((a * S + t) * n + b) (x.1 0 j 4)) (sq S ((sOut x j).1 11))) := hD
        rw [hear_cnt hbn ht, hq_at hbn ht] at h292
        refine lv_goto (tgt := 309) hx hb dDecreePool_handOver_295 (by decide) ?_
        have hW7 : (wD q cI n S P (n * S) (nI (msk (col ((sOut x j).1 13) 0) n)) ((sOut x j).1 12 0 0) ((sOut x j).1 12 0 1) ((sOut x j).1 0) (cntx P (sOut x j)) (sq S ((sOut x j).1 1)) (sq S ((sOut x j).1 2)) (sq S ((sOut x j).1 3)) (sq S ((sOut x j).1 4)) (sq S ((sOut x j).1 5)) (sq S ((sOut x j).1 8)) (sq S ((sOut x j).1 9)) (sq S ((sOut x j).1 10)) (upd (hq n S ((sOut x j).2 0)) ((a * S + t) * n + b) (x.1 0 j 4)) (sq S ((sOut x j).1 11))) = (wX q cI n S P (pth (pth (sOut x j) 0 a t b (x.1 0 j 4)) 1 a t b (x.1 0 j 5))) := by rw [hq_up hbn ht]; try rfl
        rw [hW7] at hP hD
        refine lv_iload_n hx hb dDecreePool_handOver_309 rfl (lv_at hl 7 rfl) ?_
        have hres : sHo n P x j = (nI 4, pth (pth (sOut x j) 0 a t b (x.1 0 j 4)) 1 a t b (x.1 0 j 5)) := by rw [sHo_u iB iA iT h97, k126_4, sTake_4, sHear, if_pos h292.1, if_neg h292.2]; try rfl
        exact W.iret (v := x.1 0 j 0) hx hb hr (fun t9 ht9 hW9 => ⟨⟨x.1 0 j 0, (wX q cI n S P (pth (pth (sOut x j) 0 a t b (x.1 0 j 4)) 1 a t b (x.1 0 j 5))), rfl, ⟨by rw [hres]; exact k126_4, by rw [hres]⟩, by rw [ht9]; exact hP, va_K.moved hW9.alike hK, hD⟩, hS.F ht9⟩) hS.2.2 dDecreePool_handOver_310
      · have hP : va_P D vwCl (wD q cI n S P (n * S) (nI (msk (col ((sOut x j).1 13) 0) n)) ((sOut x j).1 12 0 0) ((sOut x j).1 12 0 1) ((sOut x j).1 0) (cntx P (sOut x j)) (sq S ((sOut x j).1 1)) (sq S ((sOut x j).1 2)) (sq S ((sOut x j).1 3)) (sq S ((sOut x j).1 4)) (sq S ((sOut x j).1 5)) (sq S ((sOut x j).1 8)) (sq S ((sOut x j).1 9)) (sq S ((sOut x j).1 10)) (upd (hq n S ((sOut x j).2 0)) ((a * S + t) * n + b) (x.1 0 j 4)) (if (sq S ((sOut x j).1 11)) (a * S + t) = 0 then upd (sq S ((sOut x j).1 11)) (a * S + t) (x.1 0 j 5) else (sq S ((sOut x j).1 11)))) H := hP
        have hD : va_D A (wD q cI n S P (n * S) (nI (msk (col ((sOut x j).1 13) 0) n)) ((sOut x j).1 12 0 0) ((sOut x j).1 12 0 1) ((sOut x j).1 0) (cntx P (sOut x j)) (sq S ((sOut x j).1 1)) (sq S ((sOut x j).1 2)) (sq S ((sOut x j).1 3)) (sq S ((sOut x j).1 4)) (sq S ((sOut x j).1 5)) (sq S ((sOut x j).1 8)) (sq S ((sOut x j).1 9)) (sq S ((sOut x j).1 10)) (upd (hq n S ((sOut x j).2 0)) ((a * S + t) * n + b) (x.1 0 j 4)) (if (sq S ((sOut x j).1 11)) (a * S + t) = 0 then upd (sq S ((sOut x j).1 11)) (a * S + t) (x.1 0 j 5) else (sq S ((sOut x j).1 11)))) := hD
        rw [hear_cnt hbn ht, hq_at hbn ht] at h292
        refine lv_goto (tgt := 309) hx hb dDecreePool_handOver_295 (by decide) ?_
        have hW8 : (wD q cI n S P (n * S) (nI (msk (col ((sOut x j).1 13) 0) n)) ((sOut x j).1 12 0 0) ((sOut x j).1 12 0 1) ((sOut x j).1 0) (cntx P (sOut x j)) (sq S ((sOut x j).1 1)) (sq S ((sOut x j).1 2)) (sq S ((sOut x j).1 3)) (sq S ((sOut x j).1 4)) (sq S ((sOut x j).1 5)) (sq S ((sOut x j).1 8)) (sq S ((sOut x j).1 9)) (sq S ((sOut x j).1 10)) (upd (hq n S ((sOut x j).2 0)) ((a * S + t) * n + b) (x.1 0 j 4)) (if (sq S ((sOut x j).1 11)) (a * S + t) = 0 then upd (sq S ((sOut x j).1 11)) (a * S + t) (x.1 0 j 5) else (sq S ((sOut x j).1 11)))) = (wX q cI n S P (sLearn (pth (pth (sOut x j) 0 a t b (x.1 0 j 4)) 1 a t b (x.1 0 j 5)) a t (x.1 0 j 5))) := by rw [hq_up hbn ht]; exact wX_learn (y := pth (pth (sOut x j) 0 a t b (x.1 0 j 4)) 1 a t b (x.1 0 j 5)) ht
        rw [hW8] at hP hD
        refine lv_iload_n hx hb dDecreePool_handOver_309 rfl (lv_at hl 7 rfl) ?_
        have hres : sHo n P x j = (nI 4, sLearn (pth (pth (sOut x j) 0 a t b (x.1 0 j 4)) 1 a t b (x.1 0 j 5)) a t (x.1 0 j 5)) := by rw [sHo_u iB iA iT h97, k126_4, sTake_4, sHear, if_pos h292.1, if_pos h292.2]; try rfl
        exact W.iret (v := x.1 0 j 0) hx hb hr (fun t9 ht9 hW9 => ⟨⟨x.1 0 j 0, (wX q cI n S P (sLearn (pth (pth (sOut x j) 0 a t b (x.1 0 j 4)) 1 a t b (x.1 0 j 5)) a t (x.1 0 j 5))), rfl, ⟨by rw [hres]; exact k126_4, by rw [hres]⟩, by rw [ht9]; exact hP, va_K.moved hW9.alike hK, hD⟩, hS.F ht9⟩) hS.2.2 dDecreePool_handOver_310
    refine lv_tableOut (tgt := 298) hx hb dDecreePool_handOver_126 (tb_out 1 4 (by intro j h1 h2; rcases (show j = 1 ∨ j = 2 ∨ j = 3 ∨ j = 4 by omega) with rfl | rfl | rfl | rfl <;> assumption)) (by decide) ?_
    refine lv_aload_n hx hb dDecreePool_handOver_298 rfl (lv_at hl 8 rfl) ?_
    refine va_get (D := D) (ci := 0) (v := .ref (q 13)) (C := RDecreePool) (T := TDecreePool) (N := 9) hx hb hts (fun w h => mc (uDecreePool_in w h)) hown hK hP 0 rfl rfl 5 (by decide) (hts _ (mc wd110)) (fun _ h9 => h9) rfl dDecreePool_handOver_299 ?_
    refine lv_iload hx hb dDecreePool_handOver_302 (lv_at hl 0 rfl) ?_
    refine lv_iload hx hb dDecreePool_handOver_304 (lv_at hl 2 rfl) ?_
    have hPc := hP.sub (ws' := (wLe q cI n (n * S) (hq n S ((sOut x j).2 0)) (sq S ((sOut x j).1 11)))) [13, 14, 15] rfl
    have hDc := hD.sub (ws' := (wLe q cI n (n * S) (hq n S ((sOut x j).2 0)) (sq S ((sOut x j).1 11)))) [13, 14, 15] (by decide) rfl
    refine kx_v (va_runV (As := [.int (nI (a * S + t)), .int (x.1 0 j 5)]) (rest := []) ⟨hx, hb, hml, hown, hts⟩ ((c_learn l D cI cZ q n (n * S) (hq n S ((sOut x j).2 0)) (sq S ((sOut x j).1 11)) (a * S + t) (x.1 0 j 5) (L20 hn5 hS4) (seat_lt ha ht)) H.size) (cwV 2 hts (gV wd278 wd275 wd276 wd6 wd277) rfl rfl rfl (by decide +kernel) ⟨Nat.le_of_ble_eq_true rfl, Nat.le_of_ble_eq_true rfl⟩) ⟨fb_PW, va_recv (q0 := 0) (ci := 4) hK hPc rfl rfl, pre_PW hK hPc hDc hZ⟩ rfl rfl hl.1 rfl (lv_room (Nat.le_of_ble_eq_true rfl)) dDecreePool_handOver_306 ⟨Nat.zero_le _, Nat.zero_le _⟩) hP hD hS hA [13, 14, 15] [0, 1, 2, 3, 4, 5, 6, 7, 8, 9, 10, 11, 12] rfl rfl (by decide) (by decide) (fun w1 H locs hw hP hD hS => ?_)
    obtain rfl := hw
    have hP : va_P D vwCl (wD q cI n S P (n * S) (nI (msk (col ((sOut x j).1 13) 0) n)) ((sOut x j).1 12 0 0) ((sOut x j).1 12 0 1) ((sOut x j).1 0) (cntx P (sOut x j)) (sq S ((sOut x j).1 1)) (sq S ((sOut x j).1 2)) (sq S ((sOut x j).1 3)) (sq S ((sOut x j).1 4)) (sq S ((sOut x j).1 5)) (sq S ((sOut x j).1 8)) (sq S ((sOut x j).1 9)) (sq S ((sOut x j).1 10)) (hq n S ((sOut x j).2 0)) (if (sq S ((sOut x j).1 11)) (a * S + t) = 0 then upd (sq S ((sOut x j).1 11)) (a * S + t) (x.1 0 j 5) else (sq S ((sOut x j).1 11)))) H := hP
    have hD : va_D A (wD q cI n S P (n * S) (nI (msk (col ((sOut x j).1 13) 0) n)) ((sOut x j).1 12 0 0) ((sOut x j).1 12 0 1) ((sOut x j).1 0) (cntx P (sOut x j)) (sq S ((sOut x j).1 1)) (sq S ((sOut x j).1 2)) (sq S ((sOut x j).1 3)) (sq S ((sOut x j).1 4)) (sq S ((sOut x j).1 5)) (sq S ((sOut x j).1 8)) (sq S ((sOut x j).1 9)) (sq S ((sOut x j).1 10)) (hq n S ((sOut x j).2 0)) (if (sq S ((sOut x j).1 11)) (a * S + t) = 0 then upd (sq S ((sOut x j).1 11)) (a * S + t) (x.1 0 j 5) else (sq S ((sOut x j).1 11)))) := hD
    have hW9 : (wD q cI n S P (n * S) (nI (msk (col ((sOut x j).1 13) 0) n)) ((sOut x j).1 12 0 0) ((sOut x j).1 12 0 1) ((sOut x j).1 0) (cntx P (sOut x j)) (sq S ((sOut x j).1 1)) (sq S ((sOut x j).1 2)) (sq S ((sOut x j).1 3)) (sq S ((sOut x j).1 4)) (sq S ((sOut x j).1 5)) (sq S ((sOut x j).1 8)) (sq S ((sOut x j).1 9)) (sq S ((sOut x j).1 10)) (hq n S ((sOut x j).2 0)) (if (sq S ((sOut x j).1 11)) (a * S + t) = 0 then upd (sq S ((sOut x j).1 11)) (a * S + t) (x.1 0 j 5) else (sq S ((sOut x j).1 11)))) = (wX q cI n S P (sLearn (sOut x j) a t (x.1 0 j 5))) := wX_learn (y := sOut x j) ht
    rw [hW9] at hP hD
    refine lv_iload_n hx hb dDecreePool_handOver_309 rfl (lv_at hl 7 rfl) ?_
    have hres : sHo n P x j = (x.1 0 j 0, sLearn (sOut x j) a t (x.1 0 j 5)) := by rw [sHo_u iB iA iT h97, sTake_5 k126_1 k126_2 k126_3 k126_4]; try rfl
    exact W.iret (v := x.1 0 j 0) hx hb hr (fun t9 ht9 hW9 => ⟨⟨x.1 0 j 0, (wX q cI n S P (sLearn (sOut x j) a t (x.1 0 j 5))), rfl, ⟨by rw [hres], by rw [hres]⟩, by rw [ht9]; exact hP, va_K.moved hW9.alike hK, hD⟩, hS.F ht9⟩) hS.2.2 dDecreePool_handOver_310
  · have hP : va_P D vwCl (wX q cI n S P (sOut x j)) H := hP
    have hD : va_D A (wX q cI n S P (sOut x j)) := hD
    have h97 : ¬ x.1 13 a 0 = 0 := h97
    refine lv_if_ne (tgt := 115) hx hb dDecreePool_handOver_100 (by decide) (fun h9 => absurd (by decide) h9) (fun _ => ?_)
    refine lv_aload_n hx hb dDecreePool_handOver_103 rfl (lv_at hl 7 rfl) ?_
    refine lv_dup hx hb dDecreePool_handOver_104 rfl ?_
    refine va_get (D := D) (ci := 0) (v := .int ((sOut x j).1 12 0 1)) (C := RDecreePool) (T := TDecreePool) (N := 9) hx hb hts (fun w h => mc (uDecreePool_in w h)) hown hK hP 0 rfl rfl 8 (by decide) (hts _ (mc wd113)) (fun _ h9 => h9) rfl dDecreePool_handOver_105 ?_
    refine lv_iconst (v := nI 1) hx hb dDecreePool_handOver_108 (by decide) ?_
    refine lv_iadd hx hb dDecreePool_handOver_109 ?_
    refine va_put (D := D) (ci := 0) (v := .int (((sOut x j).1 12 0 1) + (nI 1))) (ty := .int) (C := RDecreePool) (T := TDecreePool) (N := 9) hx hb hts (fun w h => mc (uDecreePool_in w h)) tyDecreePool tyDecreePool_ok nmDecreePool hown hK hP hD hS 0 rfl rfl 8 (by decide) (hts _ (mc wd113)) (fun _ h9 => h9) rfl (by decide +kernel) rfl rfl (Nat.le_of_ble_eq_true rfl) dDecreePool_handOver_110 (fun H locs hP hD hS => ?_)
    have hP : va_P D vwCl (wX q cI n S P (sLost (sOut x j))) H := hP
    have hD : va_D A (wX q cI n S P (sLost (sOut x j))) := hD
    refine lv_iconst (v := nI 0) hx hb dDecreePool_handOver_113 (by decide) ?_
    exact W.iret (v := nI 0) hx hb hr (fun t9 ht9 hW9 => ⟨⟨nI 0, (wX q cI n S P (sLost (sOut x j))), rfl, ⟨by rw [sHo_d iA h97], by rw [sHo_d iA h97]⟩, by rw [ht9]; exact hP, va_K.moved hW9.alike hK, hD⟩, hS.F ht9⟩) hS.2.2 dDecreePool_handOver_114
end
section
/-! Every call keeps what holds -/
theorem ldv_spec (n P : Nat) (x : St) : ∀ d i, i ≤ ldv n P x d i ∧ ldv n P x d i ≤ i + d ∧ (∀ j, i ≤ j → j < ldv n P x d i → ¬ (x.1 0 j 0 ≠ 0 ∧ ¬ sBlk n P x j)) ∧ (ldv n P x d i < i + d → (x.1 0 (ldv n P x d i) 0 ≠ 0 ∧ ¬ sBlk n P x (ldv n P x d i))) := by
  intro d
  induction d with
  | zero => intro i; exact ⟨Nat.le_refl _, Nat.le_refl _, fun j h1 h2 => absurd h1 (Nat.not_le.mpr h2), fun h => absurd h (Nat.lt_irrefl _)⟩
  | succ d ih =>
    intro i
    by_cases h : x.1 0 i 0 ≠ 0 ∧ ¬ sBlk n P x i
    · rw [ldv_s h]
      exact ⟨Nat.le_refl _, by omega, fun j h1 h2 => by omega, fun _ => h⟩
    · rw [ldv_n h]
      obtain ⟨h1, h2, h3, h4⟩ := ih (i + 1)
      refine ⟨by omega, by omega, fun j a b => ?_, fun a => h4 (by omega)⟩
      by_cases hj : j = i
      · subst hj; exact h
      · exact h3 j (by omega) b
theorem i32_pos {u w : Int32} (h1 : -1 ≤ u) (h2 : u < w) : ¬ w < 0 := by
  rw [Int32.le_iff_toInt_le] at h1
  rw [Int32.lt_iff_toInt_lt] at h2 ⊢
  have e : (-1 : Int32).toInt = -1 := by decide
  rw [e] at h1
  rw [Int32.toInt_zero]
  omega
theorem i32_lt_of_le_of_lt {u v w : Int32} (h1 : u ≤ v) (h2 : v < w) : u < w := by
  rw [Int32.le_iff_toInt_le] at h1
  rw [Int32.lt_iff_toInt_lt] at h2 ⊢
  omega
theorem Inv_begin {n S : Nat} {x : St} {a t r : Nat} {v : Int32} (h : Inv n S x) (ha : a < n) (hr : r ≤ 1000) (hb : x.1 2 a t < nI (r * n + a)) (hv : 0 ≤ v) : Inv n S (sBegin x a t (nI (r * n + a)) v) := by
  obtain ⟨h1, h2, h3, h4, h5⟩ := h
  have e1 : (sBegin x a t (nI (r * n + a)) v).1 1 = up2 (x.1 1) a t (nI 1) := rfl
  have e2 : (sBegin x a t (nI (r * n + a)) v).1 2 = up2 (x.1 2) a t (nI (r * n + a)) := rfl
  have e3 : (sBegin x a t (nI (r * n + a)) v).1 3 = up2 (x.1 3) a t (nI 0) := rfl
  have e4 : (sBegin x a t (nI (r * n + a)) v).1 4 = up2 (x.1 4) a t (-1) := rfl
  have e5 : (sBegin x a t (nI (r * n + a)) v).1 5 = up2 (x.1 5) a t v := rfl
  have e6 : (sBegin x a t (nI (r * n + a)) v).1 6 = up2 (x.1 6) a t v := rfl
  have e7 : (sBegin x a t (nI (r * n + a)) v).1 7 = up2 (x.1 7) a t (nI 0) := rfl
  have e0 : (sBegin x a t (nI (r * n + a)) v).1 0 = x.1 0 := rfl
  have e9 : (sBegin x a t (nI (r * n + a)) v).1 9 = x.1 9 := rfl
  have e10 : (sBegin x a t (nI (r * n + a)) v).1 10 = x.1 10 := rfl
  have e11 : (sBegin x a t (nI (r * n + a)) v).1 11 = x.1 11 := rfl
  have e13 : (sBegin x a t (nI (r * n + a)) v).1 13 = x.1 13 := rfl
  refine ⟨Imsg_c e0 h1, ⟨fun s b v v' p q => h2.1 s b v v' (Pr_c e0 e9 e10 p) (Pr_c e0 e9 e10 q), fun s b w p => ?_, fun a' s ha' q => ?_⟩, ?_, ?_, ?_⟩
  · obtain ⟨a', r', g1, g2, g3, g4, g5⟩ := h2.2.1 s b w (Pr_c e0 e9 e10 p)
    refine ⟨a', r', g1, g2, g3, ?_⟩
    rw [e2, e1]
    by_cases z : a' = a ∧ s = t
    · obtain ⟨rfl, rfl⟩ := z
      rw [up2_s]
      have hlt := i32_lt_of_le_of_lt g4 hb
      exact ⟨Int32.le_of_lt hlt, fun _ => Int32.ne_of_lt hlt⟩
    · rw [up2_n z, up2_n z]
      exact ⟨g4, g5⟩
  · rw [e1] at q
    rw [e2]
    by_cases z : a' = a ∧ s = t
    · obtain ⟨rfl, rfl⟩ := z
      rw [up2_s]
      exact ⟨r, hr, rfl⟩
    · rw [up2_n z] at q ⊢
      exact h2.2.2 a' s ha' q
  · unfold Ival at *
    rw [e5, e6, e7, e10, e11]
    exact ⟨up2_all h3.1 hv, up2_all h3.2.1 hv, up2_all h3.2.2.1 (by decide), h3.2.2.2⟩
  · unfold Ibest at *
    rw [e4, e1, e5, e6, e7, e9, e10]
    refine ⟨up2_all h4.1 (by decide), fun a' s q => ?_, h4.2.2⟩
    by_cases z : a' = a ∧ s = t
    · obtain ⟨rfl, rfl⟩ := z
      rw [up2_s, up2_s, up2_s, if_pos (by decide)]
    · rw [up2_n z] at q
      rw [up2_n z, up2_n z, up2_n z, up2_n z]
      exact h4.2.1 a' s q
  · unfold Ibit at *
    rw [e3, e13]
    exact ⟨up2_all (p := fun w => ∃ k, k < 32 ∧ w = nI k) h5.1 ⟨0, by decide, rfl⟩, h5.2⟩
theorem Inv_prom1 {n S : Nat} {x : St} {a t c : Nat} {v o : Int32} (h : Inv n S x) (hc : c < 5) (hv : 0 ≤ v) : Inv n S (sProm1 x a t (nI c) v o) := by
  obtain ⟨h1, h2, h3, h4, h5⟩ := h
  obtain ⟨e, he, he'⟩ := h5.1 a t
  have hE := orb_fin e he c hc
  have hbit : ∀ a' s', ∃ k, k < 32 ∧ up2 (x.1 3) a t (orb (x.1 3 a t) (nI c)) a' s' = nI k :=
    up2_all (p := fun w => ∃ k, k < 32 ∧ w = nI k) h5.1 ⟨e ||| 2 ^ c, hE.2, by rw [he']; exact hE.1⟩
  unfold sProm1
  by_cases q : x.1 4 a t < o
  · rw [if_pos q]
    refine ⟨h1, Ipr_sub h2 (fun _ _ _ z => z) rfl (fun _ _ z => z), ?_, ?_, ?_⟩
    · exact ⟨up2_all h3.1 hv, h3.2.1, up2_all h3.2.2.1 hv, h3.2.2.2⟩
    · refine ⟨fun a' s' => ?_, fun a' s' z => ?_, h4.2.2⟩
      · show -1 ≤ up2 (x.1 4) a t o a' s'
        have hz := up2_all (p := fun w => -1 ≤ w) (a := a) (s := t) (v := o) h4.1 (Int32.le_of_lt (i32_lt_of_le_of_lt (h4.1 a t) q))
        exact hz a' s'
      · show up2 (x.1 5) a t v a' s' = if up2 (x.1 4) a t o a' s' < 0 then x.1 6 a' s' else up2 (x.1 7) a t v a' s'
        by_cases y : a' = a ∧ s' = t
        · obtain ⟨rfl, rfl⟩ := y
          rw [up2_s, up2_s, up2_s, if_neg (i32_pos (h4.1 a' s') q)]
        · rw [up2_n y, up2_n y, up2_n y]
          exact h4.2.1 a' s' z
    · exact ⟨hbit, h5.2⟩
  · rw [if_neg q]
    exact ⟨h1, Ipr_sub h2 (fun _ _ _ z => z) rfl (fun _ _ z => z), h3, h4, hbit, h5.2⟩
theorem prom1_o {x : St} {a t : Nat} {sd v o : Int32} {c : Nat} (h3 : c ≠ 3) (h4 : c ≠ 4) (h5 : c ≠ 5) (h7 : c ≠ 7) : (sProm1 x a t sd v o).1 c = x.1 c := by
  unfold sProm1
  by_cases q : x.1 4 a t < o
  · rw [if_pos q, put_o h7, put_o h5, put_o h4, put_o h3]
  · rw [if_neg q, put_o h3]
/-- the proposer has its majority: the pair is new -/
theorem Inv_win {n S P : Nat} {x : St} {a t c : Nat} {v o b : Int32} (hn : n ≤ 5) (hS : S ≤ 4) (ha : a < n) (ht : t < S) (h : Inv n S x) (hc : c < 5) (hv : 0 ≤ v) (hph : x.1 1 a t = nI 1) (hla : x.1 2 a t = b) :
    Inv n S (sendA P (put (sProm1 x a t (nI c) v o) 1 a t (nI 2)) (nI 3) (nI a) (nI t) b ((sProm1 x a t (nI c) v o).1 5 a t) n) := by
  have hp := Inv_prom1 (a := a) (t := t) (v := v) (o := o) h hc hv
  generalize hy : sProm1 x a t (nI c) v o = y at hp ⊢
  have y1 : y.1 1 = x.1 1 := by rw [← hy]; exact prom1_o (by decide) (by decide) (by decide) (by decide)
  have y2 : y.1 2 = x.1 2 := by rw [← hy]; exact prom1_o (by decide) (by decide) (by decide) (by decide)
  obtain ⟨h1, h2, h3, h4, h5⟩ := hp
  have hval : 0 ≤ y.1 5 a t := h3.1 a t
  have e : ∀ c, c ≠ 0 → (sendA P (put y 1 a t (nI 2)) (nI 3) (nI a) (nI t) b (y.1 5 a t) n).1 c = (put y 1 a t (nI 2)).1 c := fun c hc => sendA_o hc n
  have hm : Imsg n S (put y 1 a t (nI 2)) := Imsg_c (put_o (by decide)) h1
  have hnew : ∀ w, ¬ Pr y t b w := fun w q => by
    obtain ⟨a', r', g1, g2, g3, g4, g5⟩ := h2.2.1 t b w q
    obtain ⟨r, hr, hr2⟩ := h2.2.2 a t ha (by rw [y1]; exact hph)
    rw [y2, hla, g3] at hr2
    have ea := own_u g1 ha (nI_inj (bal_lt hn g1 g2) (bal_lt hn ha hr) hr2)
    subst ea
    exact g5 (by rw [y1]; exact hph) (by rw [y2, hla])
  refine ⟨Imsg_A hm n (fun j hj => ⟨3, a, j, t, by decide, by decide, ha, hj, ht, rfl, rfl, rfl, rfl, hval⟩), ?_, ?_, ?_, ?_⟩
  · refine Ipr_add (E := True) (t := t) (b0 := b) (v0 := y.1 5 a t) h2 (fun s b' v' q => ?_) (by rw [e 2 (by decide)]; exact put_o (by decide)) (fun a' s' q => ?_) (fun _ => ⟨fun w q => absurd q (hnew w), ?_⟩)
    · rcases Pr_A n q with q | ⟨hs, -, g2, g3, g4⟩
      · exact Or.inl (Pr_c (put_o (by decide)) (put_o (by decide)) (put_o (by decide)) q)
      · exact Or.inr ⟨trivial, (nI_inj (by omega) (by omega) g2).symm, g3.symm, g4.symm⟩
    · rw [e 1 (by decide), put_c] at q
      by_cases z : a' = a ∧ s' = t
      · obtain ⟨rfl, rfl⟩ := z
        rw [up2_s] at q
        exact absurd q (by decide)
      · rw [up2_n z] at q
        exact q
    · obtain ⟨r, hr, hr2⟩ := h2.2.2 a t ha (by rw [y1]; exact hph)
      refine ⟨a, r, ha, hr, by rw [← hr2, y2, hla], by rw [y2, hla]; exact Int32.le_refl _, fun q => ?_⟩
      rw [e 1 (by decide), put_c, up2_s] at q
      exact absurd q (by decide)
  · exact Ival_c e ⟨h3.1, h3.2.1, h3.2.2.1, h3.2.2.2⟩
  · refine Ibest_c e ⟨h4.1, fun a' s' q => ?_, h4.2.2⟩
    by_cases z : a' = a ∧ s' = t
    · obtain ⟨rfl, rfl⟩ := z
      exact h4.2.1 a' s' (by rw [y1, hph]; decide)
    · have q2 : up2 (y.1 1) a t (nI 2) a' s' ≠ 0 := q
      rw [up2_n z] at q2
      exact h4.2.1 a' s' q2
  · exact Ibit_c e h5
theorem Inv_acc {n S P : Nat} {x : St} {m a t : Nat} {b v : Int32} (hn : n ≤ 5) (hS : S ≤ 4) (ha : a < n) (ht : t < S) (h : Inv n S x) (hk : x.1 0 m 0 = nI 3) (hsl : x.1 0 m 3 = nI t) (hb : x.1 0 m 4 = b) (hv : x.1 0 m 5 = v) (hv0 : 0 ≤ v) :
    Inv n S (sendA P (sAcc (sOut x m) a t b v) (nI 4) (nI a) (nI t) b v n) := by
  obtain ⟨h1, h2, h3, h4, h5⟩ := h
  have hpr : Pr x t b v := ⟨by omega, Or.inr ⟨m, Or.inl hk, hsl, hb, hv⟩⟩
  have hb0 : 0 ≤ b := by
    obtain ⟨a', r', g1, g2, g3, -, -⟩ := h2.2.1 t b v hpr
    rw [g3]
    exact nI_pos' (bal_lt hn g1 g2)
  have e : ∀ c, c ≠ 0 → (sendA P (sAcc (sOut x m) a t b v) (nI 4) (nI a) (nI t) b v n).1 c = (sAcc (sOut x m) a t b v).1 c := fun c hc => sendA_o hc n
  have e0 : (sAcc (sOut x m) a t b v).1 0 = (put x 0 m 0 (nI 0)).1 0 := rfl
  have e9 : (sAcc (sOut x m) a t b v).1 9 = up2 (x.1 9) a t b := rfl
  have e10 : (sAcc (sOut x m) a t b v).1 10 = up2 (x.1 10) a t v := rfl
  have hz : ∀ s' b' v', Pr (sAcc (sOut x m) a t b v) s' b' v' → Pr x s' b' v' := by
    intro s' b' v' q
    unfold Pr at q
    rw [e0, e9, e10] at q
    rcases q with ⟨hs, ⟨a', q1, q2, q3⟩ | q⟩
    · by_cases z : a' = a ∧ s' = t
      · obtain ⟨rfl, rfl⟩ := z
        rw [up2_s] at q1 q3
        subst q1; subst q3
        exact hpr
      · rw [up2_n z] at q1 q3
        exact ⟨hs, Or.inl ⟨a', q1, q2, q3⟩⟩
    · exact Pr_o (m := m) ⟨hs, Or.inr q⟩
  refine ⟨Imsg_A (Imsg_c e0 (Imsg_o h1)) n (fun j hj => ⟨4, a, j, t, by decide, by decide, ha, hj, ht, rfl, rfl, rfl, rfl, hv0⟩), Ipr_sub h2 (fun s' b' v' q => ?_) (by rw [e 2 (by decide)]; rfl) (fun a' s' q => by rw [e 1 (by decide)] at q; exact q), ?_, ?_, ?_⟩
  · rcases Pr_A n q with q | ⟨hs, -, g2, g3, g4⟩
    · exact hz s' b' v' q
    · have : t = s' := nI_inj (by omega) (by omega) g2
      subst this; subst g3; subst g4
      exact hpr
  · exact Ival_c e ⟨h3.1, h3.2.1, h3.2.2.1, up2_all h3.2.2.2.1 hv0, h3.2.2.2.2⟩
  · refine Ibest_c e ⟨h4.1, h4.2.1, fun a' s' q => ?_⟩
    rw [e9] at q
    rw [e10]
    by_cases z : a' = a ∧ s' = t
    · obtain ⟨rfl, rfl⟩ := z
      rw [up2_s] at q
      exact absurd hb0 (Int32.not_le.mpr q)
    · rw [up2_n z] at q ⊢
      exact h4.2.2 a' s' q
  · exact Ibit_c e h5
theorem Inv_ho {n S P : Nat} {x : St} {m : Nat} (hn : n ≤ 5) (hS : S ≤ 4) (h : Inv n S x) (hk0 : x.1 0 m 0 ≠ 0) : Inv n S (sHo n P x m).2 := by
  obtain ⟨k, c, a, t, hk1, hk5, hc, ha, ht, hk, hsd, hrc, hsl, hv⟩ := h.1 m hk0
  have iA : ix (x.1 0 m 2) = a := by rw [hrc]; exact ix_nI ha (by omega)
  have iT : ix (x.1 0 m 3) = t := by rw [hsl]; exact ix_nI ht (by omega)
  have iB : ix (x.1 0 m 1) = c := by rw [hsd]; exact ix_nI hc (by omega)
  by_cases hd : x.1 13 a 0 = 0
  · rw [sHo_u iB iA iT hd]
    show Inv n S (sTake n P (sOut x m) (x.1 0 m 0) c a t (x.1 0 m 4) (x.1 0 m 5) (x.1 0 m 6))
    have ho := Inv_out (m := m) h
    rcases (show k = 1 ∨ k = 2 ∨ k = 3 ∨ k = 4 ∨ k = 5 by omega) with rfl | rfl | rfl | rfl | rfl
    · rw [hk, sTake_1]
      by_cases q : (sOut x m).1 8 a t < x.1 0 m 4
      · rw [if_pos q]
        refine Inv_7 (Inv_put8 ho) ⟨2, a, c, t, by decide, by decide, ha, hc, ht, rfl, rfl, rfl, rfl, ho.2.2.1.2.2.2.1 a t⟩ (fun t' _ q => ?_)
        exact absurd q (by decide)
      · rw [if_neg q]; exact ho
    · rw [hk, sTake_2]
      by_cases q : (sOut x m).1 1 a t = nI 1 ∧ (sOut x m).1 2 a t = x.1 0 m 4
      · rw [if_pos q]
        by_cases q2 : n < 2 * popn (ix (orb ((sOut x m).1 3 a t) (nI c)))
        · rw [if_pos q2]; exact Inv_win hn hS ha ht ho (by omega) hv q.1 q.2
        · rw [if_neg q2]; exact Inv_prom1 ho (by omega) hv
      · rw [if_neg q]; exact ho
    · rw [hk, sTake_3]
      by_cases q : (sOut x m).1 8 a t ≤ x.1 0 m 4
      · rw [if_pos q]; exact Inv_acc hn hS ha ht h hk hsl rfl rfl hv
      · rw [if_neg q]; exact ho
    · rw [hk, sTake_4]; exact Inv_hear ho hv
    · rw [hk, sTake_5 (by decide) (by decide) (by decide) (by decide)]; exact Inv_learn ho hv
  · rw [sHo_d iA hd]
    exact Inv_lost (Inv_out h)
theorem Inv_sw {n S P : Nat} (hn : n ≤ 5) (hS : S ≤ 4) : ∀ k (x : St), Inv n S x → Inv n S (sSw n P k x).2 := by
  intro k
  induction k with
  | zero => intro x h; exact h
  | succ k ih =>
    intro x h
    show Inv n S (if ldv n P x P 0 = P then (0, x) else ((sSw n P k (sHo n P x (ldv n P x P 0)).2).1 + 1, (sSw n P k (sHo n P x (ldv n P x P 0)).2).2)).2
    by_cases q : ldv n P x P 0 = P
    · rw [if_pos q]; exact h
    · rw [if_neg q]
      by_cases hk : x.1 0 (ldv n P x P 0) 0 = 0
      · exfalso
        obtain ⟨-, h2, -, h4⟩ := ldv_spec n P x P 0
        exact (h4 (by omega)).1 hk
      · exact ih _ (Inv_ho hn hS h hk)
theorem Inv_prep {n S P : Nat} {x : St} {nd sl rd vl : Int32} (hn : n ≤ 5) (hS : S ≤ 4) (h : Inv n S x) : Inv n S (sPrep n S P x nd sl rd vl).2 := by
  unfold sPrep
  by_cases q : okN nd n ∧ okN sl S ∧ 0 ≤ rd ∧ rd ≤ nI 1000 ∧ nI 1 ≤ vl
  · rw [if_pos q]
    obtain ⟨q1, q2, q3, q4, q5⟩ := q
    obtain ⟨a, ha, rfl⟩ := okN_of (by omega) q1
    obtain ⟨t, ht, rfl⟩ := okN_of (by omega) q2
    obtain ⟨r, hr, rfl⟩ := wi_of (P := 1001) (by decide) (by decide) ⟨q3, q4⟩
    rw [ix_nI ha (by omega), ix_nI ht (by omega), pk_mul, nI_add]
    by_cases c1 : x.1 13 a 0 ≠ 0
    · rw [if_pos c1]; exact h
    · rw [if_neg c1]
      by_cases c2 : nI (r * n + a) ≤ x.1 2 a t
      · rw [if_pos c2]; exact h
      · rw [if_neg c2]
        by_cases c3 : P - cntx P x < n
        · rw [if_pos c3]; exact h
        · rw [if_neg c3]
          have hv : 0 ≤ vl := Int32.le_trans (by decide) q5
          refine Inv_A (Inv_begin h ha (by omega) (Int32.not_le.mp c2) hv) n (fun j hj => ⟨1, a, j, t, by decide, by decide, ha, hj, ht, rfl, rfl, rfl, rfl, by decide⟩) (fun t' _ q => ?_)
          exact absurd q (by decide)
  · rw [if_neg q]; exact h
theorem Inv_del {n S P : Nat} {x : St} {v : Int32} (hn : n ≤ 5) (hS : S ≤ 4) (h : Inv n S x) : Inv n S (sDel n P x v).2 := by
  unfold sDel
  by_cases q : isM P x v
  · rw [if_pos q]
    by_cases q2 : sBlk n P x (ix v)
    · rw [if_pos q2]; exact h
    · rw [if_neg q2]; exact Inv_ho hn hS h q.2
  · rw [if_neg q]; exact h
theorem Inv_sweep {n S P : Nat} {x : St} {v : Int32} (hn : n ≤ 5) (hS : S ≤ 4) (h : Inv n S x) : Inv n S (sSweep n P x v).2 := by
  unfold sSweep
  by_cases q : 0 ≤ v ∧ v ≤ nI 100
  · rw [if_pos q]; exact Inv_sw hn hS _ _ h
  · rw [if_neg q]; exact h
theorem Inv_drop {n S P : Nat} {x : St} {v : Int32} (h : Inv n S x) : Inv n S (sDrop P x v).2 := by
  unfold sDrop
  by_cases q : isM P x v
  · rw [if_pos q]; exact Inv_lost (Inv_o h)
  · rw [if_neg q]; exact h
theorem Inv_dup {n S P : Nat} {x : St} {v : Int32} (h : Inv n S x) : Inv n S (sDup P x v).2 := by
  unfold sDup
  by_cases q : isM P x v
  · rw [if_pos q]
    by_cases q2 : cntx P x = P
    · rw [if_pos q2]; exact h
    · rw [if_neg q2]
      exact Inv_7 h (h.1 (ix v) q.2) (fun t' ht' g1 g2 => ⟨ht', Or.inr ⟨ix v, g1, g2, rfl, rfl⟩⟩)
  · rw [if_neg q]; exact h
theorem Inv_13 {n S : Nat} {x : St} {a : Nat} {v : Int32} (h : Inv n S x) (hv : v = nI 0 ∨ v = nI 1) : Inv n S (put x 13 a 0 v) := by
  obtain ⟨h1, h2, h3, h4, h5⟩ := h
  have e13 : (put x 13 a 0 v).1 13 = up2 (x.1 13) a 0 v := put_c
  refine ⟨h1, Ipr_sub h2 (fun _ _ _ q => q) rfl (fun _ _ q => q), h3, h4, h5.1, fun a' => ?_⟩
  rw [e13]
  by_cases z : a' = a
  · subst z; rw [up2_s]; exact hv
  · rw [up2_n (fun q => z q.1)]; exact h5.2 a'
theorem Inv_crash {n S : Nat} {x : St} {v : Int32} (h : Inv n S x) : Inv n S (sCrash n x v).2 := by
  unfold sCrash
  by_cases q : okN v n ∧ x.1 13 (ix v) 0 = 0
  · rw [if_pos q]; exact Inv_13 h (Or.inr rfl)
  · rw [if_neg q]; exact h
theorem Inv_back {n S : Nat} {x : St} {a : Nat} (h : Inv n S x) : Inv n S (sBack x a) := by
  obtain ⟨h1, h2, h3, h4, h5⟩ := h
  have e1 : ∀ a' s', (sBack x a).1 1 a' s' = if a' = a then nI 0 else x.1 1 a' s' := fun a' s' => by simp [sBack]
  have e3 : ∀ a' s', (sBack x a).1 3 a' s' = if a' = a then nI 0 else x.1 3 a' s' := fun a' s' => by simp [sBack]
  have e4 : ∀ a' s', (sBack x a).1 4 a' s' = if a' = a then -1 else x.1 4 a' s' := fun a' s' => by simp [sBack]
  have e7 : ∀ a' s', (sBack x a).1 7 a' s' = if a' = a then nI 0 else x.1 7 a' s' := fun a' s' => by simp [sBack]
  have e11 : ∀ a' s', (sBack x a).1 11 a' s' = if a' = a then nI 0 else x.1 11 a' s' := fun a' s' => by simp [sBack]
  have e : ∀ c, c ≠ 1 → c ≠ 3 → c ≠ 4 → c ≠ 7 → c ≠ 11 → (sBack x a).1 c = x.1 c := fun c z1 z3 z4 z7 z11 => by funext a' s'; simp [sBack, z1, z3, z4, z7, z11]
  have c0 := e 0 (by decide) (by decide) (by decide) (by decide) (by decide)
  have c2 := e 2 (by decide) (by decide) (by decide) (by decide) (by decide)
  have c5 := e 5 (by decide) (by decide) (by decide) (by decide) (by decide)
  have c6 := e 6 (by decide) (by decide) (by decide) (by decide) (by decide)
  have c9 := e 9 (by decide) (by decide) (by decide) (by decide) (by decide)
  have c10 := e 10 (by decide) (by decide) (by decide) (by decide) (by decide)
  have c13 := e 13 (by decide) (by decide) (by decide) (by decide) (by decide)
  refine ⟨Imsg_c c0 h1, Ipr_sub h2 (fun _ _ _ q => Pr_c c0 c9 c10 q) c2 (fun a' s' q => ?_), ?_, ?_, ?_⟩
  · rw [e1] at q
    by_cases z : a' = a
    · rw [if_pos z] at q; exact absurd q (by decide)
    · rw [if_neg z] at q; exact q
  · unfold Ival at *
    rw [c5, c6, c10]
    refine ⟨h3.1, h3.2.1, fun a' s' => ?_, h3.2.2.2.1, fun a' s' => ?_⟩
    · rw [e7]; split
      · decide
      · exact h3.2.2.1 a' s'
    · rw [e11]; split
      · decide
      · exact h3.2.2.2.2 a' s'
  · unfold Ibest at *
    rw [c5, c6, c9, c10]
    refine ⟨fun a' s' => ?_, fun a' s' q => ?_, h4.2.2⟩
    · rw [e4]; split
      · decide
      · exact h4.1 a' s'
    · rw [e1] at q
      rw [e4, e7]
      by_cases z : a' = a
      · rw [if_pos z] at q; exact absurd rfl q
      · rw [if_neg z] at q; rw [if_neg z, if_neg z]; exact h4.2.1 a' s' q
  · unfold Ibit at *
    rw [c13]
    refine ⟨fun a' s' => ?_, h5.2⟩
    rw [e3]; split
    · exact ⟨0, by decide, rfl⟩
    · exact h5.1 a' s'
theorem Inv_rest {n S : Nat} {x : St} {v : Int32} (h : Inv n S x) : Inv n S (sRest n x v).2 := by
  unfold sRest
  by_cases q : okN v n ∧ x.1 13 (ix v) 0 ≠ 0
  · rw [if_pos q]; exact Inv_back (Inv_13 h (Or.inl rfl))
  · rw [if_neg q]; exact h
theorem Inv_tell {n S P : Nat} {x : St} {nd sl : Int32} (hn : n ≤ 5) (hS : S ≤ 4) (h : Inv n S x) : Inv n S (sTell n S P x nd sl).2 := by
  unfold sTell
  by_cases q : okN nd n ∧ okN sl S ∧ x.1 11 (ix nd) (ix sl) ≠ 0
  · rw [if_pos q]
    obtain ⟨q1, q2, q3⟩ := q
    obtain ⟨a, ha, rfl⟩ := okN_of (by omega) q1
    obtain ⟨t, ht, rfl⟩ := okN_of (by omega) q2
    by_cases c1 : x.1 13 (ix (nI a)) 0 ≠ 0
    · rw [if_pos c1]; exact h
    · rw [if_neg c1]
      by_cases c3 : P - cntx P x < n
      · rw [if_pos c3]; exact h
      · rw [if_neg c3]
        refine Inv_A h n (fun j hj => ⟨5, a, j, t, by decide, by decide, ha, hj, ht, rfl, rfl, rfl, rfl, h.2.2.1.2.2.2.2 _ _⟩) (fun t' _ q => ?_)
        exact absurd q (by decide)
  · rw [if_neg q]; exact h
end
section
theorem clr_0 {x : St} {a : Nat} : clr x a 0 = x := by
  unfold clr
  apply Prod.ext
  · funext c a' s'; simp
  · funext c a' s' b'; simp
theorem clr_o {x : St} {a i c : Nat} (h1 : c ≠ 1) (h3 : c ≠ 3) (h4 : c ≠ 4) (h7 : c ≠ 7) (h11 : c ≠ 11) : (clr x a i).1 c = x.1 c := by
  funext a' s'
  simp [clr, h1, h3, h4, h7, h11]
theorem clr_u {x : St} {a i c : Nat} {v : Int32} (h : ∀ a' s' j, (clr x a j).1 c a' s' = if a' = a ∧ s' < j then v else x.1 c a' s') : up2 ((clr x a i).1 c) a i v = (clr x a (i + 1)).1 c := by
  funext a' s'
  unfold up2
  rw [h, h]
  by_cases q : a' = a ∧ s' = i
  · rw [if_pos q, if_pos (by omega)]
  · rw [if_neg q]
    by_cases q2 : a' = a ∧ s' < i
    · rw [if_pos q2, if_pos (by omega)]
    · rw [if_neg q2, if_neg (by omega)]
theorem clr_h {n S a i : Nat} {x : St} (hn : 1 ≤ n) (hi : i < S) : fillr (hq n S ((clr x a i).2 0)) ((a * S + i) * n) (-1) n = hq n S ((clr x a (i + 1)).2 0) := by
  funext j
  rw [fillr_at]
  unfold hq
  have e : ∀ k a' s' b', (clr x a k).2 0 a' s' b' = if a' = a ∧ s' < k then -1 else x.2 0 a' s' b' := fun k a' s' b' => by simp [clr]
  rw [e, e]
  have hdm := Nat.div_add_mod' j n
  have hml := Nat.mod_lt j (show n > 0 by omega)
  have hdm2 := Nat.div_add_mod' (j / n) S
  by_cases q : (a * S + i) * n ≤ j ∧ j < (a * S + i) * n + n
  · have hd : j / n = a * S + i := by
      have h1 : (a * S + i) * n / n = a * S + i := Nat.mul_div_cancel _ (by omega)
      have h2 : ((a * S + i) * n + (j - (a * S + i) * n)) / n = a * S + i := (dv_at (by omega)).1
      rw [show (a * S + i) * n + (j - (a * S + i) * n) = j by omega] at h2
      exact h2
    rw [if_pos q, hd, (dv_at hi).1, (dv_at hi).2, if_pos ⟨rfl, by omega⟩]
  · rw [if_neg q]
    by_cases q2 : j / n / S = a ∧ j / n % S < i
    · rw [if_pos q2, if_pos ⟨q2.1, by omega⟩]
    · rw [if_neg q2]
      by_cases q3 : j / n / S = a ∧ j / n % S < i + 1
      · exfalso
        apply q
        have : j / n % S = i := by omega
        rw [this, q3.1] at hdm2
        rw [hdm2]
        omega
      · rw [if_neg q3]
theorem wX_clr {q : Nat → Nat} {cI : ClassId} {n S P a i : Nat} {x : St} (hn : 1 ≤ n) (hi : i < S) :
    wD q cI n S P (n * S) (nI (msk (col ((clr x a i).1 13) 0) n)) ((clr x a i).1 12 0 0) ((clr x a i).1 12 0 1) ((clr x a i).1 0) (cntx P (clr x a i)) (upd (sq S ((clr x a i).1 1)) (a * S + i) (nI 0)) (sq S ((clr x a i).1 2)) (upd (sq S ((clr x a i).1 3)) (a * S + i) (nI 0)) (upd (sq S ((clr x a i).1 4)) (a * S + i) (-1)) (sq S ((clr x a i).1 5)) (sq S ((clr x a i).1 8)) (sq S ((clr x a i).1 9)) (sq S ((clr x a i).1 10)) (fillr (hq n S ((clr x a i).2 0)) ((a * S + i) * n) (-1) n) (upd (sq S ((clr x a i).1 11)) (a * S + i) (nI 0))
    = wX q cI n S P (clr x a (i + 1)) := by
  have e : ∀ c, c ≠ 1 → c ≠ 3 → c ≠ 4 → c ≠ 7 → c ≠ 11 → (clr x a i).1 c = (clr x a (i + 1)).1 c := fun c h1 h3 h4 h7 h11 => by rw [clr_o h1 h3 h4 h7 h11, clr_o h1 h3 h4 h7 h11]
  have e0 : cntx P (clr x a i) = cntx P (clr x a (i + 1)) := by unfold cntx; rw [e 0 (by decide) (by decide) (by decide) (by decide) (by decide)]
  rw [sq_up hi, sq_up hi, sq_up hi, sq_up hi, clr_h hn hi, e0, e 0 (by decide) (by decide) (by decide) (by decide) (by decide), e 2 (by decide) (by decide) (by decide) (by decide) (by decide), e 5 (by decide) (by decide) (by decide) (by decide) (by decide), e 8 (by decide) (by decide) (by decide) (by decide) (by decide), e 9 (by decide) (by decide) (by decide) (by decide) (by decide), e 10 (by decide) (by decide) (by decide) (by decide) (by decide), e 12 (by decide) (by decide) (by decide) (by decide) (by decide), e 13 (by decide) (by decide) (by decide) (by decide) (by decide)]
  rw [clr_u (c := 1) (v := nI 0) (fun a' s' j => by simp [clr]), clr_u (c := 3) (v := nI 0) (fun a' s' j => by simp [clr]), clr_u (c := 4) (v := -1) (fun a' s' j => by simp [clr]), clr_u (c := 11) (v := nI 0) (fun a' s' j => by simp [clr])]
theorem back_o {x : St} {a c : Nat} (h1 : c ≠ 1) (h3 : c ≠ 3) (h4 : c ≠ 4) (h7 : c ≠ 7) (h11 : c ≠ 11) : (sBack x a).1 c = x.1 c := by
  funext a' s'
  simp [sBack, h1, h3, h4, h7, h11]
theorem back_13 {x : St} {a : Nat} : (sBack x a).1 13 = x.1 13 := back_o (by decide) (by decide) (by decide) (by decide) (by decide)
theorem back_c {x : St} {a S a' s' : Nat} (c : Nat) (h : s' < S) : (clr x a S).1 c a' s' = (sBack x a).1 c a' s' := by
  simp only [clr, sBack]
  by_cases q : a' = a
  · subst q
    by_cases q2 : c = 1 ∨ c = 3 ∨ c = 7 ∨ c = 11
    · simp [q2, h]
    · by_cases q3 : c = 4
      · simp [q3, h]
      · simp [q2, q3]
  · simp [q]
theorem wX_back {q : Nat → Nat} {cI : ClassId} {n S P a : Nat} {x : St} (hn : 1 ≤ n) (hS : 1 ≤ S) : wX q cI n S P (clr x a S) = wX q cI n S P (sBack x a) := by
  have e : ∀ c, sq S ((clr x a S).1 c) = sq S ((sBack x a).1 c) := fun c => sq_ext (by omega) (fun a' s' h => back_c c h)
  have o : ∀ c, c ≠ 1 → c ≠ 3 → c ≠ 4 → c ≠ 7 → c ≠ 11 → (clr x a S).1 c = (sBack x a).1 c := fun c h1 h3 h4 h7 h11 => by rw [clr_o h1 h3 h4 h7 h11, back_o h1 h3 h4 h7 h11]
  have e0 : cntx P (clr x a S) = cntx P (sBack x a) := by unfold cntx; rw [o 0 (by decide) (by decide) (by decide) (by decide) (by decide)]
  have eh : hq n S ((clr x a S).2 0) = hq n S ((sBack x a).2 0) := by
    funext j
    unfold hq
    have := Nat.mod_lt (j / n) (show S > 0 by omega)
    simp only [clr, sBack]
    by_cases z : j / n / S = a
    · simp [z, this]
    · simp [z]
  simp only [wX, e, eh, e0, o 0 (by decide) (by decide) (by decide) (by decide) (by decide), o 12 (by decide) (by decide) (by decide) (by decide) (by decide), o 13 (by decide) (by decide) (by decide) (by decide) (by decide)]
end
section
theorem dDecreePool_prepare_0 : decode cDecreePool_prepare 0 = .ok (.aload_n 0, 1) := by decide +kernel
theorem dDecreePool_prepare_1 : decode cDecreePool_prepare 1 = .ok (.iload_n 1, 1) := by decide +kernel
theorem dDecreePool_prepare_2 : decode cDecreePool_prepare 2 = .ok (.iload_n 2, 1) := by decide +kernel
theorem dDecreePool_prepare_3 : decode cDecreePool_prepare 3 = .ok (.invokevirtual 61, 3) := by decide +kernel
theorem dDecreePool_prepare_6 : decode cDecreePool_prepare 6 = .ok (.ifCond .eq 20, 3) := by decide +kernel
theorem dDecreePool_prepare_9 : decode cDecreePool_prepare 9 = .ok (.iload_n 3, 1) := by decide +kernel
theorem dDecreePool_prepare_10 : decode cDecreePool_prepare 10 = .ok (.iconst 0, 1) := by decide +kernel
theorem dDecreePool_prepare_11 : decode cDecreePool_prepare 11 = .ok (.sipush 1000, 3) := by decide +kernel
theorem dDecreePool_prepare_14 : decode cDecreePool_prepare 14 = .ok (.invokestatic 7, 3) := by decide +kernel
theorem dDecreePool_prepare_17 : decode cDecreePool_prepare 17 = .ok (.ifCond .eq 9, 3) := by decide +kernel
theorem dDecreePool_prepare_20 : decode cDecreePool_prepare 20 = .ok (.iload 4, 2) := by decide +kernel
theorem dDecreePool_prepare_22 : decode cDecreePool_prepare 22 = .ok (.iconst 1, 1) := by decide +kernel
theorem dDecreePool_prepare_23 : decode cDecreePool_prepare 23 = .ok (.if_icmp .ge 5, 3) := by decide +kernel
theorem dDecreePool_prepare_26 : decode cDecreePool_prepare 26 = .ok (.iconst (-1), 1) := by decide +kernel
theorem dDecreePool_prepare_27 : decode cDecreePool_prepare 27 = .ok (.ireturn, 1) := by decide +kernel
theorem dDecreePool_prepare_28 : decode cDecreePool_prepare 28 = .ok (.aload_n 0, 1) := by decide +kernel
theorem dDecreePool_prepare_29 : decode cDecreePool_prepare 29 = .ok (.iload_n 1, 1) := by decide +kernel
theorem dDecreePool_prepare_30 : decode cDecreePool_prepare 30 = .ok (.invokevirtual 65, 3) := by decide +kernel
theorem dDecreePool_prepare_33 : decode cDecreePool_prepare 33 = .ok (.ifCond .ne 6, 3) := by decide +kernel
theorem dDecreePool_prepare_36 : decode cDecreePool_prepare 36 = .ok (.bipush (-2), 2) := by decide +kernel
theorem dDecreePool_prepare_38 : decode cDecreePool_prepare 38 = .ok (.ireturn, 1) := by decide +kernel
theorem dDecreePool_prepare_39 : decode cDecreePool_prepare 39 = .ok (.aload_n 0, 1) := by decide +kernel
theorem dDecreePool_prepare_40 : decode cDecreePool_prepare 40 = .ok (.iload_n 1, 1) := by decide +kernel
theorem dDecreePool_prepare_41 : decode cDecreePool_prepare 41 = .ok (.iload_n 2, 1) := by decide +kernel
theorem dDecreePool_prepare_42 : decode cDecreePool_prepare 42 = .ok (.invokevirtual 69, 3) := by decide +kernel
theorem dDecreePool_prepare_45 : decode cDecreePool_prepare 45 = .ok (.istore 5, 2) := by decide +kernel
theorem dDecreePool_prepare_47 : decode cDecreePool_prepare 47 = .ok (.iload_n 3, 1) := by decide +kernel
theorem dDecreePool_prepare_48 : decode cDecreePool_prepare 48 = .ok (.aload_n 0, 1) := by decide +kernel
theorem dDecreePool_prepare_49 : decode cDecreePool_prepare 49 = .ok (.getfield 13, 3) := by decide +kernel
theorem dDecreePool_prepare_52 : decode cDecreePool_prepare 52 = .ok (.imul, 1) := by decide +kernel
theorem dDecreePool_prepare_53 : decode cDecreePool_prepare 53 = .ok (.iload_n 1, 1) := by decide +kernel
theorem dDecreePool_prepare_54 : decode cDecreePool_prepare 54 = .ok (.iadd, 1) := by decide +kernel
theorem dDecreePool_prepare_55 : decode cDecreePool_prepare 55 = .ok (.istore 6, 2) := by decide +kernel
theorem dDecreePool_prepare_57 : decode cDecreePool_prepare 57 = .ok (.iload 6, 2) := by decide +kernel
theorem dDecreePool_prepare_59 : decode cDecreePool_prepare 59 = .ok (.aload_n 0, 1) := by decide +kernel
theorem dDecreePool_prepare_60 : decode cDecreePool_prepare 60 = .ok (.getfield 34, 3) := by decide +kernel
theorem dDecreePool_prepare_63 : decode cDecreePool_prepare 63 = .ok (.iload 5, 2) := by decide +kernel
theorem dDecreePool_prepare_65 : decode cDecreePool_prepare 65 = .ok (.invokevirtual 73, 3) := by decide +kernel
theorem dDecreePool_prepare_68 : decode cDecreePool_prepare 68 = .ok (.if_icmp .gt 6, 3) := by decide +kernel
theorem dDecreePool_prepare_71 : decode cDecreePool_prepare 71 = .ok (.bipush (-3), 2) := by decide +kernel
theorem dDecreePool_prepare_73 : decode cDecreePool_prepare 73 = .ok (.ireturn, 1) := by decide +kernel
theorem dDecreePool_prepare_74 : decode cDecreePool_prepare 74 = .ok (.aload_n 0, 1) := by decide +kernel
theorem dDecreePool_prepare_75 : decode cDecreePool_prepare 75 = .ok (.getfield 25, 3) := by decide +kernel
theorem dDecreePool_prepare_78 : decode cDecreePool_prepare 78 = .ok (.invokevirtual 77, 3) := by decide +kernel
theorem dDecreePool_prepare_81 : decode cDecreePool_prepare 81 = .ok (.aload_n 0, 1) := by decide +kernel
theorem dDecreePool_prepare_82 : decode cDecreePool_prepare 82 = .ok (.getfield 13, 3) := by decide +kernel
theorem dDecreePool_prepare_85 : decode cDecreePool_prepare 85 = .ok (.if_icmp .ge 6, 3) := by decide +kernel
theorem dDecreePool_prepare_88 : decode cDecreePool_prepare 88 = .ok (.bipush (-4), 2) := by decide +kernel
theorem dDecreePool_prepare_90 : decode cDecreePool_prepare 90 = .ok (.ireturn, 1) := by decide +kernel
theorem dDecreePool_prepare_91 : decode cDecreePool_prepare 91 = .ok (.aload_n 0, 1) := by decide +kernel
theorem dDecreePool_prepare_92 : decode cDecreePool_prepare 92 = .ok (.getfield 34, 3) := by decide +kernel
theorem dDecreePool_prepare_95 : decode cDecreePool_prepare 95 = .ok (.iload 5, 2) := by decide +kernel
theorem dDecreePool_prepare_97 : decode cDecreePool_prepare 97 = .ok (.iload 6, 2) := by decide +kernel
theorem dDecreePool_prepare_99 : decode cDecreePool_prepare 99 = .ok (.iload 4, 2) := by decide +kernel
theorem dDecreePool_prepare_101 : decode cDecreePool_prepare 101 = .ok (.invokevirtual 81, 3) := by decide +kernel
theorem dDecreePool_prepare_104 : decode cDecreePool_prepare 104 = .ok (.aload_n 0, 1) := by decide +kernel
theorem dDecreePool_prepare_105 : decode cDecreePool_prepare 105 = .ok (.iconst 1, 1) := by decide +kernel
theorem dDecreePool_prepare_106 : decode cDecreePool_prepare 106 = .ok (.iload_n 1, 1) := by decide +kernel
theorem dDecreePool_prepare_107 : decode cDecreePool_prepare 107 = .ok (.iload_n 2, 1) := by decide +kernel
theorem dDecreePool_prepare_108 : decode cDecreePool_prepare 108 = .ok (.iload 6, 2) := by decide +kernel
theorem dDecreePool_prepare_110 : decode cDecreePool_prepare 110 = .ok (.iconst 0, 1) := by decide +kernel
theorem dDecreePool_prepare_111 : decode cDecreePool_prepare 111 = .ok (.invokevirtual 85, 3) := by decide +kernel
theorem dDecreePool_prepare_114 : decode cDecreePool_prepare 114 = .ok (.iload 6, 2) := by decide +kernel
theorem dDecreePool_prepare_116 : decode cDecreePool_prepare 116 = .ok (.ireturn, 1) := by decide +kernel
set_option maxRecDepth 100000 in
set_option maxHeartbeats 4000000 in
theorem c_prepare (l : Launch) (D : va_G) (cI cZ : ClassId) (q : Nat → Nat) (n : Nat) (S : Nat) (P : Nat) (x : St) (nd : Int32) (sl : Int32) (rd : Int32) (vl : Int32) (hn1 : 1 ≤ n) (hn5 : n ≤ 5) (hS1 : 1 ≤ S) (hS4 : S ≤ 4) (hP5 : 5 ≤ P) (hP64 : P ≤ 64) : MI l D [(cI, .int), (cZ, .boolean)] yDecreePool_prepare wsDecreePool_prepare ({ frames := 4, cells := 0, slots := 0, locals := 98 }) [.ref (q 0), .int nd, .int sl, .int rd, .int vl] (wX q cI n S P x) (fun r w => r = (sPrep n S P x nd sl rd vl).1 ∧ w = (wX q cI n S P (sPrep n S P x nd sl rd vl).2)) := by
  intro sz
  refine Met.ofW (cc := cDecreePool_prepare) (maxL := 7) (ret := (Option.some .int)) (by decide) rfl ?_
  intro p e s m args below meth c s₁ B hml hv
  obtain ⟨rfl, hsz, hP, hK, hD0, hZ⟩ := hv
  have hx := B.exec
  have hb := B.bytes
  have hr := B.returns
  have hts := atoms_spec (ws := wsDecreePool_prepare) B.pre
  have hown : s.vm.findClass RDecreePool = some m.cls := findClass_of_methodNamed B.named
  have hlocks := B.notSynchronized
  subst hsz
  have hD := hD0.self (sz := s.heap.size)
  generalize hAe : va_A (wX q cI n S P x) s.heap.size = A at hD ⊢
  have hA : ∀ q : Nat, s.heap.size ≤ q → A q := fun q h => by rw [← hAe]; exact Or.inr h
  have hS : va_S A s.heap s.heap [] := va_S.rf
  have hP : va_P D vwCl (wX q cI n S P x) s.heap := hP
  have hl := lv_entry ([.ref (q 0), .int nd, .int sl, .int rd, .int vl]) (n := 7) (Nat.le_of_ble_eq_true rfl)
  rw [lg_entry_eq]
  generalize (lg_sl ([.ref (q 0), .int nd, .int sl, .int rd, .int vl]) ++ List.replicate (7 - (lg_sl ([.ref (q 0), .int nd, .int sl, .int rd, .int vl])).length) Slot.unset).toArray = ls at hl ⊢
  have hl : lv_has ls 7 [(0, .ref (q 0)), (1, .int nd), (2, .int sl), (3, .int rd), (4, .int vl)] := hl
  refine lv_aload_n hx hb dDecreePool_prepare_0 rfl (lv_at hl 0 rfl) ?_
  refine lv_iload_n hx hb dDecreePool_prepare_1 rfl (lv_at hl 1 rfl) ?_
  refine lv_iload_n hx hb dDecreePool_prepare_2 rfl (lv_at hl 2 rfl) ?_
  have hPc := hP.sub (ws' := (wX q cI n S P x)) [0, 1, 2, 3, 4, 5, 6, 7, 8, 9, 10, 11, 12, 13, 14, 15] rfl
  have hDc := hD.sub (ws' := (wX q cI n S P x)) [0, 1, 2, 3, 4, 5, 6, 7, 8, 9, 10, 11, 12, 13, 14, 15] (by decide) rfl
  refine kx_i (va_runV (As := [.int nd, .int sl]) (rest := []) ⟨hx, hb, hml, hown, hts⟩ ((c_hasSeat l D cI cZ q n S P x nd sl (hn1) (hn5) (hS1) (hS4) (hP5) (hP64)) s.heap.size) (cwV 2 hts (gV wd137 wd139 sl_DecreePool_hasSeat wd1 wd140) rfl rfl rfl (by decide +kernel) ⟨Nat.le_of_ble_eq_true rfl, Nat.le_of_ble_eq_true rfl⟩) ⟨fb_PW, va_recv (q0 := 0) (ci := 0) hK hPc rfl rfl, pre_PW hK hPc hDc hZ⟩ rfl rfl hl.1 rfl (lv_room (Nat.le_of_ble_eq_true rfl)) dDecreePool_prepare_3 ⟨Nat.zero_le _, Nat.zero_le _⟩) hP hD hS hA [0, 1, 2, 3, 4, 5, 6, 7, 8, 9, 10, 11, 12, 13, 14, 15] [] rfl rfl (by decide) (by decide) (fun r w1 H locs hw hP hD hS => ?_)
  rcases hw with ⟨rfl, h3, rfl⟩ | ⟨rfl, h3, rfl⟩
  · have hP : va_P D vwCl (wX q cI n S P x) H := hP
    have hD : va_D A (wX q cI n S P x) := hD
    obtain ⟨a, ha, rfl⟩ := okN_of (show n < 2 ^ 31 by omega) h3.1
    obtain ⟨t, ht, rfl⟩ := okN_of (show S < 2 ^ 31 by omega) h3.2
    refine lv_if_eq (tgt := 26) hx hb dDecreePool_prepare_6 (by decide) (fun h9 => absurd h9 (by decide)) (fun _ => ?_)
    refine lv_iload_n hx hb dDecreePool_prepare_9 rfl (lv_at hl 3 rfl) ?_
    refine lv_iconst (v := nI 0) hx hb dDecreePool_prepare_10 (by decide) ?_
    refine lv_sipush (v := nI 1000) hx hb dDecreePool_prepare_11 (by decide) ?_
    have hPc := hP.sub (ws' := ([] : va_W)) [] rfl
    have hDc := hD.sub (ws' := ([] : va_W)) [] (by decide) rfl
    refine kx_i (va_runS (As := [.int rd, .int (nI 0), .int (nI 1000)]) (rest := []) ⟨hx, hb, hml, hown, hts⟩ ((c_isWithin l D cI cZ rd (nI 0) (nI 1000)) H.size) (va_cwS 3 hts (gS wd17 wd18 wd1 wd19) rfl rfl rfl (by decide +kernel) ⟨Nat.le_of_ble_eq_true rfl, Nat.le_of_ble_eq_true rfl⟩) ⟨fb_PW, pre_PW hK hPc hDc hZ⟩ rfl rfl hl.1 rfl (lv_room (Nat.le_of_ble_eq_true rfl)) dDecreePool_prepare_14 ⟨Nat.zero_le _, Nat.zero_le _⟩) hP hD hS hA [] [0, 1, 2, 3, 4, 5, 6, 7, 8, 9, 10, 11, 12, 13, 14, 15] rfl rfl (by decide) (by decide) (fun r w1 H locs hw hP hD hS => ?_)
    rcases hw with ⟨rfl, h14, rfl⟩ | ⟨rfl, h14, rfl⟩
    · have hP : va_P D vwCl (wX q cI n S P x) H := hP
      have hD : va_D A (wX q cI n S P x) := hD
      obtain ⟨rr, hrr, rfl⟩ := wi_of (P := 1001) (by decide) (by decide) h14
      refine lv_if_eq (tgt := 26) hx hb dDecreePool_prepare_17 (by decide) (fun h9 => absurd h9 (by decide)) (fun _ => ?_)
      refine lv_iload hx hb dDecreePool_prepare_20 (lv_at hl 4 rfl) ?_
      refine lv_iconst (v := nI 1) hx hb dDecreePool_prepare_22 (by decide) ?_
      refine lv_icmp_ge (tgt := 28) hx hb dDecreePool_prepare_23 (by decide) (fun c23 => ?_) (fun c23 => ?_)
      · have hok : okN (nI a) n ∧ okN (nI t) S ∧ 0 ≤ nI rr ∧ nI rr ≤ nI 1000 ∧ nI 1 ≤ vl := ⟨okN_nI ha (by omega), okN_nI ht (by omega), h14.1, h14.2, c23⟩
        have hbal : nI rr * nI n + nI a = nI (rr * n + a) := by rw [pk_mul, nI_add]
        refine lv_aload_n hx hb dDecreePool_prepare_28 rfl (lv_at hl 0 rfl) ?_
        refine lv_iload_n hx hb dDecreePool_prepare_29 rfl (lv_at hl 1 rfl) ?_
        have hPc := hP.sub (ws' := (wX q cI n S P x)) [0, 1, 2, 3, 4, 5, 6, 7, 8, 9, 10, 11, 12, 13, 14, 15] rfl
        have hDc := hD.sub (ws' := (wX q cI n S P x)) [0, 1, 2, 3, 4, 5, 6, 7, 8, 9, 10, 11, 12, 13, 14, 15] (by decide) rfl
        refine kx_i (va_runV (As := [.int (nI a)]) (rest := []) ⟨hx, hb, hml, hown, hts⟩ ((c_isUp l D cI cZ q n S P x a (hn1) (hn5) (hS1) (hS4) (hP5) (hP64) (by omega)) H.size) (cwV 1 hts (gV wd149 wd151 sl_DecreePool_isUp wd1 wd152) rfl rfl rfl (by decide +kernel) ⟨Nat.le_of_ble_eq_true rfl, Nat.le_of_ble_eq_true rfl⟩) ⟨fb_PW, va_recv (q0 := 0) (ci := 0) hK hPc rfl rfl, pre_PW hK hPc hDc hZ⟩ rfl rfl hl.1 rfl (lv_room (Nat.le_of_ble_eq_true rfl)) dDecreePool_prepare_30 ⟨Nat.zero_le _, Nat.zero_le _⟩) hP hD hS hA [0, 1, 2, 3, 4, 5, 6, 7, 8, 9, 10, 11, 12, 13, 14, 15] [] rfl rfl (by decide) (by decide) (fun r w1 H locs hw hP hD hS => ?_)
        rcases hw with ⟨rfl, h30, rfl⟩ | ⟨rfl, h30, rfl⟩
        · have hP : va_P D vwCl (wX q cI n S P x) H := hP
          have hD : va_D A (wX q cI n S P x) := hD
          refine lv_if_ne (tgt := 39) hx hb dDecreePool_prepare_33 (by decide) (fun _ => ?_) (fun h9 => absurd h9 (by decide))
          refine lv_aload_n hx hb dDecreePool_prepare_39 rfl (lv_at hl 0 rfl) ?_
          refine lv_iload_n hx hb dDecreePool_prepare_40 rfl (lv_at hl 1 rfl) ?_
          refine lv_iload_n hx hb dDecreePool_prepare_41 rfl (lv_at hl 2 rfl) ?_
          have hPc := hP.sub (ws' := (wX q cI n S P x)) [0, 1, 2, 3, 4, 5, 6, 7, 8, 9, 10, 11, 12, 13, 14, 15] rfl
          have hDc := hD.sub (ws' := (wX q cI n S P x)) [0, 1, 2, 3, 4, 5, 6, 7, 8, 9, 10, 11, 12, 13, 14, 15] (by decide) rfl
          refine kx_i (va_runV (As := [.int (nI a), .int (nI t)]) (rest := []) ⟨hx, hb, hml, hown, hts⟩ ((c_seatOf l D cI cZ q n S P x a t (hn1) (hn5) (hS1) (hS4) (hP5) (hP64)) H.size) (cwV 2 hts (gV wd153 wd155 sl_DecreePool_seatOf wd1 wd156) rfl rfl rfl (by decide +kernel) ⟨Nat.le_of_ble_eq_true rfl, Nat.le_of_ble_eq_true rfl⟩) ⟨fb_PW, va_recv (q0 := 0) (ci := 0) hK hPc rfl rfl, pre_PW hK hPc hDc hZ⟩ rfl rfl hl.1 rfl (lv_room (Nat.le_of_ble_eq_true rfl)) dDecreePool_prepare_42 ⟨Nat.zero_le _, Nat.zero_le _⟩) hP hD hS hA [0, 1, 2, 3, 4, 5, 6, 7, 8, 9, 10, 11, 12, 13, 14, 15] [] rfl rfl (by decide) (by decide) (fun r w1 H locs hw hP hD hS => ?_)
          obtain ⟨rfl, rfl⟩ := hw
          have hP : va_P D vwCl (wX q cI n S P x) H := hP
          have hD : va_D A (wX q cI n S P x) := hD
          refine lv_istore hx hb dDecreePool_prepare_45 hl (by decide) rfl (fun ls hl => ?_)
          have hl : lv_has ls 7 [(5, .int (nI (a * S + t))), (0, .ref (q 0)), (1, .int (nI a)), (2, .int (nI t)), (3, .int (nI rr)), (4, .int vl)] := hl
          refine lv_iload_n hx hb dDecreePool_prepare_47 rfl (lv_at hl 4 rfl) ?_
          refine lv_aload_n hx hb dDecreePool_prepare_48 rfl (lv_at hl 1 rfl) ?_
          refine va_get (D := D) (ci := 0) (v := .int (nI n)) (C := RDecreePool) (T := TDecreePool) (N := 9) hx hb hts (fun w h => mc (uDecreePool_in w h)) hown hK hP 0 rfl rfl 0 (by decide) (hts _ (mc wd105)) (fun _ h9 => h9) rfl dDecreePool_prepare_49 ?_
          refine lv_imul hx hb dDecreePool_prepare_52 ?_
          refine lv_topi (nm_r (pk_mul _ _) ?_)
          refine lv_iload_n hx hb dDecreePool_prepare_53 rfl (lv_at hl 2 rfl) ?_
          refine lv_iadd hx hb dDecreePool_prepare_54 ?_
          refine lv_topi (nm_r (nI_add _ _) ?_)
          refine lv_istore hx hb dDecreePool_prepare_55 hl (by decide) rfl (fun ls hl => ?_)
          have hl : lv_has ls 7 [(6, .int (nI (rr * n + a))), (5, .int (nI (a * S + t))), (0, .ref (q 0)), (1, .int (nI a)), (2, .int (nI t)), (3, .int (nI rr)), (4, .int vl)] := hl
          refine lv_iload hx hb dDecreePool_prepare_57 (lv_at hl 0 rfl) ?_
          refine lv_aload_n hx hb dDecreePool_prepare_59 rfl (lv_at hl 2 rfl) ?_
          refine va_get (D := D) (ci := 0) (v := .ref (q 3)) (C := RDecreePool) (T := TDecreePool) (N := 9) hx hb hts (fun w h => mc (uDecreePool_in w h)) hown hK hP 0 rfl rfl 3 (by decide) (hts _ (mc wd108)) (fun _ h9 => h9) rfl dDecreePool_prepare_60 ?_
          refine lv_iload hx hb dDecreePool_prepare_63 (lv_at hl 1 rfl) ?_
          have hPc := hP.sub (ws' := (wPr q cI n (n * S) (sq S (x.1 1)) (sq S (x.1 2)) (sq S (x.1 3)) (sq S (x.1 4)) (sq S (x.1 5)))) [3, 4, 5, 6, 7, 8] rfl
          have hDc := hD.sub (ws' := (wPr q cI n (n * S) (sq S (x.1 1)) (sq S (x.1 2)) (sq S (x.1 3)) (sq S (x.1 4)) (sq S (x.1 5)))) [3, 4, 5, 6, 7, 8] (by decide) rfl
          refine kx_i (va_runV (As := [.int (nI (a * S + t))]) (rest := [.int (nI (rr * n + a))]) ⟨hx, hb, hml, hown, hts⟩ ((c_pr_lastBallot l D cI cZ q n (n * S) (sq S (x.1 1)) (sq S (x.1 2)) (sq S (x.1 3)) (sq S (x.1 4)) (sq S (x.1 5)) (a * S + t) (L20 hn5 hS4) (seat_lt ha ht)) H.size) (cwV 1 hts (gV wd157 wd158 wd159 wd3 wd160) rfl rfl rfl (by decide +kernel) ⟨Nat.le_of_ble_eq_true rfl, Nat.le_of_ble_eq_true rfl⟩) ⟨fb_PW, va_recv (q0 := 0) (ci := 2) hK hPc rfl rfl, pre_PW hK hPc hDc hZ⟩ rfl rfl hl.1 rfl (lv_room (Nat.le_of_ble_eq_true rfl)) dDecreePool_prepare_65 ⟨Nat.zero_le _, Nat.zero_le _⟩) hP hD hS hA [3, 4, 5, 6, 7, 8] [0, 1, 2, 9, 10, 11, 12, 13, 14, 15] rfl rfl (by decide) (by decide) (fun r w1 H locs hw hP hD hS => ?_)
          obtain ⟨rfl, rfl⟩ := hw
          have hP : va_P D vwCl (wX q cI n S P x) H := hP.sub [0, 1, 2, 10, 11, 12, 13, 14, 15, 3, 4, 5, 6, 7, 8, 9] rfl
          have hD : va_D A (wX q cI n S P x) := hD.sub [0, 1, 2, 10, 11, 12, 13, 14, 15, 3, 4, 5, 6, 7, 8, 9] (by decide) rfl
          refine lv_topi (nm_r (sq_at ht) ?_)
          refine lv_icmp_gt (tgt := 74) hx hb dDecreePool_prepare_68 (by decide) (fun c68 => ?_) (fun c68 => ?_)
          · refine lv_aload_n hx hb dDecreePool_prepare_74 rfl (lv_at hl 2 rfl) ?_
            refine va_get (D := D) (ci := 0) (v := .ref (q 1)) (C := RDecreePool) (T := TDecreePool) (N := 9) hx hb hts (fun w h => mc (uDecreePool_in w h)) hown hK hP 0 rfl rfl 2 (by decide) (hts _ (mc wd107)) (fun _ h9 => h9) rfl dDecreePool_prepare_75 ?_
            have hPc := hP.sub (ws' := (wPo q cI P (x.1 0) (cntx P x))) [1, 2] rfl
            have hDc := hD.sub (ws' := (wPo q cI P (x.1 0) (cntx P x))) [1, 2] (by decide) rfl
            refine kx_i (va_runV (As := []) (rest := []) ⟨hx, hb, hml, hown, hts⟩ ((c_emptyPlaces l D cI cZ q P (x.1 0) (cntx P x) (cnt_le _ _)) H.size) (cwV 0 hts (gV wd161 wd162 wd163 wd2 wd164) rfl rfl rfl (by decide +kernel) ⟨Nat.le_of_ble_eq_true rfl, Nat.le_of_ble_eq_true rfl⟩) ⟨fb_PW, va_recv (q0 := 0) (ci := 1) hK hPc rfl rfl, pre_PW hK hPc hDc hZ⟩ rfl rfl hl.1 rfl (lv_room (Nat.le_of_ble_eq_true rfl)) dDecreePool_prepare_78 ⟨Nat.zero_le _, Nat.zero_le _⟩) hP hD hS hA [1, 2] [0, 3, 4, 5, 6, 7, 8, 9, 10, 11, 12, 13, 14, 15] rfl rfl (by decide) (by decide) (fun r w1 H locs hw hP hD hS => ?_)
            obtain ⟨rfl, rfl⟩ := hw
            have hP : va_P D vwCl (wX q cI n S P x) H := hP.sub [0, 14, 15, 1, 2, 3, 4, 5, 6, 7, 8, 9, 10, 11, 12, 13] rfl
            have hD : va_D A (wX q cI n S P x) := hD.sub [0, 14, 15, 1, 2, 3, 4, 5, 6, 7, 8, 9, 10, 11, 12, 13] (by decide) rfl
            refine lv_aload_n hx hb dDecreePool_prepare_81 rfl (lv_at hl 2 rfl) ?_
            refine va_get (D := D) (ci := 0) (v := .int (nI n)) (C := RDecreePool) (T := TDecreePool) (N := 9) hx hb hts (fun w h => mc (uDecreePool_in w h)) hown hK hP 0 rfl rfl 0 (by decide) (hts _ (mc wd105)) (fun _ h9 => h9) rfl dDecreePool_prepare_82 ?_
            refine lv_icmp_ge (tgt := 91) hx hb dDecreePool_prepare_85 (by decide) (fun c85 => ?_) (fun c85 => ?_)
            · have hfl : ¬ P - cntx P x < n := fun q => absurd c85 (nI_ge q (by omega))
              refine lv_aload_n hx hb dDecreePool_prepare_91 rfl (lv_at hl 2 rfl) ?_
              refine va_get (D := D) (ci := 0) (v := .ref (q 3)) (C := RDecreePool) (T := TDecreePool) (N := 9) hx hb hts (fun w h => mc (uDecreePool_in w h)) hown hK hP 0 rfl rfl 3 (by decide) (hts _ (mc wd108)) (fun _ h9 => h9) rfl dDecreePool_prepare_92 ?_
              refine lv_iload hx hb dDecreePool_prepare_95 (lv_at hl 1 rfl) ?_
              refine lv_iload hx hb dDecreePool_prepare_97 (lv_at hl 0 rfl) ?_
              refine lv_iload hx hb dDecreePool_prepare_99 (lv_at hl 6 rfl) ?_
              have hPc := hP.sub (ws' := (wPr q cI n (n * S) (sq S (x.1 1)) (sq S (x.1 2)) (sq S (x.1 3)) (sq S (x.1 4)) (sq S (x.1 5)))) [3, 4, 5, 6, 7, 8] rfl
              have hDc := hD.sub (ws' := (wPr q cI n (n * S) (sq S (x.1 1)) (sq S (x.1 2)) (sq S (x.1 3)) (sq S (x.1 4)) (sq S (x.1 5)))) [3, 4, 5, 6, 7, 8] (by decide) rfl
              refine kx_v (va_runV (As := [.int (nI (a * S + t)), .int (nI (rr * n + a)), .int vl]) (rest := []) ⟨hx, hb, hml, hown, hts⟩ ((c_begin l D cI cZ q n (n * S) (sq S (x.1 1)) (sq S (x.1 2)) (sq S (x.1 3)) (sq S (x.1 4)) (sq S (x.1 5)) (a * S + t) (nI (rr * n + a)) vl (L20 hn5 hS4) (seat_lt ha ht)) H.size) (cwV 3 hts (gV wd165 wd166 wd167 wd3 wd168) rfl rfl rfl (by decide +kernel) ⟨Nat.le_of_ble_eq_true rfl, Nat.le_of_ble_eq_true rfl⟩) ⟨fb_PW, va_recv (q0 := 0) (ci := 2) hK hPc rfl rfl, pre_PW hK hPc hDc hZ⟩ rfl rfl hl.1 rfl (lv_room (Nat.le_of_ble_eq_true rfl)) dDecreePool_prepare_101 ⟨Nat.zero_le _, Nat.zero_le _⟩) hP hD hS hA [3, 4, 5, 6, 7, 8] [0, 1, 2, 9, 10, 11, 12, 13, 14, 15] rfl rfl (by decide) (by decide) (fun w1 H locs hw hP hD hS => ?_)
              obtain rfl := hw
              have hP : va_P D vwCl (wD q cI n S P (n * S) (nI (msk (col (x.1 13) 0) n)) (x.1 12 0 0) (x.1 12 0 1) (x.1 0) (cntx P x) (upd (sq S (x.1 1)) (a * S + t) (nI 1)) (upd (sq S (x.1 2)) (a * S + t) (nI (rr * n + a))) (upd (sq S (x.1 3)) (a * S + t) (nI 0)) (upd (sq S (x.1 4)) (a * S + t) (-1)) (upd (sq S (x.1 5)) (a * S + t) vl) (sq S (x.1 8)) (sq S (x.1 9)) (sq S (x.1 10)) (hq n S (x.2 0)) (sq S (x.1 11))) H := hP.sub [0, 1, 2, 10, 11, 12, 13, 14, 15, 3, 4, 5, 6, 7, 8, 9] rfl
              have hD : va_D A (wD q cI n S P (n * S) (nI (msk (col (x.1 13) 0) n)) (x.1 12 0 0) (x.1 12 0 1) (x.1 0) (cntx P x) (upd (sq S (x.1 1)) (a * S + t) (nI 1)) (upd (sq S (x.1 2)) (a * S + t) (nI (rr * n + a))) (upd (sq S (x.1 3)) (a * S + t) (nI 0)) (upd (sq S (x.1 4)) (a * S + t) (-1)) (upd (sq S (x.1 5)) (a * S + t) vl) (sq S (x.1 8)) (sq S (x.1 9)) (sq S (x.1 10)) (hq n S (x.2 0)) (sq S (x.1 11))) := hD.sub [0, 1, 2, 10, 11, 12, 13, 14, 15, 3, 4, 5, 6, 7, 8, 9] (by decide) rfl
              have hW1 : (wD q cI n S P (n * S) (nI (msk (col (x.1 13) 0) n)) (x.1 12 0 0) (x.1 12 0 1) (x.1 0) (cntx P x) (upd (sq S (x.1 1)) (a * S + t) (nI 1)) (upd (sq S (x.1 2)) (a * S + t) (nI (rr * n + a))) (upd (sq S (x.1 3)) (a * S + t) (nI 0)) (upd (sq S (x.1 4)) (a * S + t) (-1)) (upd (sq S (x.1 5)) (a * S + t) vl) (sq S (x.1 8)) (sq S (x.1 9)) (sq S (x.1 10)) (hq n S (x.2 0)) (sq S (x.1 11))) = (wX q cI n S P (sBegin x a t (nI (rr * n + a)) vl)) := by rw [sq_up ht, sq_up ht, sq_up ht, sq_up ht, sq_up ht]; try rfl
              rw [hW1] at hP hD
              refine lv_aload_n hx hb dDecreePool_prepare_104 rfl (lv_at hl 2 rfl) ?_
              refine lv_iconst (v := nI 1) hx hb dDecreePool_prepare_105 (by decide) ?_
              refine lv_iload_n hx hb dDecreePool_prepare_106 rfl (lv_at hl 3 rfl) ?_
              refine lv_iload_n hx hb dDecreePool_prepare_107 rfl (lv_at hl 4 rfl) ?_
              refine lv_iload hx hb dDecreePool_prepare_108 (lv_at hl 0 rfl) ?_
              refine lv_iconst (v := nI 0) hx hb dDecreePool_prepare_110 (by decide) ?_
              have hPc := hP.sub (ws' := (wX q cI n S P (sBegin x a t (nI (rr * n + a)) vl))) [0, 1, 2, 3, 4, 5, 6, 7, 8, 9, 10, 11, 12, 13, 14, 15] rfl
              have hDc := hD.sub (ws' := (wX q cI n S P (sBegin x a t (nI (rr * n + a)) vl))) [0, 1, 2, 3, 4, 5, 6, 7, 8, 9, 10, 11, 12, 13, 14, 15] (by decide) rfl
              refine kx_v (va_runV (As := [.int (nI 1), .int (nI a), .int (nI t), .int (nI (rr * n + a)), .int (nI 0)]) (rest := []) ⟨hx, hb, hml, hown, hts⟩ ((c_sendToAll l D cI cZ q n S P (sBegin x a t (nI (rr * n + a)) vl) (nI 1) (nI a) (nI t) (nI (rr * n + a)) (nI 0) (hn1) (hn5) (hS1) (hS4) (hP5) (hP64) (by decide) (by have h7 : cntx P x ≤ P := cnt_le _ _; show cntx P x + n ≤ P; omega)) H.size) (cwV 5 hts (gV wd169 wd171 sl_DecreePool_sendToAll wd1 wd172) rfl rfl rfl (by decide +kernel) ⟨Nat.le_of_ble_eq_true rfl, Nat.le_of_ble_eq_true rfl⟩) ⟨fb_PW, va_recv (q0 := 0) (ci := 0) hK hPc rfl rfl, pre_PW hK hPc hDc hZ⟩ rfl rfl hl.1 rfl (lv_room (Nat.le_of_ble_eq_true rfl)) dDecreePool_prepare_111 ⟨Nat.zero_le _, Nat.zero_le _⟩) hP hD hS hA [0, 1, 2, 3, 4, 5, 6, 7, 8, 9, 10, 11, 12, 13, 14, 15] [] rfl rfl (by decide) (by decide) (fun w1 H locs hw hP hD hS => ?_)
              obtain rfl := hw
              have hP : va_P D vwCl (wX q cI n S P (sendA P (sBegin x a t (nI (rr * n + a)) vl) (nI 1) (nI a) (nI t) (nI (rr * n + a)) (nI 0) n)) H := hP
              have hD : va_D A (wX q cI n S P (sendA P (sBegin x a t (nI (rr * n + a)) vl) (nI 1) (nI a) (nI t) (nI (rr * n + a)) (nI 0) n)) := hD
              refine lv_iload hx hb dDecreePool_prepare_114 (lv_at hl 0 rfl) ?_
              exact W.iret (v := nI (rr * n + a)) hx hb hr (fun t9 ht9 hW9 => ⟨⟨nI (rr * n + a), (wX q cI n S P (sendA P (sBegin x a t (nI (rr * n + a)) vl) (nI 1) (nI a) (nI t) (nI (rr * n + a)) (nI 0) n)), rfl, fin2 (by unfold sPrep; rw [if_pos hok, ix_nI ha (by omega), ix_nI ht (by omega), if_neg (fun q => q h30), hbal, if_neg (Int32.not_le.mpr c68), if_neg hfl]; try rfl), by rw [ht9]; exact hP, va_K.moved hW9.alike hK, hD⟩, hS.F ht9⟩) hS.2.2 dDecreePool_prepare_116
            · have hfl : P - cntx P x < n := Nat.lt_of_not_le (fun q => c85 (nI_le q (by omega)))
              refine lv_bipush (v := (-4)) hx hb dDecreePool_prepare_88 (by decide) ?_
              exact W.iret (v := (-4)) hx hb hr (fun t9 ht9 hW9 => ⟨⟨(-4), (wX q cI n S P x), rfl, fin2 (by unfold sPrep; rw [if_pos hok, ix_nI ha (by omega), ix_nI ht (by omega), if_neg (fun q => q h30), hbal, if_neg (Int32.not_le.mpr c68), if_pos hfl]; try rfl), by rw [ht9]; exact hP, va_K.moved hW9.alike hK, hD⟩, hS.F ht9⟩) hS.2.2 dDecreePool_prepare_90
          · refine lv_bipush (v := (-3)) hx hb dDecreePool_prepare_71 (by decide) ?_
            exact W.iret (v := (-3)) hx hb hr (fun t9 ht9 hW9 => ⟨⟨(-3), (wX q cI n S P x), rfl, fin2 (by unfold sPrep; rw [if_pos hok, ix_nI ha (by omega), ix_nI ht (by omega), if_neg (fun q => q h30), hbal, if_pos (Int32.not_lt.mp c68)]; try rfl), by rw [ht9]; exact hP, va_K.moved hW9.alike hK, hD⟩, hS.F ht9⟩) hS.2.2 dDecreePool_prepare_73
        · have hP : va_P D vwCl (wX q cI n S P x) H := hP
          have hD : va_D A (wX q cI n S P x) := hD
          refine lv_if_ne (tgt := 39) hx hb dDecreePool_prepare_33 (by decide) (fun h9 => absurd (by decide) h9) (fun _ => ?_)
          refine lv_bipush (v := (-2)) hx hb dDecreePool_prepare_36 (by decide) ?_
          exact W.iret (v := (-2)) hx hb hr (fun t9 ht9 hW9 => ⟨⟨(-2), (wX q cI n S P x), rfl, fin2 (by unfold sPrep; rw [if_pos hok, ix_nI ha (by omega), ix_nI ht (by omega), if_pos h30]; try rfl), by rw [ht9]; exact hP, va_K.moved hW9.alike hK, hD⟩, hS.F ht9⟩) hS.2.2 dDecreePool_prepare_38
      · refine lv_iconst (v := (-1)) hx hb dDecreePool_prepare_26 (by decide) ?_
        exact W.iret (v := (-1)) hx hb hr (fun t9 ht9 hW9 => ⟨⟨(-1), (wX q cI n S P x), rfl, fin2 (if_neg (fun h => c23 h.2.2.2.2)), by rw [ht9]; exact hP, va_K.moved hW9.alike hK, hD⟩, hS.F ht9⟩) hS.2.2 dDecreePool_prepare_27
    · have hP : va_P D vwCl (wX q cI n S P x) H := hP
      have hD : va_D A (wX q cI n S P x) := hD
      refine lv_if_eq (tgt := 26) hx hb dDecreePool_prepare_17 (by decide) (fun _ => ?_) (fun h9 => absurd (by decide) h9)
      refine lv_iconst (v := (-1)) hx hb dDecreePool_prepare_26 (by decide) ?_
      exact W.iret (v := (-1)) hx hb hr (fun t9 ht9 hW9 => ⟨⟨(-1), (wX q cI n S P x), rfl, fin2 (if_neg (fun h => h14 ⟨h.2.2.1, h.2.2.2.1⟩)), by rw [ht9]; exact hP, va_K.moved hW9.alike hK, hD⟩, hS.F ht9⟩) hS.2.2 dDecreePool_prepare_27
  · have hP : va_P D vwCl (wX q cI n S P x) H := hP
    have hD : va_D A (wX q cI n S P x) := hD
    refine lv_if_eq (tgt := 26) hx hb dDecreePool_prepare_6 (by decide) (fun _ => ?_) (fun h9 => absurd (by decide) h9)
    refine lv_iconst (v := (-1)) hx hb dDecreePool_prepare_26 (by decide) ?_
    exact W.iret (v := (-1)) hx hb hr (fun t9 ht9 hW9 => ⟨⟨(-1), (wX q cI n S P x), rfl, fin2 (if_neg (fun h => h3 ⟨h.1, h.2.1⟩)), by rw [ht9]; exact hP, va_K.moved hW9.alike hK, hD⟩, hS.F ht9⟩) hS.2.2 dDecreePool_prepare_27
theorem dDecreePool_deliver_0 : decode cDecreePool_deliver 0 = .ok (.aload_n 0, 1) := by decide +kernel
theorem dDecreePool_deliver_1 : decode cDecreePool_deliver 1 = .ok (.getfield 25, 3) := by decide +kernel
theorem dDecreePool_deliver_4 : decode cDecreePool_deliver 4 = .ok (.iload_n 1, 1) := by decide +kernel
theorem dDecreePool_deliver_5 : decode cDecreePool_deliver 5 = .ok (.invokevirtual 89, 3) := by decide +kernel
theorem dDecreePool_deliver_8 : decode cDecreePool_deliver 8 = .ok (.ifCond .ne 5, 3) := by decide +kernel
theorem dDecreePool_deliver_11 : decode cDecreePool_deliver 11 = .ok (.iconst (-1), 1) := by decide +kernel
theorem dDecreePool_deliver_12 : decode cDecreePool_deliver 12 = .ok (.ireturn, 1) := by decide +kernel
theorem dDecreePool_deliver_13 : decode cDecreePool_deliver 13 = .ok (.aload_n 0, 1) := by decide +kernel
theorem dDecreePool_deliver_14 : decode cDecreePool_deliver 14 = .ok (.iload_n 1, 1) := by decide +kernel
theorem dDecreePool_deliver_15 : decode cDecreePool_deliver 15 = .ok (.invokevirtual 92, 3) := by decide +kernel
theorem dDecreePool_deliver_18 : decode cDecreePool_deliver 18 = .ok (.ifCond .ne 6, 3) := by decide +kernel
theorem dDecreePool_deliver_21 : decode cDecreePool_deliver 21 = .ok (.bipush (-4), 2) := by decide +kernel
theorem dDecreePool_deliver_23 : decode cDecreePool_deliver 23 = .ok (.ireturn, 1) := by decide +kernel
theorem dDecreePool_deliver_24 : decode cDecreePool_deliver 24 = .ok (.aload_n 0, 1) := by decide +kernel
theorem dDecreePool_deliver_25 : decode cDecreePool_deliver 25 = .ok (.iload_n 1, 1) := by decide +kernel
theorem dDecreePool_deliver_26 : decode cDecreePool_deliver 26 = .ok (.invokevirtual 95, 3) := by decide +kernel
theorem dDecreePool_deliver_29 : decode cDecreePool_deliver 29 = .ok (.ireturn, 1) := by decide +kernel
set_option maxRecDepth 100000 in
set_option maxHeartbeats 4000000 in
theorem c_deliver (l : Launch) (D : va_G) (cI cZ : ClassId) (q : Nat → Nat) (n : Nat) (S : Nat) (P : Nat) (x : St) (v : Int32) (hn1 : 1 ≤ n) (hn5 : n ≤ 5) (hS1 : 1 ≤ S) (hS4 : S ≤ 4) (hP5 : 5 ≤ P) (hP64 : P ≤ 64) (hM : Imsg n S x) (hI : Ibit x) : MI l D [(cI, .int), (cZ, .boolean)] yDecreePool_deliver wsDecreePool_deliver ({ frames := 5, cells := 0, slots := 0, locals := 127 }) [.ref (q 0), .int v] (wX q cI n S P x) (fun r w => r = (sDel n P x v).1 ∧ w = (wX q cI n S P (sDel n P x v).2)) := by
  intro sz
  refine Met.ofW (cc := cDecreePool_deliver) (maxL := 2) (ret := (Option.some .int)) (by decide) rfl ?_
  intro p e s m args below meth c s₁ B hml hv
  obtain ⟨rfl, hsz, hP, hK, hD0, hZ⟩ := hv
  have hx := B.exec
  have hb := B.bytes
  have hr := B.returns
  have hts := atoms_spec (ws := wsDecreePool_deliver) B.pre
  have hown : s.vm.findClass RDecreePool = some m.cls := findClass_of_methodNamed B.named
  have hlocks := B.notSynchronized
  subst hsz
  have hD := hD0.self (sz := s.heap.size)
  generalize hAe : va_A (wX q cI n S P x) s.heap.size = A at hD ⊢
  have hA : ∀ q : Nat, s.heap.size ≤ q → A q := fun q h => by rw [← hAe]; exact Or.inr h
  have hS : va_S A s.heap s.heap [] := va_S.rf
  have hP : va_P D vwCl (wX q cI n S P x) s.heap := hP
  have hl := lv_entry ([.ref (q 0), .int v]) (n := 2) (Nat.le_of_ble_eq_true rfl)
  rw [lg_entry_eq]
  generalize (lg_sl ([.ref (q 0), .int v]) ++ List.replicate (2 - (lg_sl ([.ref (q 0), .int v])).length) Slot.unset).toArray = ls at hl ⊢
  have hl : lv_has ls 2 [(0, .ref (q 0)), (1, .int v)] := hl
  refine lv_aload_n hx hb dDecreePool_deliver_0 rfl (lv_at hl 0 rfl) ?_
  refine va_get (D := D) (ci := 0) (v := .ref (q 1)) (C := RDecreePool) (T := TDecreePool) (N := 9) hx hb hts (fun w h => mc (uDecreePool_in w h)) hown hK hP 0 rfl rfl 2 (by decide) (hts _ (mc wd107)) (fun _ h9 => h9) rfl dDecreePool_deliver_1 ?_
  refine lv_iload_n hx hb dDecreePool_deliver_4 rfl (lv_at hl 1 rfl) ?_
  have hPc := hP.sub (ws' := (wPo q cI P (x.1 0) (cntx P x))) [1, 2] rfl
  have hDc := hD.sub (ws' := (wPo q cI P (x.1 0) (cntx P x))) [1, 2] (by decide) rfl
  refine kx_i (va_runV (As := [.int v]) (rest := []) ⟨hx, hb, hml, hown, hts⟩ ((c_holds l D cI cZ q P (x.1 0) (cntx P x) v (hP64) (by omega)) s.heap.size) (cwV 1 hts (gV wd189 wd190 wd191 wd2 wd192) rfl rfl rfl (by decide +kernel) ⟨Nat.le_of_ble_eq_true rfl, Nat.le_of_ble_eq_true rfl⟩) ⟨fb_PW, va_recv (q0 := 0) (ci := 1) hK hPc rfl rfl, pre_PW hK hPc hDc hZ⟩ rfl rfl hl.1 rfl (lv_room (Nat.le_of_ble_eq_true rfl)) dDecreePool_deliver_5 ⟨Nat.zero_le _, Nat.zero_le _⟩) hP hD hS hA [1, 2] [0, 3, 4, 5, 6, 7, 8, 9, 10, 11, 12, 13, 14, 15] rfl rfl (by decide) (by decide) (fun r w1 H locs hw hP hD hS => ?_)
  rcases hw with ⟨rfl, h5, rfl⟩ | ⟨rfl, h5, rfl⟩
  · have hP : va_P D vwCl (wX q cI n S P x) H := hP.sub [0, 14, 15, 1, 2, 3, 4, 5, 6, 7, 8, 9, 10, 11, 12, 13] rfl
    have hD : va_D A (wX q cI n S P x) := hD.sub [0, 14, 15, 1, 2, 3, 4, 5, 6, 7, 8, 9, 10, 11, 12, 13] (by decide) rfl
    obtain ⟨j, hj, rfl⟩ := okN_of (show P < 2 ^ 31 by omega) h5.1
    have hk0 : x.1 0 j 0 ≠ 0 := by have h6 := h5.2; rw [ix_nI hj (by omega)] at h6; exact h6
    have hisM : isM P x (nI j) := h5
    refine lv_if_ne (tgt := 13) hx hb dDecreePool_deliver_8 (by decide) (fun _ => ?_) (fun h9 => absurd h9 (by decide))
    refine lv_aload_n hx hb dDecreePool_deliver_13 rfl (lv_at hl 0 rfl) ?_
    refine lv_iload_n hx hb dDecreePool_deliver_14 rfl (lv_at hl 1 rfl) ?_
    have hPc := hP.sub (ws' := (wX q cI n S P x)) [0, 1, 2, 3, 4, 5, 6, 7, 8, 9, 10, 11, 12, 13, 14, 15] rfl
    have hDc := hD.sub (ws' := (wX q cI n S P x)) [0, 1, 2, 3, 4, 5, 6, 7, 8, 9, 10, 11, 12, 13, 14, 15] (by decide) rfl
    refine kx_i (va_runV (As := [.int (nI j)]) (rest := []) ⟨hx, hb, hml, hown, hts⟩ ((c_isDeliverable l D cI cZ q n S P x j (hn1) (hn5) (hS1) (hS4) (hP5) (hP64) (hj) (hM j hk0) (hI)) H.size) (cwV 1 hts (gV wd194 wd196 sl_DecreePool_isDeliverable wd1 wd197) rfl rfl rfl (by decide +kernel) ⟨Nat.le_of_ble_eq_true rfl, Nat.le_of_ble_eq_true rfl⟩) ⟨fb_PW, va_recv (q0 := 0) (ci := 0) hK hPc rfl rfl, pre_PW hK hPc hDc hZ⟩ rfl rfl hl.1 rfl (lv_room (Nat.le_of_ble_eq_true rfl)) dDecreePool_deliver_15 ⟨Nat.zero_le _, Nat.zero_le _⟩) hP hD hS hA [0, 1, 2, 3, 4, 5, 6, 7, 8, 9, 10, 11, 12, 13, 14, 15] [] rfl rfl (by decide) (by decide) (fun r w1 H locs hw hP hD hS => ?_)
    rcases hw with ⟨rfl, h15, rfl⟩ | ⟨rfl, h15, rfl⟩
    · have hP : va_P D vwCl (wX q cI n S P x) H := hP
      have hD : va_D A (wX q cI n S P x) := hD
      refine lv_if_ne (tgt := 24) hx hb dDecreePool_deliver_18 (by decide) (fun _ => ?_) (fun h9 => absurd h9 (by decide))
      refine lv_aload_n hx hb dDecreePool_deliver_24 rfl (lv_at hl 0 rfl) ?_
      refine lv_iload_n hx hb dDecreePool_deliver_25 rfl (lv_at hl 1 rfl) ?_
      have hPc := hP.sub (ws' := (wX q cI n S P x)) [0, 1, 2, 3, 4, 5, 6, 7, 8, 9, 10, 11, 12, 13, 14, 15] rfl
      have hDc := hD.sub (ws' := (wX q cI n S P x)) [0, 1, 2, 3, 4, 5, 6, 7, 8, 9, 10, 11, 12, 13, 14, 15] (by decide) rfl
      refine kx_i (va_runV (As := [.int (nI j)]) (rest := []) ⟨hx, hb, hml, hown, hts⟩ ((c_handOver l D cI cZ q n S P x j (hn1) (hn5) (hS1) (hS4) (hP5) (hP64) (hj) (hM j hk0) (hI) (hk0) (h15)) H.size) (cwV 1 hts (gV wd224 wd226 sl_DecreePool_handOver wd1 wd227) rfl rfl rfl (by decide +kernel) ⟨Nat.le_of_ble_eq_true rfl, Nat.le_of_ble_eq_true rfl⟩) ⟨fb_PW, va_recv (q0 := 0) (ci := 0) hK hPc rfl rfl, pre_PW hK hPc hDc hZ⟩ rfl rfl hl.1 rfl (lv_room (Nat.le_of_ble_eq_true rfl)) dDecreePool_deliver_26 ⟨Nat.zero_le _, Nat.zero_le _⟩) hP hD hS hA [0, 1, 2, 3, 4, 5, 6, 7, 8, 9, 10, 11, 12, 13, 14, 15] [] rfl rfl (by decide) (by decide) (fun r w1 H locs hw hP hD hS => ?_)
      obtain ⟨rfl, rfl⟩ := hw
      have hP : va_P D vwCl (wX q cI n S P ((sHo n P x j).2)) H := hP
      have hD : va_D A (wX q cI n S P ((sHo n P x j).2)) := hD
      exact W.iret (v := (sHo n P x j).1) hx hb hr (fun t9 ht9 hW9 => ⟨⟨(sHo n P x j).1, (wX q cI n S P ((sHo n P x j).2)), rfl, fin2 (by unfold sDel; rw [if_pos hisM, ix_nI hj (by omega), if_neg h15]), by rw [ht9]; exact hP, va_K.moved hW9.alike hK, hD⟩, hS.F ht9⟩) hS.2.2 dDecreePool_deliver_29
    · have hP : va_P D vwCl (wX q cI n S P x) H := hP
      have hD : va_D A (wX q cI n S P x) := hD
      refine lv_if_ne (tgt := 24) hx hb dDecreePool_deliver_18 (by decide) (fun h9 => absurd (by decide) h9) (fun _ => ?_)
      refine lv_bipush (v := (-4)) hx hb dDecreePool_deliver_21 (by decide) ?_
      exact W.iret (v := (-4)) hx hb hr (fun t9 ht9 hW9 => ⟨⟨(-4), (wX q cI n S P x), rfl, fin2 (by unfold sDel; rw [if_pos hisM, ix_nI hj (by omega), if_pos h15]), by rw [ht9]; exact hP, va_K.moved hW9.alike hK, hD⟩, hS.F ht9⟩) hS.2.2 dDecreePool_deliver_23
  · have hP : va_P D vwCl (wX q cI n S P x) H := hP.sub [0, 14, 15, 1, 2, 3, 4, 5, 6, 7, 8, 9, 10, 11, 12, 13] rfl
    have hD : va_D A (wX q cI n S P x) := hD.sub [0, 14, 15, 1, 2, 3, 4, 5, 6, 7, 8, 9, 10, 11, 12, 13] (by decide) rfl
    refine lv_if_ne (tgt := 13) hx hb dDecreePool_deliver_8 (by decide) (fun h9 => absurd (by decide) h9) (fun _ => ?_)
    refine lv_iconst (v := (-1)) hx hb dDecreePool_deliver_11 (by decide) ?_
    exact W.iret (v := (-1)) hx hb hr (fun t9 ht9 hW9 => ⟨⟨(-1), (wX q cI n S P x), rfl, fin2 (if_neg h5), by rw [ht9]; exact hP, va_K.moved hW9.alike hK, hD⟩, hS.F ht9⟩) hS.2.2 dDecreePool_deliver_12
theorem dDecreePool_drop_0 : decode cDecreePool_drop 0 = .ok (.aload_n 0, 1) := by decide +kernel
theorem dDecreePool_drop_1 : decode cDecreePool_drop 1 = .ok (.getfield 25, 3) := by decide +kernel
theorem dDecreePool_drop_4 : decode cDecreePool_drop 4 = .ok (.iload_n 1, 1) := by decide +kernel
theorem dDecreePool_drop_5 : decode cDecreePool_drop 5 = .ok (.invokevirtual 89, 3) := by decide +kernel
theorem dDecreePool_drop_8 : decode cDecreePool_drop 8 = .ok (.ifCond .ne 5, 3) := by decide +kernel
theorem dDecreePool_drop_11 : decode cDecreePool_drop 11 = .ok (.iconst (-1), 1) := by decide +kernel
theorem dDecreePool_drop_12 : decode cDecreePool_drop 12 = .ok (.ireturn, 1) := by decide +kernel
theorem dDecreePool_drop_13 : decode cDecreePool_drop 13 = .ok (.aload_n 0, 1) := by decide +kernel
theorem dDecreePool_drop_14 : decode cDecreePool_drop 14 = .ok (.getfield 25, 3) := by decide +kernel
theorem dDecreePool_drop_17 : decode cDecreePool_drop 17 = .ok (.iload_n 1, 1) := by decide +kernel
theorem dDecreePool_drop_18 : decode cDecreePool_drop 18 = .ok (.iconst 0, 1) := by decide +kernel
theorem dDecreePool_drop_19 : decode cDecreePool_drop 19 = .ok (.invokevirtual 101, 3) := by decide +kernel
theorem dDecreePool_drop_22 : decode cDecreePool_drop 22 = .ok (.istore_n 2, 1) := by decide +kernel
theorem dDecreePool_drop_23 : decode cDecreePool_drop 23 = .ok (.aload_n 0, 1) := by decide +kernel
theorem dDecreePool_drop_24 : decode cDecreePool_drop 24 = .ok (.getfield 25, 3) := by decide +kernel
theorem dDecreePool_drop_27 : decode cDecreePool_drop 27 = .ok (.iload_n 1, 1) := by decide +kernel
theorem dDecreePool_drop_28 : decode cDecreePool_drop 28 = .ok (.invokevirtual 104, 3) := by decide +kernel
theorem dDecreePool_drop_31 : decode cDecreePool_drop 31 = .ok (.aload_n 0, 1) := by decide +kernel
theorem dDecreePool_drop_32 : decode cDecreePool_drop 32 = .ok (.dup, 1) := by decide +kernel
theorem dDecreePool_drop_33 : decode cDecreePool_drop 33 = .ok (.getfield 58, 3) := by decide +kernel
theorem dDecreePool_drop_36 : decode cDecreePool_drop 36 = .ok (.iconst 1, 1) := by decide +kernel
theorem dDecreePool_drop_37 : decode cDecreePool_drop 37 = .ok (.iadd, 1) := by decide +kernel
theorem dDecreePool_drop_38 : decode cDecreePool_drop 38 = .ok (.putfield 58, 3) := by decide +kernel
theorem dDecreePool_drop_41 : decode cDecreePool_drop 41 = .ok (.iload_n 2, 1) := by decide +kernel
theorem dDecreePool_drop_42 : decode cDecreePool_drop 42 = .ok (.ireturn, 1) := by decide +kernel
set_option maxRecDepth 100000 in
set_option maxHeartbeats 4000000 in
theorem c_drop (l : Launch) (D : va_G) (cI cZ : ClassId) (q : Nat → Nat) (n : Nat) (S : Nat) (P : Nat) (x : St) (v : Int32) (hn1 : 1 ≤ n) (hn5 : n ≤ 5) (hS1 : 1 ≤ S) (hS4 : S ≤ 4) (hP5 : 5 ≤ P) (hP64 : P ≤ 64) : MI l D [(cI, .int), (cZ, .boolean)] yDecreePool_drop wsDecreePool_drop ({ frames := 2, cells := 0, slots := 0, locals := 43 }) [.ref (q 0), .int v] (wX q cI n S P x) (fun r w => r = (sDrop P x v).1 ∧ w = (wX q cI n S P (sDrop P x v).2)) := by
  intro sz
  refine Met.ofW (cc := cDecreePool_drop) (maxL := 3) (ret := (Option.some .int)) (by decide) rfl ?_
  intro p e s m args below meth c s₁ B hml hv
  obtain ⟨rfl, hsz, hP, hK, hD0, hZ⟩ := hv
  have hx := B.exec
  have hb := B.bytes
  have hr := B.returns
  have hts := atoms_spec (ws := wsDecreePool_drop) B.pre
  have hown : s.vm.findClass RDecreePool = some m.cls := findClass_of_methodNamed B.named
  have hlocks := B.notSynchronized
  subst hsz
  have hD := hD0.self (sz := s.heap.size)
  generalize hAe : va_A (wX q cI n S P x) s.heap.size = A at hD ⊢
  have hA : ∀ q : Nat, s.heap.size ≤ q → A q := fun q h => by rw [← hAe]; exact Or.inr h
  have hS : va_S A s.heap s.heap [] := va_S.rf
  have hP : va_P D vwCl (wX q cI n S P x) s.heap := hP
  have hl := lv_entry ([.ref (q 0), .int v]) (n := 3) (Nat.le_of_ble_eq_true rfl)
  rw [lg_entry_eq]
  generalize (lg_sl ([.ref (q 0), .int v]) ++ List.replicate (3 - (lg_sl ([.ref (q 0), .int v])).length) Slot.unset).toArray = ls at hl ⊢
  have hl : lv_has ls 3 [(0, .ref (q 0)), (1, .int v)] := hl
  refine lv_aload_n hx hb dDecreePool_drop_0 rfl (lv_at hl 0 rfl) ?_
  refine va_get (D := D) (ci := 0) (v := .ref (q 1)) (C := RDecreePool) (T := TDecreePool) (N := 9) hx hb hts (fun w h => mc (uDecreePool_in w h)) hown hK hP 0 rfl rfl 2 (by decide) (hts _ (mc wd107)) (fun _ h9 => h9) rfl dDecreePool_drop_1 ?_
  refine lv_iload_n hx hb dDecreePool_drop_4 rfl (lv_at hl 1 rfl) ?_
  have hPc := hP.sub (ws' := (wPo q cI P (x.1 0) (cntx P x))) [1, 2] rfl
  have hDc := hD.sub (ws' := (wPo q cI P (x.1 0) (cntx P x))) [1, 2] (by decide) rfl
  refine kx_i (va_runV (As := [.int v]) (rest := []) ⟨hx, hb, hml, hown, hts⟩ ((c_holds l D cI cZ q P (x.1 0) (cntx P x) v (hP64) (by omega)) s.heap.size) (cwV 1 hts (gV wd189 wd190 wd191 wd2 wd192) rfl rfl rfl (by decide +kernel) ⟨Nat.le_of_ble_eq_true rfl, Nat.le_of_ble_eq_true rfl⟩) ⟨fb_PW, va_recv (q0 := 0) (ci := 1) hK hPc rfl rfl, pre_PW hK hPc hDc hZ⟩ rfl rfl hl.1 rfl (lv_room (Nat.le_of_ble_eq_true rfl)) dDecreePool_drop_5 ⟨Nat.zero_le _, Nat.zero_le _⟩) hP hD hS hA [1, 2] [0, 3, 4, 5, 6, 7, 8, 9, 10, 11, 12, 13, 14, 15] rfl rfl (by decide) (by decide) (fun r w1 H locs hw hP hD hS => ?_)
  rcases hw with ⟨rfl, h5, rfl⟩ | ⟨rfl, h5, rfl⟩
  · have hP : va_P D vwCl (wX q cI n S P x) H := hP.sub [0, 14, 15, 1, 2, 3, 4, 5, 6, 7, 8, 9, 10, 11, 12, 13] rfl
    have hD : va_D A (wX q cI n S P x) := hD.sub [0, 14, 15, 1, 2, 3, 4, 5, 6, 7, 8, 9, 10, 11, 12, 13] (by decide) rfl
    obtain ⟨j, hj, rfl⟩ := okN_of (show P < 2 ^ 31 by omega) h5.1
    have hk0 : x.1 0 j 0 ≠ 0 := by have h6 := h5.2; rw [ix_nI hj (by omega)] at h6; exact h6
    have hisM : isM P x (nI j) := h5
    refine lv_if_ne (tgt := 13) hx hb dDecreePool_drop_8 (by decide) (fun _ => ?_) (fun h9 => absurd h9 (by decide))
    refine lv_aload_n hx hb dDecreePool_drop_13 rfl (lv_at hl 0 rfl) ?_
    refine va_get (D := D) (ci := 0) (v := .ref (q 1)) (C := RDecreePool) (T := TDecreePool) (N := 9) hx hb hts (fun w h => mc (uDecreePool_in w h)) hown hK hP 0 rfl rfl 2 (by decide) (hts _ (mc wd107)) (fun _ h9 => h9) rfl dDecreePool_drop_14 ?_
    refine lv_iload_n hx hb dDecreePool_drop_17 rfl (lv_at hl 1 rfl) ?_
    refine lv_iconst (v := nI 0) hx hb dDecreePool_drop_18 (by decide) ?_
    have hPc := hP.sub (ws' := (wPo q cI P (x.1 0) (cntx P x))) [1, 2] rfl
    have hDc := hD.sub (ws' := (wPo q cI P (x.1 0) (cntx P x))) [1, 2] (by decide) rfl
    refine kx_i (va_runV (As := [.int (nI j), .int (nI 0)]) (rest := []) ⟨hx, hb, hml, hown, hts⟩ ((c_field l D cI cZ q P (x.1 0) (cntx P x) j 0 (hP64) (hj) (by omega)) H.size) (cwV 2 hts (gV wd202 wd182 wd183 wd2 wd184) rfl rfl rfl (by decide +kernel) ⟨Nat.le_of_ble_eq_true rfl, Nat.le_of_ble_eq_true rfl⟩) ⟨fb_PW, va_recv (q0 := 0) (ci := 1) hK hPc rfl rfl, pre_PW hK hPc hDc hZ⟩ rfl rfl hl.1 rfl (lv_room (Nat.le_of_ble_eq_true rfl)) dDecreePool_drop_19 ⟨Nat.zero_le _, Nat.zero_le _⟩) hP hD hS hA [1, 2] [0, 3, 4, 5, 6, 7, 8, 9, 10, 11, 12, 13, 14, 15] rfl rfl (by decide) (by decide) (fun r w1 H locs hw hP hD hS => ?_)
    obtain ⟨rfl, rfl⟩ := hw
    have hP : va_P D vwCl (wX q cI n S P x) H := hP.sub [0, 14, 15, 1, 2, 3, 4, 5, 6, 7, 8, 9, 10, 11, 12, 13] rfl
    have hD : va_D A (wX q cI n S P x) := hD.sub [0, 14, 15, 1, 2, 3, 4, 5, 6, 7, 8, 9, 10, 11, 12, 13] (by decide) rfl
    refine lv_istore_n hx hb dDecreePool_drop_22 rfl hl (by decide) rfl (fun ls hl => ?_)
    have hl : lv_has ls 3 [(2, .int (x.1 0 j 0)), (0, .ref (q 0)), (1, .int (nI j))] := hl
    refine lv_aload_n hx hb dDecreePool_drop_23 rfl (lv_at hl 1 rfl) ?_
    refine va_get (D := D) (ci := 0) (v := .ref (q 1)) (C := RDecreePool) (T := TDecreePool) (N := 9) hx hb hts (fun w h => mc (uDecreePool_in w h)) hown hK hP 0 rfl rfl 2 (by decide) (hts _ (mc wd107)) (fun _ h9 => h9) rfl dDecreePool_drop_24 ?_
    refine lv_iload_n hx hb dDecreePool_drop_27 rfl (lv_at hl 2 rfl) ?_
    have hPc := hP.sub (ws' := (wPo q cI P (x.1 0) (cntx P x))) [1, 2] rfl
    have hDc := hD.sub (ws' := (wPo q cI P (x.1 0) (cntx P x))) [1, 2] (by decide) rfl
    refine kx_v (va_runV (As := [.int (nI j)]) (rest := []) ⟨hx, hb, hml, hown, hts⟩ ((c_takeOut l D cI cZ q P (x.1 0) (cntx P x) j (hP64) (hj) (cnt_pos hj hk0)) H.size) (cwV 1 hts (gV wd228 wd229 wd230 wd2 wd231) rfl rfl rfl (by decide +kernel) ⟨Nat.le_of_ble_eq_true rfl, Nat.le_of_ble_eq_true rfl⟩) ⟨fb_PW, va_recv (q0 := 0) (ci := 1) hK hPc rfl rfl, pre_PW hK hPc hDc hZ⟩ rfl rfl hl.1 rfl (lv_room (Nat.le_of_ble_eq_true rfl)) dDecreePool_drop_28 ⟨Nat.zero_le _, Nat.zero_le _⟩) hP hD hS hA [1, 2] [0, 3, 4, 5, 6, 7, 8, 9, 10, 11, 12, 13, 14, 15] rfl rfl (by decide) (by decide) (fun w1 H locs hw hP hD hS => ?_)
    obtain rfl := hw
    have hP : va_P D vwCl (wD q cI n S P (n * S) (nI (msk (col (x.1 13) 0) n)) (x.1 12 0 0) (x.1 12 0 1) (up2 (x.1 0) j 0 (nI 0)) ((cntx P x) - 1) (sq S (x.1 1)) (sq S (x.1 2)) (sq S (x.1 3)) (sq S (x.1 4)) (sq S (x.1 5)) (sq S (x.1 8)) (sq S (x.1 9)) (sq S (x.1 10)) (hq n S (x.2 0)) (sq S (x.1 11))) H := hP.sub [0, 14, 15, 1, 2, 3, 4, 5, 6, 7, 8, 9, 10, 11, 12, 13] rfl
    have hD : va_D A (wD q cI n S P (n * S) (nI (msk (col (x.1 13) 0) n)) (x.1 12 0 0) (x.1 12 0 1) (up2 (x.1 0) j 0 (nI 0)) ((cntx P x) - 1) (sq S (x.1 1)) (sq S (x.1 2)) (sq S (x.1 3)) (sq S (x.1 4)) (sq S (x.1 5)) (sq S (x.1 8)) (sq S (x.1 9)) (sq S (x.1 10)) (hq n S (x.2 0)) (sq S (x.1 11))) := hD.sub [0, 14, 15, 1, 2, 3, 4, 5, 6, 7, 8, 9, 10, 11, 12, 13] (by decide) rfl
    have hW1 : (wD q cI n S P (n * S) (nI (msk (col (x.1 13) 0) n)) (x.1 12 0 0) (x.1 12 0 1) (up2 (x.1 0) j 0 (nI 0)) ((cntx P x) - 1) (sq S (x.1 1)) (sq S (x.1 2)) (sq S (x.1 3)) (sq S (x.1 4)) (sq S (x.1 5)) (sq S (x.1 8)) (sq S (x.1 9)) (sq S (x.1 10)) (hq n S (x.2 0)) (sq S (x.1 11))) = (wX q cI n S P (put x 0 j 0 (nI 0))) := by rw [show cntx P x - 1 = cntx P (put x 0 j 0 (nI 0)) by have := cnt_out hj hk0; omega]; try rfl
    rw [hW1] at hP hD
    refine lv_aload_n hx hb dDecreePool_drop_31 rfl (lv_at hl 1 rfl) ?_
    refine lv_dup hx hb dDecreePool_drop_32 rfl ?_
    refine va_get (D := D) (ci := 0) (v := .int ((put x 0 j 0 (nI 0)).1 12 0 1)) (C := RDecreePool) (T := TDecreePool) (N := 9) hx hb hts (fun w h => mc (uDecreePool_in w h)) hown hK hP 0 rfl rfl 8 (by decide) (hts _ (mc wd113)) (fun _ h9 => h9) rfl dDecreePool_drop_33 ?_
    refine lv_iconst (v := nI 1) hx hb dDecreePool_drop_36 (by decide) ?_
    refine lv_iadd hx hb dDecreePool_drop_37 ?_
    refine va_put (D := D) (ci := 0) (v := .int (((put x 0 j 0 (nI 0)).1 12 0 1) + (nI 1))) (ty := .int) (C := RDecreePool) (T := TDecreePool) (N := 9) hx hb hts (fun w h => mc (uDecreePool_in w h)) tyDecreePool tyDecreePool_ok nmDecreePool hown hK hP hD hS 0 rfl rfl 8 (by decide) (hts _ (mc wd113)) (fun _ h9 => h9) rfl (by decide +kernel) rfl rfl (Nat.le_of_ble_eq_true rfl) dDecreePool_drop_38 (fun H locs hP hD hS => ?_)
    have hP : va_P D vwCl (wX q cI n S P (sLost (put x 0 j 0 (nI 0)))) H := hP
    have hD : va_D A (wX q cI n S P (sLost (put x 0 j 0 (nI 0)))) := hD
    refine lv_iload_n hx hb dDecreePool_drop_41 rfl (lv_at hl 0 rfl) ?_
    exact W.iret (v := x.1 0 j 0) hx hb hr (fun t9 ht9 hW9 => ⟨⟨x.1 0 j 0, (wX q cI n S P (sLost (put x 0 j 0 (nI 0)))), rfl, fin2 (by unfold sDrop; rw [if_pos hisM, ix_nI hj (by omega)]), by rw [ht9]; exact hP, va_K.moved hW9.alike hK, hD⟩, hS.F ht9⟩) hS.2.2 dDecreePool_drop_42
  · have hP : va_P D vwCl (wX q cI n S P x) H := hP.sub [0, 14, 15, 1, 2, 3, 4, 5, 6, 7, 8, 9, 10, 11, 12, 13] rfl
    have hD : va_D A (wX q cI n S P x) := hD.sub [0, 14, 15, 1, 2, 3, 4, 5, 6, 7, 8, 9, 10, 11, 12, 13] (by decide) rfl
    refine lv_if_ne (tgt := 13) hx hb dDecreePool_drop_8 (by decide) (fun h9 => absurd (by decide) h9) (fun _ => ?_)
    refine lv_iconst (v := (-1)) hx hb dDecreePool_drop_11 (by decide) ?_
    exact W.iret (v := (-1)) hx hb hr (fun t9 ht9 hW9 => ⟨⟨(-1), (wX q cI n S P x), rfl, fin2 (if_neg h5), by rw [ht9]; exact hP, va_K.moved hW9.alike hK, hD⟩, hS.F ht9⟩) hS.2.2 dDecreePool_drop_12
theorem dDecreePool_duplicate_0 : decode cDecreePool_duplicate 0 = .ok (.aload_n 0, 1) := by decide +kernel
theorem dDecreePool_duplicate_1 : decode cDecreePool_duplicate 1 = .ok (.getfield 25, 3) := by decide +kernel
theorem dDecreePool_duplicate_4 : decode cDecreePool_duplicate 4 = .ok (.iload_n 1, 1) := by decide +kernel
theorem dDecreePool_duplicate_5 : decode cDecreePool_duplicate 5 = .ok (.invokevirtual 89, 3) := by decide +kernel
theorem dDecreePool_duplicate_8 : decode cDecreePool_duplicate 8 = .ok (.ifCond .ne 5, 3) := by decide +kernel
theorem dDecreePool_duplicate_11 : decode cDecreePool_duplicate 11 = .ok (.iconst (-1), 1) := by decide +kernel
theorem dDecreePool_duplicate_12 : decode cDecreePool_duplicate 12 = .ok (.ireturn, 1) := by decide +kernel
theorem dDecreePool_duplicate_13 : decode cDecreePool_duplicate 13 = .ok (.aload_n 0, 1) := by decide +kernel
theorem dDecreePool_duplicate_14 : decode cDecreePool_duplicate 14 = .ok (.getfield 25, 3) := by decide +kernel
theorem dDecreePool_duplicate_17 : decode cDecreePool_duplicate 17 = .ok (.iload_n 1, 1) := by decide +kernel
theorem dDecreePool_duplicate_18 : decode cDecreePool_duplicate 18 = .ok (.invokevirtual 107, 3) := by decide +kernel
theorem dDecreePool_duplicate_21 : decode cDecreePool_duplicate 21 = .ok (.istore_n 2, 1) := by decide +kernel
theorem dDecreePool_duplicate_22 : decode cDecreePool_duplicate 22 = .ok (.iload_n 2, 1) := by decide +kernel
theorem dDecreePool_duplicate_23 : decode cDecreePool_duplicate 23 = .ok (.iconst (-1), 1) := by decide +kernel
theorem dDecreePool_duplicate_24 : decode cDecreePool_duplicate 24 = .ok (.if_icmp .ne 8, 3) := by decide +kernel
theorem dDecreePool_duplicate_27 : decode cDecreePool_duplicate 27 = .ok (.bipush (-4), 2) := by decide +kernel
theorem dDecreePool_duplicate_29 : decode cDecreePool_duplicate 29 = .ok (.goto 4, 3) := by decide +kernel
theorem dDecreePool_duplicate_32 : decode cDecreePool_duplicate 32 = .ok (.iload_n 2, 1) := by decide +kernel
theorem dDecreePool_duplicate_33 : decode cDecreePool_duplicate 33 = .ok (.ireturn, 1) := by decide +kernel
set_option maxRecDepth 100000 in
set_option maxHeartbeats 4000000 in
theorem c_duplicate (l : Launch) (D : va_G) (cI cZ : ClassId) (q : Nat → Nat) (n : Nat) (S : Nat) (P : Nat) (x : St) (v : Int32) (hn1 : 1 ≤ n) (hn5 : n ≤ 5) (hS1 : 1 ≤ S) (hS4 : S ≤ 4) (hP5 : 5 ≤ P) (hP64 : P ≤ 64) : MI l D [(cI, .int), (cZ, .boolean)] yDecreePool_duplicate wsDecreePool_duplicate ({ frames := 4, cells := 0, slots := 0, locals := 93 }) [.ref (q 0), .int v] (wX q cI n S P x) (fun r w => r = (sDup P x v).1 ∧ w = (wX q cI n S P (sDup P x v).2)) := by
  intro sz
  refine Met.ofW (cc := cDecreePool_duplicate) (maxL := 3) (ret := (Option.some .int)) (by decide) rfl ?_
  intro p e s m args below meth c s₁ B hml hv
  obtain ⟨rfl, hsz, hP, hK, hD0, hZ⟩ := hv
  have hx := B.exec
  have hb := B.bytes
  have hr := B.returns
  have hts := atoms_spec (ws := wsDecreePool_duplicate) B.pre
  have hown : s.vm.findClass RDecreePool = some m.cls := findClass_of_methodNamed B.named
  have hlocks := B.notSynchronized
  subst hsz
  have hD := hD0.self (sz := s.heap.size)
  generalize hAe : va_A (wX q cI n S P x) s.heap.size = A at hD ⊢
  have hA : ∀ q : Nat, s.heap.size ≤ q → A q := fun q h => by rw [← hAe]; exact Or.inr h
  have hS : va_S A s.heap s.heap [] := va_S.rf
  have hP : va_P D vwCl (wX q cI n S P x) s.heap := hP
  have hl := lv_entry ([.ref (q 0), .int v]) (n := 3) (Nat.le_of_ble_eq_true rfl)
  rw [lg_entry_eq]
  generalize (lg_sl ([.ref (q 0), .int v]) ++ List.replicate (3 - (lg_sl ([.ref (q 0), .int v])).length) Slot.unset).toArray = ls at hl ⊢
  have hl : lv_has ls 3 [(0, .ref (q 0)), (1, .int v)] := hl
  refine lv_aload_n hx hb dDecreePool_duplicate_0 rfl (lv_at hl 0 rfl) ?_
  refine va_get (D := D) (ci := 0) (v := .ref (q 1)) (C := RDecreePool) (T := TDecreePool) (N := 9) hx hb hts (fun w h => mc (uDecreePool_in w h)) hown hK hP 0 rfl rfl 2 (by decide) (hts _ (mc wd107)) (fun _ h9 => h9) rfl dDecreePool_duplicate_1 ?_
  refine lv_iload_n hx hb dDecreePool_duplicate_4 rfl (lv_at hl 1 rfl) ?_
  have hPc := hP.sub (ws' := (wPo q cI P (x.1 0) (cntx P x))) [1, 2] rfl
  have hDc := hD.sub (ws' := (wPo q cI P (x.1 0) (cntx P x))) [1, 2] (by decide) rfl
  refine kx_i (va_runV (As := [.int v]) (rest := []) ⟨hx, hb, hml, hown, hts⟩ ((c_holds l D cI cZ q P (x.1 0) (cntx P x) v (hP64) (by omega)) s.heap.size) (cwV 1 hts (gV wd189 wd190 wd191 wd2 wd192) rfl rfl rfl (by decide +kernel) ⟨Nat.le_of_ble_eq_true rfl, Nat.le_of_ble_eq_true rfl⟩) ⟨fb_PW, va_recv (q0 := 0) (ci := 1) hK hPc rfl rfl, pre_PW hK hPc hDc hZ⟩ rfl rfl hl.1 rfl (lv_room (Nat.le_of_ble_eq_true rfl)) dDecreePool_duplicate_5 ⟨Nat.zero_le _, Nat.zero_le _⟩) hP hD hS hA [1, 2] [0, 3, 4, 5, 6, 7, 8, 9, 10, 11, 12, 13, 14, 15] rfl rfl (by decide) (by decide) (fun r w1 H locs hw hP hD hS => ?_)
  rcases hw with ⟨rfl, h5, rfl⟩ | ⟨rfl, h5, rfl⟩
  · have hP : va_P D vwCl (wX q cI n S P x) H := hP.sub [0, 14, 15, 1, 2, 3, 4, 5, 6, 7, 8, 9, 10, 11, 12, 13] rfl
    have hD : va_D A (wX q cI n S P x) := hD.sub [0, 14, 15, 1, 2, 3, 4, 5, 6, 7, 8, 9, 10, 11, 12, 13] (by decide) rfl
    obtain ⟨j, hj, rfl⟩ := okN_of (show P < 2 ^ 31 by omega) h5.1
    have hk0 : x.1 0 j 0 ≠ 0 := by have h6 := h5.2; rw [ix_nI hj (by omega)] at h6; exact h6
    have hisM : isM P x (nI j) := h5
    refine lv_if_ne (tgt := 13) hx hb dDecreePool_duplicate_8 (by decide) (fun _ => ?_) (fun h9 => absurd h9 (by decide))
    refine lv_aload_n hx hb dDecreePool_duplicate_13 rfl (lv_at hl 0 rfl) ?_
    refine va_get (D := D) (ci := 0) (v := .ref (q 1)) (C := RDecreePool) (T := TDecreePool) (N := 9) hx hb hts (fun w h => mc (uDecreePool_in w h)) hown hK hP 0 rfl rfl 2 (by decide) (hts _ (mc wd107)) (fun _ h9 => h9) rfl dDecreePool_duplicate_14 ?_
    refine lv_iload_n hx hb dDecreePool_duplicate_17 rfl (lv_at hl 1 rfl) ?_
    have hPc := hP.sub (ws' := (wPo q cI P (x.1 0) (cntx P x))) [1, 2] rfl
    have hDc := hD.sub (ws' := (wPo q cI P (x.1 0) (cntx P x))) [1, 2] (by decide) rfl
    refine kx_i (va_runV (As := [.int (nI j)]) (rest := []) ⟨hx, hb, hml, hown, hts⟩ ((c_sendCopy l D cI cZ q P (x.1 0) (cntx P x) j (hP64) (hj)) H.size) (cwV 1 hts (gV wd299 wd300 wd301 wd2 wd302) rfl rfl rfl (by decide +kernel) ⟨Nat.le_of_ble_eq_true rfl, Nat.le_of_ble_eq_true rfl⟩) ⟨fb_PW, va_recv (q0 := 0) (ci := 1) hK hPc rfl rfl, pre_PW hK hPc hDc hZ⟩ rfl rfl hl.1 rfl (lv_room (Nat.le_of_ble_eq_true rfl)) dDecreePool_duplicate_18 ⟨Nat.zero_le _, Nat.zero_le _⟩) hP hD hS hA [1, 2] [0, 3, 4, 5, 6, 7, 8, 9, 10, 11, 12, 13, 14, 15] rfl rfl (by decide) (by decide) (fun r w1 H locs hw hP hD hS => ?_)
    rcases hw with ⟨rfl, h18, rfl⟩ | ⟨rfl, h18, rfl⟩
    · have hP : va_P D vwCl (wD q cI n S P (n * S) (nI (msk (col (x.1 13) 0) n)) (x.1 12 0 0) (x.1 12 0 1) (up7 (x.1 0) (lst (col (x.1 0) 0) P 0) ((x.1 0) j 0) ((x.1 0) j 1) ((x.1 0) j 2) ((x.1 0) j 3) ((x.1 0) j 4) ((x.1 0) j 5) ((x.1 0) j 6)) ((cntx P x) + 1) (sq S (x.1 1)) (sq S (x.1 2)) (sq S (x.1 3)) (sq S (x.1 4)) (sq S (x.1 5)) (sq S (x.1 8)) (sq S (x.1 9)) (sq S (x.1 10)) (hq n S (x.2 0)) (sq S (x.1 11))) H := hP.sub [0, 14, 15, 1, 2, 3, 4, 5, 6, 7, 8, 9, 10, 11, 12, 13] rfl
      have hD : va_D A (wD q cI n S P (n * S) (nI (msk (col (x.1 13) 0) n)) (x.1 12 0 0) (x.1 12 0 1) (up7 (x.1 0) (lst (col (x.1 0) 0) P 0) ((x.1 0) j 0) ((x.1 0) j 1) ((x.1 0) j 2) ((x.1 0) j 3) ((x.1 0) j 4) ((x.1 0) j 5) ((x.1 0) j 6)) ((cntx P x) + 1) (sq S (x.1 1)) (sq S (x.1 2)) (sq S (x.1 3)) (sq S (x.1 4)) (sq S (x.1 5)) (sq S (x.1 8)) (sq S (x.1 9)) (sq S (x.1 10)) (hq n S (x.2 0)) (sq S (x.1 11))) := hD.sub [0, 14, 15, 1, 2, 3, 4, 5, 6, 7, 8, 9, 10, 11, 12, 13] (by decide) rfl
      have hlt : cntx P x < P := by
        have h7 := cnt_le (col (x.1 0) 0) P
        by_cases e9 : cnt (col (x.1 0) 0) P = P
        · have := lst_full e9
          omega
        · show cnt (col (x.1 0) 0) P < P
          omega
      refine lv_istore_n hx hb dDecreePool_duplicate_21 rfl hl (by decide) rfl (fun ls hl => ?_)
      have hl : lv_has ls 3 [(2, .int (nI (lst (col (x.1 0) 0) P 0))), (0, .ref (q 0)), (1, .int (nI j))] := hl
      refine lv_iload_n hx hb dDecreePool_duplicate_22 rfl (lv_at hl 0 rfl) ?_
      refine lv_iconst (v := (-1)) hx hb dDecreePool_duplicate_23 (by decide) ?_
      refine lv_icmp_ne (tgt := 32) hx hb dDecreePool_duplicate_24 (by decide) (fun _ => ?_) (fun h9 => absurd h9 (nI_nm1 (by omega)))
      have hW1 : (wD q cI n S P (n * S) (nI (msk (col (x.1 13) 0) n)) (x.1 12 0 0) (x.1 12 0 1) (up7 (x.1 0) (lst (col (x.1 0) 0) P 0) ((x.1 0) j 0) ((x.1 0) j 1) ((x.1 0) j 2) ((x.1 0) j 3) ((x.1 0) j 4) ((x.1 0) j 5) ((x.1 0) j 6)) ((cntx P x) + 1) (sq S (x.1 1)) (sq S (x.1 2)) (sq S (x.1 3)) (sq S (x.1 4)) (sq S (x.1 5)) (sq S (x.1 8)) (sq S (x.1 9)) (sq S (x.1 10)) (hq n S (x.2 0)) (sq S (x.1 11))) = (wX q cI n S P (send1 P x (x.1 0 j 0) (x.1 0 j 1) (x.1 0 j 2) (x.1 0 j 3) (x.1 0 j 4) (x.1 0 j 5) (x.1 0 j 6))) := wX_send (y := x) hk0 hlt
      rw [hW1] at hP hD
      refine lv_iload_n hx hb dDecreePool_duplicate_32 rfl (lv_at hl 0 rfl) ?_
      exact W.iret (v := nI (lst (col (x.1 0) 0) P 0)) hx hb hr (fun t9 ht9 hW9 => ⟨⟨nI (lst (col (x.1 0) 0) P 0), (wX q cI n S P (send1 P x (x.1 0 j 0) (x.1 0 j 1) (x.1 0 j 2) (x.1 0 j 3) (x.1 0 j 4) (x.1 0 j 5) (x.1 0 j 6))), rfl, fin2 (by unfold sDup; rw [if_pos hisM, if_neg (Nat.ne_of_lt hlt), ix_nI hj (by omega)]; try rfl), by rw [ht9]; exact hP, va_K.moved hW9.alike hK, hD⟩, hS.F ht9⟩) hS.2.2 dDecreePool_duplicate_33
    · have hP : va_P D vwCl (wX q cI n S P x) H := hP.sub [0, 14, 15, 1, 2, 3, 4, 5, 6, 7, 8, 9, 10, 11, 12, 13] rfl
      have hD : va_D A (wX q cI n S P x) := hD.sub [0, 14, 15, 1, 2, 3, 4, 5, 6, 7, 8, 9, 10, 11, 12, 13] (by decide) rfl
      have hfull : cntx P x = P := by
        have h7 := cnt_le (col (x.1 0) 0) P
        by_cases e9 : cnt (col (x.1 0) 0) P < P
        · have := lst_lt e9
          omega
        · show cnt (col (x.1 0) 0) P = P
          omega
      refine lv_istore_n hx hb dDecreePool_duplicate_21 rfl hl (by decide) rfl (fun ls hl => ?_)
      have hl : lv_has ls 3 [(2, .int (-1)), (0, .ref (q 0)), (1, .int (nI j))] := hl
      refine lv_iload_n hx hb dDecreePool_duplicate_22 rfl (lv_at hl 0 rfl) ?_
      refine lv_iconst (v := (-1)) hx hb dDecreePool_duplicate_23 (by decide) ?_
      refine lv_icmp_ne (tgt := 32) hx hb dDecreePool_duplicate_24 (by decide) (fun h9 => absurd (by decide) h9) (fun _ => ?_)
      refine lv_bipush (v := (-4)) hx hb dDecreePool_duplicate_27 (by decide) ?_
      refine lv_goto (tgt := 33) hx hb dDecreePool_duplicate_29 (by decide) ?_
      exact W.iret (v := (-4)) hx hb hr (fun t9 ht9 hW9 => ⟨⟨(-4), (wX q cI n S P x), rfl, fin2 (by unfold sDup; rw [if_pos hisM, if_pos hfull]), by rw [ht9]; exact hP, va_K.moved hW9.alike hK, hD⟩, hS.F ht9⟩) hS.2.2 dDecreePool_duplicate_33
  · have hP : va_P D vwCl (wX q cI n S P x) H := hP.sub [0, 14, 15, 1, 2, 3, 4, 5, 6, 7, 8, 9, 10, 11, 12, 13] rfl
    have hD : va_D A (wX q cI n S P x) := hD.sub [0, 14, 15, 1, 2, 3, 4, 5, 6, 7, 8, 9, 10, 11, 12, 13] (by decide) rfl
    refine lv_if_ne (tgt := 13) hx hb dDecreePool_duplicate_8 (by decide) (fun h9 => absurd (by decide) h9) (fun _ => ?_)
    refine lv_iconst (v := (-1)) hx hb dDecreePool_duplicate_11 (by decide) ?_
    exact W.iret (v := (-1)) hx hb hr (fun t9 ht9 hW9 => ⟨⟨(-1), (wX q cI n S P x), rfl, fin2 (if_neg h5), by rw [ht9]; exact hP, va_K.moved hW9.alike hK, hD⟩, hS.F ht9⟩) hS.2.2 dDecreePool_duplicate_12
theorem dDecreePool_crash_0 : decode cDecreePool_crash 0 = .ok (.aload_n 0, 1) := by decide +kernel
theorem dDecreePool_crash_1 : decode cDecreePool_crash 1 = .ok (.iload_n 1, 1) := by decide +kernel
theorem dDecreePool_crash_2 : decode cDecreePool_crash 2 = .ok (.invokevirtual 110, 3) := by decide +kernel
theorem dDecreePool_crash_5 : decode cDecreePool_crash 5 = .ok (.ifCond .eq 11, 3) := by decide +kernel
theorem dDecreePool_crash_8 : decode cDecreePool_crash 8 = .ok (.aload_n 0, 1) := by decide +kernel
theorem dDecreePool_crash_9 : decode cDecreePool_crash 9 = .ok (.iload_n 1, 1) := by decide +kernel
theorem dDecreePool_crash_10 : decode cDecreePool_crash 10 = .ok (.invokevirtual 65, 3) := by decide +kernel
theorem dDecreePool_crash_13 : decode cDecreePool_crash 13 = .ok (.ifCond .ne 5, 3) := by decide +kernel
theorem dDecreePool_crash_16 : decode cDecreePool_crash 16 = .ok (.iconst (-1), 1) := by decide +kernel
theorem dDecreePool_crash_17 : decode cDecreePool_crash 17 = .ok (.ireturn, 1) := by decide +kernel
theorem dDecreePool_crash_18 : decode cDecreePool_crash 18 = .ok (.aload_n 0, 1) := by decide +kernel
theorem dDecreePool_crash_19 : decode cDecreePool_crash 19 = .ok (.dup, 1) := by decide +kernel
theorem dDecreePool_crash_20 : decode cDecreePool_crash 20 = .ok (.getfield 52, 3) := by decide +kernel
theorem dDecreePool_crash_23 : decode cDecreePool_crash 23 = .ok (.iconst 1, 1) := by decide +kernel
theorem dDecreePool_crash_24 : decode cDecreePool_crash 24 = .ok (.iload_n 1, 1) := by decide +kernel
theorem dDecreePool_crash_25 : decode cDecreePool_crash 25 = .ok (.ishl, 1) := by decide +kernel
theorem dDecreePool_crash_26 : decode cDecreePool_crash 26 = .ok (.iconst (-1), 1) := by decide +kernel
theorem dDecreePool_crash_27 : decode cDecreePool_crash 27 = .ok (.ixor, 1) := by decide +kernel
theorem dDecreePool_crash_28 : decode cDecreePool_crash 28 = .ok (.iand, 1) := by decide +kernel
theorem dDecreePool_crash_29 : decode cDecreePool_crash 29 = .ok (.putfield 52, 3) := by decide +kernel
theorem dDecreePool_crash_32 : decode cDecreePool_crash 32 = .ok (.aload_n 0, 1) := by decide +kernel
theorem dDecreePool_crash_33 : decode cDecreePool_crash 33 = .ok (.getfield 52, 3) := by decide +kernel
theorem dDecreePool_crash_36 : decode cDecreePool_crash 36 = .ok (.invokestatic 113, 3) := by decide +kernel
theorem dDecreePool_crash_39 : decode cDecreePool_crash 39 = .ok (.ireturn, 1) := by decide +kernel
set_option maxRecDepth 100000 in
set_option maxHeartbeats 4000000 in
theorem c_crash (l : Launch) (D : va_G) (cI cZ : ClassId) (q : Nat → Nat) (n : Nat) (S : Nat) (P : Nat) (x : St) (v : Int32) (hn1 : 1 ≤ n) (hn5 : n ≤ 5) (hS1 : 1 ≤ S) (hS4 : S ≤ 4) (hP5 : 5 ≤ P) (hP64 : P ≤ 64) : MI l D [(cI, .int), (cZ, .boolean)] yDecreePool_crash wsDecreePool_crash ({ frames := 2, cells := 0, slots := 0, locals := 43 }) [.ref (q 0), .int v] (wX q cI n S P x) (fun r w => r = (sCrash n x v).1 ∧ w = (wX q cI n S P (sCrash n x v).2)) := by
  intro sz
  refine Met.ofW (cc := cDecreePool_crash) (maxL := 2) (ret := (Option.some .int)) (by decide) rfl ?_
  intro p e s m args below meth c s₁ B hml hv
  obtain ⟨rfl, hsz, hP, hK, hD0, hZ⟩ := hv
  have hx := B.exec
  have hb := B.bytes
  have hr := B.returns
  have hts := atoms_spec (ws := wsDecreePool_crash) B.pre
  have hown : s.vm.findClass RDecreePool = some m.cls := findClass_of_methodNamed B.named
  have hlocks := B.notSynchronized
  subst hsz
  have hD := hD0.self (sz := s.heap.size)
  generalize hAe : va_A (wX q cI n S P x) s.heap.size = A at hD ⊢
  have hA : ∀ q : Nat, s.heap.size ≤ q → A q := fun q h => by rw [← hAe]; exact Or.inr h
  have hS : va_S A s.heap s.heap [] := va_S.rf
  have hP : va_P D vwCl (wX q cI n S P x) s.heap := hP
  have hl := lv_entry ([.ref (q 0), .int v]) (n := 2) (Nat.le_of_ble_eq_true rfl)
  rw [lg_entry_eq]
  generalize (lg_sl ([.ref (q 0), .int v]) ++ List.replicate (2 - (lg_sl ([.ref (q 0), .int v])).length) Slot.unset).toArray = ls at hl ⊢
  have hl : lv_has ls 2 [(0, .ref (q 0)), (1, .int v)] := hl
  refine lv_aload_n hx hb dDecreePool_crash_0 rfl (lv_at hl 0 rfl) ?_
  refine lv_iload_n hx hb dDecreePool_crash_1 rfl (lv_at hl 1 rfl) ?_
  have hPc := hP.sub (ws' := (wX q cI n S P x)) [0, 1, 2, 3, 4, 5, 6, 7, 8, 9, 10, 11, 12, 13, 14, 15] rfl
  have hDc := hD.sub (ws' := (wX q cI n S P x)) [0, 1, 2, 3, 4, 5, 6, 7, 8, 9, 10, 11, 12, 13, 14, 15] (by decide) rfl
  refine kx_i (va_runV (As := [.int v]) (rest := []) ⟨hx, hb, hml, hown, hts⟩ ((c_hasNode l D cI cZ q n S P x v (hn1) (hn5) (hS1) (hS4) (hP5) (hP64)) s.heap.size) (cwV 1 hts (gV wd141 wd143 sl_DecreePool_hasNode wd1 wd144) rfl rfl rfl (by decide +kernel) ⟨Nat.le_of_ble_eq_true rfl, Nat.le_of_ble_eq_true rfl⟩) ⟨fb_PW, va_recv (q0 := 0) (ci := 0) hK hPc rfl rfl, pre_PW hK hPc hDc hZ⟩ rfl rfl hl.1 rfl (lv_room (Nat.le_of_ble_eq_true rfl)) dDecreePool_crash_2 ⟨Nat.zero_le _, Nat.zero_le _⟩) hP hD hS hA [0, 1, 2, 3, 4, 5, 6, 7, 8, 9, 10, 11, 12, 13, 14, 15] [] rfl rfl (by decide) (by decide) (fun r w1 H locs hw hP hD hS => ?_)
  rcases hw with ⟨rfl, h2, rfl⟩ | ⟨rfl, h2, rfl⟩
  · have hP : va_P D vwCl (wX q cI n S P x) H := hP
    have hD : va_D A (wX q cI n S P x) := hD
    obtain ⟨a, ha, rfl⟩ := okN_of (show n < 2 ^ 31 by omega) h2
    refine lv_if_eq (tgt := 16) hx hb dDecreePool_crash_5 (by decide) (fun h9 => absurd h9 (by decide)) (fun _ => ?_)
    refine lv_aload_n hx hb dDecreePool_crash_8 rfl (lv_at hl 0 rfl) ?_
    refine lv_iload_n hx hb dDecreePool_crash_9 rfl (lv_at hl 1 rfl) ?_
    have hPc := hP.sub (ws' := (wX q cI n S P x)) [0, 1, 2, 3, 4, 5, 6, 7, 8, 9, 10, 11, 12, 13, 14, 15] rfl
    have hDc := hD.sub (ws' := (wX q cI n S P x)) [0, 1, 2, 3, 4, 5, 6, 7, 8, 9, 10, 11, 12, 13, 14, 15] (by decide) rfl
    refine kx_i (va_runV (As := [.int (nI a)]) (rest := []) ⟨hx, hb, hml, hown, hts⟩ ((c_isUp l D cI cZ q n S P x a (hn1) (hn5) (hS1) (hS4) (hP5) (hP64) (by omega)) H.size) (cwV 1 hts (gV wd149 wd151 sl_DecreePool_isUp wd1 wd152) rfl rfl rfl (by decide +kernel) ⟨Nat.le_of_ble_eq_true rfl, Nat.le_of_ble_eq_true rfl⟩) ⟨fb_PW, va_recv (q0 := 0) (ci := 0) hK hPc rfl rfl, pre_PW hK hPc hDc hZ⟩ rfl rfl hl.1 rfl (lv_room (Nat.le_of_ble_eq_true rfl)) dDecreePool_crash_10 ⟨Nat.zero_le _, Nat.zero_le _⟩) hP hD hS hA [0, 1, 2, 3, 4, 5, 6, 7, 8, 9, 10, 11, 12, 13, 14, 15] [] rfl rfl (by decide) (by decide) (fun r w1 H locs hw hP hD hS => ?_)
    rcases hw with ⟨rfl, h10, rfl⟩ | ⟨rfl, h10, rfl⟩
    · have hP : va_P D vwCl (wX q cI n S P x) H := hP
      have hD : va_D A (wX q cI n S P x) := hD
      refine lv_if_ne (tgt := 18) hx hb dDecreePool_crash_13 (by decide) (fun _ => ?_) (fun h9 => absurd h9 (by decide))
      refine lv_aload_n hx hb dDecreePool_crash_18 rfl (lv_at hl 0 rfl) ?_
      refine lv_dup hx hb dDecreePool_crash_19 rfl ?_
      refine va_get (D := D) (ci := 0) (v := .int (nI (msk (col (x.1 13) 0) n))) (C := RDecreePool) (T := TDecreePool) (N := 9) hx hb hts (fun w h => mc (uDecreePool_in w h)) hown hK hP 0 rfl rfl 6 (by decide) (hts _ (mc wd111)) (fun _ h9 => h9) rfl dDecreePool_crash_20 ?_
      refine lv_iconst (v := nI 1) hx hb dDecreePool_crash_23 (by decide) ?_
      refine lv_iload_n hx hb dDecreePool_crash_24 rfl (lv_at hl 1 rfl) ?_
      refine lv_ishl hx hb dDecreePool_crash_25 ?_
      refine lv_iconst (v := (-1)) hx hb dDecreePool_crash_26 (by decide) ?_
      refine lv_ixor hx hb dDecreePool_crash_27 ?_
      refine lv_iand hx hb dDecreePool_crash_28 ?_
      refine lv_topi (nm_r ((crash_val (v := nI 1) ha hn5 (by decide) h10).trans (by rw [col_up])) ?_)
      refine va_put (D := D) (ci := 0) (v := .int (nI (msk (col (up2 (x.1 13) a 0 (nI 1)) 0) n))) (ty := .int) (C := RDecreePool) (T := TDecreePool) (N := 9) hx hb hts (fun w h => mc (uDecreePool_in w h)) tyDecreePool tyDecreePool_ok nmDecreePool hown hK hP hD hS 0 rfl rfl 6 (by decide) (hts _ (mc wd111)) (fun _ h9 => h9) rfl (by decide +kernel) rfl rfl (Nat.le_of_ble_eq_true rfl) dDecreePool_crash_29 (fun H locs hP hD hS => ?_)
      have hP : va_P D vwCl (wX q cI n S P (put x 13 a 0 (nI 1))) H := hP
      have hD : va_D A (wX q cI n S P (put x 13 a 0 (nI 1))) := hD
      refine lv_aload_n hx hb dDecreePool_crash_32 rfl (lv_at hl 0 rfl) ?_
      refine va_get (D := D) (ci := 0) (v := .int (nI (msk (col ((put x 13 a 0 (nI 1)).1 13) 0) n))) (C := RDecreePool) (T := TDecreePool) (N := 9) hx hb hts (fun w h => mc (uDecreePool_in w h)) hown hK hP 0 rfl rfl 6 (by decide) (hts _ (mc wd111)) (fun _ h9 => h9) rfl dDecreePool_crash_33 ?_
      have hPc := hP.sub (ws' := ([] : va_W)) [] rfl
      have hDc := hD.sub (ws' := ([] : va_W)) [] (by decide) rfl
      refine kx_i (va_runS (As := [.int (nI (msk (col ((put x 13 a 0 (nI 1)).1 13) 0) n))]) (rest := []) ⟨hx, hb, hml, hown, hts⟩ ((c_bitCount l D cI cZ (msk (col ((put x 13 a 0 (nI 1)).1 13) 0) n) (msk_32 _ hn5)) H.size) (va_cwS 1 hts (gS wd308 wd212 wd8 wd213) rfl rfl rfl (by decide +kernel) ⟨Nat.le_of_ble_eq_true rfl, Nat.le_of_ble_eq_true rfl⟩) ⟨fb_PW, pre_PW hK hPc hDc hZ⟩ rfl rfl hl.1 rfl (lv_room (Nat.le_of_ble_eq_true rfl)) dDecreePool_crash_36 ⟨Nat.zero_le _, Nat.zero_le _⟩) hP hD hS hA [] [0, 1, 2, 3, 4, 5, 6, 7, 8, 9, 10, 11, 12, 13, 14, 15] rfl rfl (by decide) (by decide) (fun r w1 H locs hw hP hD hS => ?_)
      obtain ⟨rfl, rfl⟩ := hw
      have hP : va_P D vwCl (wX q cI n S P (put x 13 a 0 (nI 1))) H := hP
      have hD : va_D A (wX q cI n S P (put x 13 a 0 (nI 1))) := hD
      have hres : sCrash n x (nI a) = (nI (popn (msk (col ((put x 13 a 0 (nI 1)).1 13) 0) n)), put x 13 a 0 (nI 1)) := by
        rw [pop_msk hn5]
        unfold sCrash
        rw [if_pos ⟨h2, by rw [ix_nI ha (by omega)]; exact h10⟩, ix_nI ha (by omega)]
        try rfl
      exact W.iret (v := nI (popn (msk (col ((put x 13 a 0 (nI 1)).1 13) 0) n))) hx hb hr (fun t9 ht9 hW9 => ⟨⟨nI (popn (msk (col ((put x 13 a 0 (nI 1)).1 13) 0) n)), (wX q cI n S P (put x 13 a 0 (nI 1))), rfl, fin2 hres, by rw [ht9]; exact hP, va_K.moved hW9.alike hK, hD⟩, hS.F ht9⟩) hS.2.2 dDecreePool_crash_39
    · have hP : va_P D vwCl (wX q cI n S P x) H := hP
      have hD : va_D A (wX q cI n S P x) := hD
      refine lv_if_ne (tgt := 18) hx hb dDecreePool_crash_13 (by decide) (fun h9 => absurd (by decide) h9) (fun _ => ?_)
      refine lv_iconst (v := (-1)) hx hb dDecreePool_crash_16 (by decide) ?_
      exact W.iret (v := (-1)) hx hb hr (fun t9 ht9 hW9 => ⟨⟨(-1), (wX q cI n S P x), rfl, fin2 (if_neg (fun h => h10 (by have h7 := h.2; rw [ix_nI ha (by omega)] at h7; exact h7))), by rw [ht9]; exact hP, va_K.moved hW9.alike hK, hD⟩, hS.F ht9⟩) hS.2.2 dDecreePool_crash_17
  · have hP : va_P D vwCl (wX q cI n S P x) H := hP
    have hD : va_D A (wX q cI n S P x) := hD
    refine lv_if_eq (tgt := 16) hx hb dDecreePool_crash_5 (by decide) (fun _ => ?_) (fun h9 => absurd (by decide) h9)
    refine lv_iconst (v := (-1)) hx hb dDecreePool_crash_16 (by decide) ?_
    exact W.iret (v := (-1)) hx hb hr (fun t9 ht9 hW9 => ⟨⟨(-1), (wX q cI n S P x), rfl, fin2 (if_neg (fun h => h2 h.1)), by rw [ht9]; exact hP, va_K.moved hW9.alike hK, hD⟩, hS.F ht9⟩) hS.2.2 dDecreePool_crash_17
theorem dDecreePool_restart_0 : decode cDecreePool_restart 0 = .ok (.aload_n 0, 1) := by decide +kernel
theorem dDecreePool_restart_1 : decode cDecreePool_restart 1 = .ok (.iload_n 1, 1) := by decide +kernel
theorem dDecreePool_restart_2 : decode cDecreePool_restart 2 = .ok (.invokevirtual 110, 3) := by decide +kernel
theorem dDecreePool_restart_5 : decode cDecreePool_restart 5 = .ok (.ifCond .eq 11, 3) := by decide +kernel
theorem dDecreePool_restart_8 : decode cDecreePool_restart 8 = .ok (.aload_n 0, 1) := by decide +kernel
theorem dDecreePool_restart_9 : decode cDecreePool_restart 9 = .ok (.iload_n 1, 1) := by decide +kernel
theorem dDecreePool_restart_10 : decode cDecreePool_restart 10 = .ok (.invokevirtual 65, 3) := by decide +kernel
theorem dDecreePool_restart_13 : decode cDecreePool_restart 13 = .ok (.ifCond .eq 5, 3) := by decide +kernel
theorem dDecreePool_restart_16 : decode cDecreePool_restart 16 = .ok (.iconst (-1), 1) := by decide +kernel
theorem dDecreePool_restart_17 : decode cDecreePool_restart 17 = .ok (.ireturn, 1) := by decide +kernel
theorem dDecreePool_restart_18 : decode cDecreePool_restart 18 = .ok (.aload_n 0, 1) := by decide +kernel
theorem dDecreePool_restart_19 : decode cDecreePool_restart 19 = .ok (.dup, 1) := by decide +kernel
theorem dDecreePool_restart_20 : decode cDecreePool_restart 20 = .ok (.getfield 52, 3) := by decide +kernel
theorem dDecreePool_restart_23 : decode cDecreePool_restart 23 = .ok (.iconst 1, 1) := by decide +kernel
theorem dDecreePool_restart_24 : decode cDecreePool_restart 24 = .ok (.iload_n 1, 1) := by decide +kernel
theorem dDecreePool_restart_25 : decode cDecreePool_restart 25 = .ok (.ishl, 1) := by decide +kernel
theorem dDecreePool_restart_26 : decode cDecreePool_restart 26 = .ok (.ior, 1) := by decide +kernel
theorem dDecreePool_restart_27 : decode cDecreePool_restart 27 = .ok (.putfield 52, 3) := by decide +kernel
theorem dDecreePool_restart_30 : decode cDecreePool_restart 30 = .ok (.iconst 0, 1) := by decide +kernel
theorem dDecreePool_restart_31 : decode cDecreePool_restart 31 = .ok (.istore_n 2, 1) := by decide +kernel
theorem dDecreePool_restart_32 : decode cDecreePool_restart 32 = .ok (.iload_n 2, 1) := by decide +kernel
theorem dDecreePool_restart_33 : decode cDecreePool_restart 33 = .ok (.aload_n 0, 1) := by decide +kernel
theorem dDecreePool_restart_34 : decode cDecreePool_restart 34 = .ok (.getfield 17, 3) := by decide +kernel
theorem dDecreePool_restart_37 : decode cDecreePool_restart 37 = .ok (.if_icmp .ge 32, 3) := by decide +kernel
theorem dDecreePool_restart_40 : decode cDecreePool_restart 40 = .ok (.aload_n 0, 1) := by decide +kernel
theorem dDecreePool_restart_41 : decode cDecreePool_restart 41 = .ok (.iload_n 1, 1) := by decide +kernel
theorem dDecreePool_restart_42 : decode cDecreePool_restart 42 = .ok (.iload_n 2, 1) := by decide +kernel
theorem dDecreePool_restart_43 : decode cDecreePool_restart 43 = .ok (.invokevirtual 69, 3) := by decide +kernel
theorem dDecreePool_restart_46 : decode cDecreePool_restart 46 = .ok (.istore_n 3, 1) := by decide +kernel
theorem dDecreePool_restart_47 : decode cDecreePool_restart 47 = .ok (.aload_n 0, 1) := by decide +kernel
theorem dDecreePool_restart_48 : decode cDecreePool_restart 48 = .ok (.getfield 34, 3) := by decide +kernel
theorem dDecreePool_restart_51 : decode cDecreePool_restart 51 = .ok (.iload_n 3, 1) := by decide +kernel
theorem dDecreePool_restart_52 : decode cDecreePool_restart 52 = .ok (.invokevirtual 118, 3) := by decide +kernel
theorem dDecreePool_restart_55 : decode cDecreePool_restart 55 = .ok (.aload_n 0, 1) := by decide +kernel
theorem dDecreePool_restart_56 : decode cDecreePool_restart 56 = .ok (.getfield 48, 3) := by decide +kernel
theorem dDecreePool_restart_59 : decode cDecreePool_restart 59 = .ok (.iload_n 3, 1) := by decide +kernel
theorem dDecreePool_restart_60 : decode cDecreePool_restart 60 = .ok (.invokevirtual 121, 3) := by decide +kernel
theorem dDecreePool_restart_63 : decode cDecreePool_restart 63 = .ok (.iinc 2  1, 3) := by decide +kernel
theorem dDecreePool_restart_66 : decode cDecreePool_restart 66 = .ok (.goto (-34), 3) := by decide +kernel
theorem dDecreePool_restart_69 : decode cDecreePool_restart 69 = .ok (.aload_n 0, 1) := by decide +kernel
theorem dDecreePool_restart_70 : decode cDecreePool_restart 70 = .ok (.getfield 52, 3) := by decide +kernel
theorem dDecreePool_restart_73 : decode cDecreePool_restart 73 = .ok (.invokestatic 113, 3) := by decide +kernel
theorem dDecreePool_restart_76 : decode cDecreePool_restart 76 = .ok (.ireturn, 1) := by decide +kernel
set_option maxRecDepth 100000 in
set_option maxHeartbeats 4000000 in
theorem c_restart (l : Launch) (D : va_G) (cI cZ : ClassId) (q : Nat → Nat) (n : Nat) (S : Nat) (P : Nat) (x : St) (v : Int32) (hn1 : 1 ≤ n) (hn5 : n ≤ 5) (hS1 : 1 ≤ S) (hS4 : S ≤ 4) (hP5 : 5 ≤ P) (hP64 : P ≤ 64) : MI l D [(cI, .int), (cZ, .boolean)] yDecreePool_restart wsDecreePool_restart ({ frames := 2, cells := 0, slots := 0, locals := 43 }) [.ref (q 0), .int v] (wX q cI n S P x) (fun r w => r = (sRest n x v).1 ∧ w = (wX q cI n S P (sRest n x v).2)) := by
  intro sz
  refine Met.ofW (cc := cDecreePool_restart) (maxL := 4) (ret := (Option.some .int)) (by decide) rfl ?_
  intro p e s m args below meth c s₁ B hml hv
  obtain ⟨rfl, hsz, hP, hK, hD0, hZ⟩ := hv
  have hx := B.exec
  have hb := B.bytes
  have hr := B.returns
  have hts := atoms_spec (ws := wsDecreePool_restart) B.pre
  have hown : s.vm.findClass RDecreePool = some m.cls := findClass_of_methodNamed B.named
  have hlocks := B.notSynchronized
  subst hsz
  have hD := hD0.self (sz := s.heap.size)
  generalize hAe : va_A (wX q cI n S P x) s.heap.size = A at hD ⊢
  have hA : ∀ q : Nat, s.heap.size ≤ q → A q := fun q h => by rw [← hAe]; exact Or.inr h
  have hS : va_S A s.heap s.heap [] := va_S.rf
  have hP : va_P D vwCl (wX q cI n S P x) s.heap := hP
  have hl := lv_entry ([.ref (q 0), .int v]) (n := 4) (Nat.le_of_ble_eq_true rfl)
  rw [lg_entry_eq]
  generalize (lg_sl ([.ref (q 0), .int v]) ++ List.replicate (4 - (lg_sl ([.ref (q 0), .int v])).length) Slot.unset).toArray = ls at hl ⊢
  have hl : lv_has ls 4 [(0, .ref (q 0)), (1, .int v)] := hl
  refine lv_aload_n hx hb dDecreePool_restart_0 rfl (lv_at hl 0 rfl) ?_
  refine lv_iload_n hx hb dDecreePool_restart_1 rfl (lv_at hl 1 rfl) ?_
  have hPc := hP.sub (ws' := (wX q cI n S P x)) [0, 1, 2, 3, 4, 5, 6, 7, 8, 9, 10, 11, 12, 13, 14, 15] rfl
  have hDc := hD.sub (ws' := (wX q cI n S P x)) [0, 1, 2, 3, 4, 5, 6, 7, 8, 9, 10, 11, 12, 13, 14, 15] (by decide) rfl
  refine kx_i (va_runV (As := [.int v]) (rest := []) ⟨hx, hb, hml, hown, hts⟩ ((c_hasNode l D cI cZ q n S P x v (hn1) (hn5) (hS1) (hS4) (hP5) (hP64)) s.heap.size) (cwV 1 hts (gV wd141 wd143 sl_DecreePool_hasNode wd1 wd144) rfl rfl rfl (by decide +kernel) ⟨Nat.le_of_ble_eq_true rfl, Nat.le_of_ble_eq_true rfl⟩) ⟨fb_PW, va_recv (q0 := 0) (ci := 0) hK hPc rfl rfl, pre_PW hK hPc hDc hZ⟩ rfl rfl hl.1 rfl (lv_room (Nat.le_of_ble_eq_true rfl)) dDecreePool_restart_2 ⟨Nat.zero_le _, Nat.zero_le _⟩) hP hD hS hA [0, 1, 2, 3, 4, 5, 6, 7, 8, 9, 10, 11, 12, 13, 14, 15] [] rfl rfl (by decide) (by decide) (fun r w1 H locs hw hP hD hS => ?_)
  rcases hw with ⟨rfl, h2, rfl⟩ | ⟨rfl, h2, rfl⟩
  · have hP : va_P D vwCl (wX q cI n S P x) H := hP
    have hD : va_D A (wX q cI n S P x) := hD
    obtain ⟨a, ha, rfl⟩ := okN_of (show n < 2 ^ 31 by omega) h2
    refine lv_if_eq (tgt := 16) hx hb dDecreePool_restart_5 (by decide) (fun h9 => absurd h9 (by decide)) (fun _ => ?_)
    refine lv_aload_n hx hb dDecreePool_restart_8 rfl (lv_at hl 0 rfl) ?_
    refine lv_iload_n hx hb dDecreePool_restart_9 rfl (lv_at hl 1 rfl) ?_
    have hPc := hP.sub (ws' := (wX q cI n S P x)) [0, 1, 2, 3, 4, 5, 6, 7, 8, 9, 10, 11, 12, 13, 14, 15] rfl
    have hDc := hD.sub (ws' := (wX q cI n S P x)) [0, 1, 2, 3, 4, 5, 6, 7, 8, 9, 10, 11, 12, 13, 14, 15] (by decide) rfl
    refine kx_i (va_runV (As := [.int (nI a)]) (rest := []) ⟨hx, hb, hml, hown, hts⟩ ((c_isUp l D cI cZ q n S P x a (hn1) (hn5) (hS1) (hS4) (hP5) (hP64) (by omega)) H.size) (cwV 1 hts (gV wd149 wd151 sl_DecreePool_isUp wd1 wd152) rfl rfl rfl (by decide +kernel) ⟨Nat.le_of_ble_eq_true rfl, Nat.le_of_ble_eq_true rfl⟩) ⟨fb_PW, va_recv (q0 := 0) (ci := 0) hK hPc rfl rfl, pre_PW hK hPc hDc hZ⟩ rfl rfl hl.1 rfl (lv_room (Nat.le_of_ble_eq_true rfl)) dDecreePool_restart_10 ⟨Nat.zero_le _, Nat.zero_le _⟩) hP hD hS hA [0, 1, 2, 3, 4, 5, 6, 7, 8, 9, 10, 11, 12, 13, 14, 15] [] rfl rfl (by decide) (by decide) (fun r w1 H locs hw hP hD hS => ?_)
    rcases hw with ⟨rfl, h10, rfl⟩ | ⟨rfl, h10, rfl⟩
    · have hP : va_P D vwCl (wX q cI n S P x) H := hP
      have hD : va_D A (wX q cI n S P x) := hD
      refine lv_if_eq (tgt := 18) hx hb dDecreePool_restart_13 (by decide) (fun h9 => absurd h9 (by decide)) (fun _ => ?_)
      refine lv_iconst (v := (-1)) hx hb dDecreePool_restart_16 (by decide) ?_
      exact W.iret (v := (-1)) hx hb hr (fun t9 ht9 hW9 => ⟨⟨(-1), (wX q cI n S P x), rfl, fin2 (if_neg (fun h => h.2 (by rw [ix_nI ha (by omega)]; exact h10))), by rw [ht9]; exact hP, va_K.moved hW9.alike hK, hD⟩, hS.F ht9⟩) hS.2.2 dDecreePool_restart_17
    · have hP : va_P D vwCl (wX q cI n S P x) H := hP
      have hD : va_D A (wX q cI n S P x) := hD
      refine lv_if_eq (tgt := 18) hx hb dDecreePool_restart_13 (by decide) (fun _ => ?_) (fun h9 => absurd (by decide) h9)
      refine lv_aload_n hx hb dDecreePool_restart_18 rfl (lv_at hl 0 rfl) ?_
      refine lv_dup hx hb dDecreePool_restart_19 rfl ?_
      refine va_get (D := D) (ci := 0) (v := .int (nI (msk (col (x.1 13) 0) n))) (C := RDecreePool) (T := TDecreePool) (N := 9) hx hb hts (fun w h => mc (uDecreePool_in w h)) hown hK hP 0 rfl rfl 6 (by decide) (hts _ (mc wd111)) (fun _ h9 => h9) rfl dDecreePool_restart_20 ?_
      refine lv_iconst (v := nI 1) hx hb dDecreePool_restart_23 (by decide) ?_
      refine lv_iload_n hx hb dDecreePool_restart_24 rfl (lv_at hl 1 rfl) ?_
      refine lv_ishl hx hb dDecreePool_restart_25 ?_
      refine lv_ior hx hb dDecreePool_restart_26 ?_
      refine lv_topi (nm_r ((back_val ha hn5 h10).trans (by rw [col_up])) ?_)
      refine va_put (D := D) (ci := 0) (v := .int (nI (msk (col (up2 (x.1 13) a 0 (nI 0)) 0) n))) (ty := .int) (C := RDecreePool) (T := TDecreePool) (N := 9) hx hb hts (fun w h => mc (uDecreePool_in w h)) tyDecreePool tyDecreePool_ok nmDecreePool hown hK hP hD hS 0 rfl rfl 6 (by decide) (hts _ (mc wd111)) (fun _ h9 => h9) rfl (by decide +kernel) rfl rfl (Nat.le_of_ble_eq_true rfl) dDecreePool_restart_27 (fun H locs hP hD hS => ?_)
      have hP : va_P D vwCl (wX q cI n S P (put x 13 a 0 (nI 0))) H := hP
      have hD : va_D A (wX q cI n S P (put x 13 a 0 (nI 0))) := hD
      have hW1 : (wX q cI n S P (put x 13 a 0 (nI 0))) = (wX q cI n S P (clr (put x 13 a 0 (nI 0)) a 0)) := by rw [clr_0]
      rw [hW1] at hP hD
      refine lv_iconst (v := nI 0) hx hb dDecreePool_restart_30 (by decide) ?_
      refine lv_istore_n hx hb dDecreePool_restart_31 rfl hl (by decide) rfl (fun ls hl => ?_)
      have hl : lv_has ls 4 [(2, .int (nI 0)), (0, .ref (q 0)), (1, .int (nI a))] := hl
      have loop32 : ∀ (d32 i : Nat) (ls : Array Slot) (H : Heap) (locs : List Loc), i + d32 = S → lv_has ls 4 [(2, .int (nI i)), (0, .ref (q 0)), (1, .int (nI a))] → va_P D vwCl (wX q cI n S P (clr (put x 13 a 0 (nI 0)) a i)) H → va_D A (wX q cI n S P (clr (put x 13 a 0 (nI 0)) a i)) → va_S A s.heap H locs → W p l e (headSpec wsDecreePool_restart { frames := 2, cells := 0, slots := 0, locals := 43 }).room s m [.ref (q 0), .int (nI a)].toArray below meth c H locs 0 0 (MQ below (va_Qi (fun r w => r = (sRest n x (nI a)).1 ∧ w = (wX q cI n S P (sRest n x (nI a)).2)) (QW D [(cI, .int), (cZ, .boolean)] A) A) [.ref (q 0), .int (nI a)].toArray s 0 0 A) (F0 m 32 ls []) := by
        intro d32
        induction d32 with
        | zero =>
          intro i ls H locs hid32  hl hP hD hS
          refine lv_iload_n hx hb dDecreePool_restart_32 rfl (lv_at hl 0 rfl) ?_
          refine lv_aload_n hx hb dDecreePool_restart_33 rfl (lv_at hl 1 rfl) ?_
          refine va_get (D := D) (ci := 0) (v := .int (nI S)) (C := RDecreePool) (T := TDecreePool) (N := 9) hx hb hts (fun w h => mc (uDecreePool_in w h)) hown hK hP 0 rfl rfl 1 (by decide) (hts _ (mc wd106)) (fun _ h9 => h9) rfl dDecreePool_restart_34 ?_
          refine lv_icmp_ge (tgt := 69) hx hb dDecreePool_restart_37 (by decide) (fun _ => ?_) (fun h9 => absurd (nI_le (by omega) (by omega)) h9)
          have hin : S = i := by omega
          subst hin
          have hW2 : (wX q cI n S P (clr (put x 13 a 0 (nI 0)) a S)) = (wX q cI n S P (sBack (put x 13 a 0 (nI 0)) a)) := wX_back hn1 hS1
          rw [hW2] at hP hD
          refine lv_aload_n hx hb dDecreePool_restart_69 rfl (lv_at hl 1 rfl) ?_
          refine va_get (D := D) (ci := 0) (v := .int (nI (msk (col ((sBack (put x 13 a 0 (nI 0)) a).1 13) 0) n))) (C := RDecreePool) (T := TDecreePool) (N := 9) hx hb hts (fun w h => mc (uDecreePool_in w h)) hown hK hP 0 rfl rfl 6 (by decide) (hts _ (mc wd111)) (fun _ h9 => h9) rfl dDecreePool_restart_70 ?_
          have hPc := hP.sub (ws' := ([] : va_W)) [] rfl
          have hDc := hD.sub (ws' := ([] : va_W)) [] (by decide) rfl
          refine kx_i (va_runS (As := [.int (nI (msk (col ((sBack (put x 13 a 0 (nI 0)) a).1 13) 0) n))]) (rest := []) ⟨hx, hb, hml, hown, hts⟩ ((c_bitCount l D cI cZ (msk (col ((sBack (put x 13 a 0 (nI 0)) a).1 13) 0) n) (msk_32 _ hn5)) H.size) (va_cwS 1 hts (gS wd308 wd212 wd8 wd213) rfl rfl rfl (by decide +kernel) ⟨Nat.le_of_ble_eq_true rfl, Nat.le_of_ble_eq_true rfl⟩) ⟨fb_PW, pre_PW hK hPc hDc hZ⟩ rfl rfl hl.1 rfl (lv_room (Nat.le_of_ble_eq_true rfl)) dDecreePool_restart_73 ⟨Nat.zero_le _, Nat.zero_le _⟩) hP hD hS hA [] [0, 1, 2, 3, 4, 5, 6, 7, 8, 9, 10, 11, 12, 13, 14, 15] rfl rfl (by decide) (by decide) (fun r w1 H locs hw hP hD hS => ?_)
          obtain ⟨rfl, rfl⟩ := hw
          have hP : va_P D vwCl (wX q cI n S P (sBack (put x 13 a 0 (nI 0)) a)) H := hP
          have hD : va_D A (wX q cI n S P (sBack (put x 13 a 0 (nI 0)) a)) := hD
          have hres : sRest n x (nI a) = (nI (popn (msk (col ((sBack (put x 13 a 0 (nI 0)) a).1 13) 0) n)), sBack (put x 13 a 0 (nI 0)) a) := by
            rw [pop_msk hn5, back_13]
            unfold sRest
            rw [if_pos ⟨h2, by rw [ix_nI ha (by omega)]; exact h10⟩, ix_nI ha (by omega)]
            try rfl
          exact W.iret (v := nI (popn (msk (col ((sBack (put x 13 a 0 (nI 0)) a).1 13) 0) n))) hx hb hr (fun t9 ht9 hW9 => ⟨⟨nI (popn (msk (col ((sBack (put x 13 a 0 (nI 0)) a).1 13) 0) n)), (wX q cI n S P (sBack (put x 13 a 0 (nI 0)) a)), rfl, fin2 hres, by rw [ht9]; exact hP, va_K.moved hW9.alike hK, hD⟩, hS.F ht9⟩) hS.2.2 dDecreePool_restart_76
        | succ d32 ih32 =>
          intro i ls H locs hid32  hl hP hD hS
          refine lv_iload_n hx hb dDecreePool_restart_32 rfl (lv_at hl 0 rfl) ?_
          refine lv_aload_n hx hb dDecreePool_restart_33 rfl (lv_at hl 1 rfl) ?_
          refine va_get (D := D) (ci := 0) (v := .int (nI S)) (C := RDecreePool) (T := TDecreePool) (N := 9) hx hb hts (fun w h => mc (uDecreePool_in w h)) hown hK hP 0 rfl rfl 1 (by decide) (hts _ (mc wd106)) (fun _ h9 => h9) rfl dDecreePool_restart_34 ?_
          refine lv_icmp_ge (tgt := 69) hx hb dDecreePool_restart_37 (by decide) (fun h9 => absurd h9 (nI_ge (by omega) (by omega))) (fun _ => ?_)
          refine lv_aload_n hx hb dDecreePool_restart_40 rfl (lv_at hl 1 rfl) ?_
          refine lv_iload_n hx hb dDecreePool_restart_41 rfl (lv_at hl 2 rfl) ?_
          refine lv_iload_n hx hb dDecreePool_restart_42 rfl (lv_at hl 0 rfl) ?_
          have hPc := hP.sub (ws' := (wX q cI n S P (clr (put x 13 a 0 (nI 0)) a i))) [0, 1, 2, 3, 4, 5, 6, 7, 8, 9, 10, 11, 12, 13, 14, 15] rfl
          have hDc := hD.sub (ws' := (wX q cI n S P (clr (put x 13 a 0 (nI 0)) a i))) [0, 1, 2, 3, 4, 5, 6, 7, 8, 9, 10, 11, 12, 13, 14, 15] (by decide) rfl
          refine kx_i (va_runV (As := [.int (nI a), .int (nI i)]) (rest := []) ⟨hx, hb, hml, hown, hts⟩ ((c_seatOf l D cI cZ q n S P (clr (put x 13 a 0 (nI 0)) a i) a i (hn1) (hn5) (hS1) (hS4) (hP5) (hP64)) H.size) (cwV 2 hts (gV wd153 wd155 sl_DecreePool_seatOf wd1 wd156) rfl rfl rfl (by decide +kernel) ⟨Nat.le_of_ble_eq_true rfl, Nat.le_of_ble_eq_true rfl⟩) ⟨fb_PW, va_recv (q0 := 0) (ci := 0) hK hPc rfl rfl, pre_PW hK hPc hDc hZ⟩ rfl rfl hl.1 rfl (lv_room (Nat.le_of_ble_eq_true rfl)) dDecreePool_restart_43 ⟨Nat.zero_le _, Nat.zero_le _⟩) hP hD hS hA [0, 1, 2, 3, 4, 5, 6, 7, 8, 9, 10, 11, 12, 13, 14, 15] [] rfl rfl (by decide) (by decide) (fun r w1 H locs hw hP hD hS => ?_)
          obtain ⟨rfl, rfl⟩ := hw
          have hP : va_P D vwCl (wX q cI n S P (clr (put x 13 a 0 (nI 0)) a i)) H := hP
          have hD : va_D A (wX q cI n S P (clr (put x 13 a 0 (nI 0)) a i)) := hD
          refine lv_istore_n hx hb dDecreePool_restart_46 rfl hl (by decide) rfl (fun ls hl => ?_)
          have hl : lv_has ls 4 [(3, .int (nI (a * S + i))), (2, .int (nI i)), (0, .ref (q 0)), (1, .int (nI a))] := hl
          refine lv_aload_n hx hb dDecreePool_restart_47 rfl (lv_at hl 2 rfl) ?_
          refine va_get (D := D) (ci := 0) (v := .ref (q 3)) (C := RDecreePool) (T := TDecreePool) (N := 9) hx hb hts (fun w h => mc (uDecreePool_in w h)) hown hK hP 0 rfl rfl 3 (by decide) (hts _ (mc wd108)) (fun _ h9 => h9) rfl dDecreePool_restart_48 ?_
          refine lv_iload_n hx hb dDecreePool_restart_51 rfl (lv_at hl 0 rfl) ?_
          have hPc := hP.sub (ws' := (wPr q cI n (n * S) (sq S ((clr (put x 13 a 0 (nI 0)) a i).1 1)) (sq S ((clr (put x 13 a 0 (nI 0)) a i).1 2)) (sq S ((clr (put x 13 a 0 (nI 0)) a i).1 3)) (sq S ((clr (put x 13 a 0 (nI 0)) a i).1 4)) (sq S ((clr (put x 13 a 0 (nI 0)) a i).1 5)))) [3, 4, 5, 6, 7, 8] rfl
          have hDc := hD.sub (ws' := (wPr q cI n (n * S) (sq S ((clr (put x 13 a 0 (nI 0)) a i).1 1)) (sq S ((clr (put x 13 a 0 (nI 0)) a i).1 2)) (sq S ((clr (put x 13 a 0 (nI 0)) a i).1 3)) (sq S ((clr (put x 13 a 0 (nI 0)) a i).1 4)) (sq S ((clr (put x 13 a 0 (nI 0)) a i).1 5)))) [3, 4, 5, 6, 7, 8] (by decide) rfl
          refine kx_v (va_runV (As := [.int (nI (a * S + i))]) (rest := []) ⟨hx, hb, hml, hown, hts⟩ ((c_prBack l D cI cZ q n (n * S) (sq S ((clr (put x 13 a 0 (nI 0)) a i).1 1)) (sq S ((clr (put x 13 a 0 (nI 0)) a i).1 2)) (sq S ((clr (put x 13 a 0 (nI 0)) a i).1 3)) (sq S ((clr (put x 13 a 0 (nI 0)) a i).1 4)) (sq S ((clr (put x 13 a 0 (nI 0)) a i).1 5)) (a * S + i) (L20 hn5 hS4) (seat_lt ha (by omega))) H.size) (cwV 1 hts (gV wd313 wd314 wd315 wd3 wd316) rfl rfl rfl (by decide +kernel) ⟨Nat.le_of_ble_eq_true rfl, Nat.le_of_ble_eq_true rfl⟩) ⟨fb_PW, va_recv (q0 := 0) (ci := 2) hK hPc rfl rfl, pre_PW hK hPc hDc hZ⟩ rfl rfl hl.1 rfl (lv_room (Nat.le_of_ble_eq_true rfl)) dDecreePool_restart_52 ⟨Nat.zero_le _, Nat.zero_le _⟩) hP hD hS hA [3, 4, 5, 6, 7, 8] [0, 1, 2, 9, 10, 11, 12, 13, 14, 15] rfl rfl (by decide) (by decide) (fun w1 H locs hw hP hD hS => ?_)
          obtain rfl := hw
          have hP : va_P D vwCl (wD q cI n S P (n * S) (nI (msk (col ((clr (put x 13 a 0 (nI 0)) a i).1 13) 0) n)) ((clr (put x 13 a 0 (nI 0)) a i).1 12 0 0) ((clr (put x 13 a 0 (nI 0)) a i).1 12 0 1) ((clr (put x 13 a 0 (nI 0)) a i).1 0) (cntx P (clr (put x 13 a 0 (nI 0)) a i)) (upd (sq S ((clr (put x 13 a 0 (nI 0)) a i).1 1)) (a * S + i) (nI 0)) (sq S ((clr (put x 13 a 0 (nI 0)) a i).1 2)) (upd (sq S ((clr (put x 13 a 0 (nI 0)) a i).1 3)) (a * S + i) (nI 0)) (upd (sq S ((clr (put x 13 a 0 (nI 0)) a i).1 4)) (a * S + i) (-1)) (sq S ((clr (put x 13 a 0 (nI 0)) a i).1 5)) (sq S ((clr (put x 13 a 0 (nI 0)) a i).1 8)) (sq S ((clr (put x 13 a 0 (nI 0)) a i).1 9)) (sq S ((clr (put x 13 a 0 (nI 0)) a i).1 10)) (hq n S ((clr (put x 13 a 0 (nI 0)) a i).2 0)) (sq S ((clr (put x 13 a 0 (nI 0)) a i).1 11))) H := hP.sub [0, 1, 2, 10, 11, 12, 13, 14, 15, 3, 4, 5, 6, 7, 8, 9] rfl
          have hD : va_D A (wD q cI n S P (n * S) (nI (msk (col ((clr (put x 13 a 0 (nI 0)) a i).1 13) 0) n)) ((clr (put x 13 a 0 (nI 0)) a i).1 12 0 0) ((clr (put x 13 a 0 (nI 0)) a i).1 12 0 1) ((clr (put x 13 a 0 (nI 0)) a i).1 0) (cntx P (clr (put x 13 a 0 (nI 0)) a i)) (upd (sq S ((clr (put x 13 a 0 (nI 0)) a i).1 1)) (a * S + i) (nI 0)) (sq S ((clr (put x 13 a 0 (nI 0)) a i).1 2)) (upd (sq S ((clr (put x 13 a 0 (nI 0)) a i).1 3)) (a * S + i) (nI 0)) (upd (sq S ((clr (put x 13 a 0 (nI 0)) a i).1 4)) (a * S + i) (-1)) (sq S ((clr (put x 13 a 0 (nI 0)) a i).1 5)) (sq S ((clr (put x 13 a 0 (nI 0)) a i).1 8)) (sq S ((clr (put x 13 a 0 (nI 0)) a i).1 9)) (sq S ((clr (put x 13 a 0 (nI 0)) a i).1 10)) (hq n S ((clr (put x 13 a 0 (nI 0)) a i).2 0)) (sq S ((clr (put x 13 a 0 (nI 0)) a i).1 11))) := hD.sub [0, 1, 2, 10, 11, 12, 13, 14, 15, 3, 4, 5, 6, 7, 8, 9] (by decide) rfl
          refine lv_aload_n hx hb dDecreePool_restart_55 rfl (lv_at hl 2 rfl) ?_
          refine va_get (D := D) (ci := 0) (v := .ref (q 13)) (C := RDecreePool) (T := TDecreePool) (N := 9) hx hb hts (fun w h => mc (uDecreePool_in w h)) hown hK hP 0 rfl rfl 5 (by decide) (hts _ (mc wd110)) (fun _ h9 => h9) rfl dDecreePool_restart_56 ?_
          refine lv_iload_n hx hb dDecreePool_restart_59 rfl (lv_at hl 0 rfl) ?_
          have hPc := hP.sub (ws' := (wLe q cI n (n * S) (hq n S ((clr (put x 13 a 0 (nI 0)) a i).2 0)) (sq S ((clr (put x 13 a 0 (nI 0)) a i).1 11)))) [13, 14, 15] rfl
          have hDc := hD.sub (ws' := (wLe q cI n (n * S) (hq n S ((clr (put x 13 a 0 (nI 0)) a i).2 0)) (sq S ((clr (put x 13 a 0 (nI 0)) a i).1 11)))) [13, 14, 15] (by decide) rfl
          refine kx_v (va_runV (As := [.int (nI (a * S + i))]) (rest := []) ⟨hx, hb, hml, hown, hts⟩ ((c_leBack l D cI cZ q n (n * S) (hq n S ((clr (put x 13 a 0 (nI 0)) a i).2 0)) (sq S ((clr (put x 13 a 0 (nI 0)) a i).1 11)) (a * S + i) (L20 hn5 hS4) (hn5) (seat_lt ha (by omega))) H.size) (cwV 1 hts (gV wd317 wd318 wd319 wd6 wd320) rfl rfl rfl (by decide +kernel) ⟨Nat.le_of_ble_eq_true rfl, Nat.le_of_ble_eq_true rfl⟩) ⟨fb_PW, va_recv (q0 := 0) (ci := 4) hK hPc rfl rfl, pre_PW hK hPc hDc hZ⟩ rfl rfl hl.1 rfl (lv_room (Nat.le_of_ble_eq_true rfl)) dDecreePool_restart_60 ⟨Nat.zero_le _, Nat.zero_le _⟩) hP hD hS hA [13, 14, 15] [0, 1, 2, 3, 4, 5, 6, 7, 8, 9, 10, 11, 12] rfl rfl (by decide) (by decide) (fun w1 H locs hw hP hD hS => ?_)
          obtain rfl := hw
          have hP : va_P D vwCl (wD q cI n S P (n * S) (nI (msk (col ((clr (put x 13 a 0 (nI 0)) a i).1 13) 0) n)) ((clr (put x 13 a 0 (nI 0)) a i).1 12 0 0) ((clr (put x 13 a 0 (nI 0)) a i).1 12 0 1) ((clr (put x 13 a 0 (nI 0)) a i).1 0) (cntx P (clr (put x 13 a 0 (nI 0)) a i)) (upd (sq S ((clr (put x 13 a 0 (nI 0)) a i).1 1)) (a * S + i) (nI 0)) (sq S ((clr (put x 13 a 0 (nI 0)) a i).1 2)) (upd (sq S ((clr (put x 13 a 0 (nI 0)) a i).1 3)) (a * S + i) (nI 0)) (upd (sq S ((clr (put x 13 a 0 (nI 0)) a i).1 4)) (a * S + i) (-1)) (sq S ((clr (put x 13 a 0 (nI 0)) a i).1 5)) (sq S ((clr (put x 13 a 0 (nI 0)) a i).1 8)) (sq S ((clr (put x 13 a 0 (nI 0)) a i).1 9)) (sq S ((clr (put x 13 a 0 (nI 0)) a i).1 10)) (fillr (hq n S ((clr (put x 13 a 0 (nI 0)) a i).2 0)) ((a * S + i) * n) (-1) n) (upd (sq S ((clr (put x 13 a 0 (nI 0)) a i).1 11)) (a * S + i) (nI 0))) H := hP
          have hD : va_D A (wD q cI n S P (n * S) (nI (msk (col ((clr (put x 13 a 0 (nI 0)) a i).1 13) 0) n)) ((clr (put x 13 a 0 (nI 0)) a i).1 12 0 0) ((clr (put x 13 a 0 (nI 0)) a i).1 12 0 1) ((clr (put x 13 a 0 (nI 0)) a i).1 0) (cntx P (clr (put x 13 a 0 (nI 0)) a i)) (upd (sq S ((clr (put x 13 a 0 (nI 0)) a i).1 1)) (a * S + i) (nI 0)) (sq S ((clr (put x 13 a 0 (nI 0)) a i).1 2)) (upd (sq S ((clr (put x 13 a 0 (nI 0)) a i).1 3)) (a * S + i) (nI 0)) (upd (sq S ((clr (put x 13 a 0 (nI 0)) a i).1 4)) (a * S + i) (-1)) (sq S ((clr (put x 13 a 0 (nI 0)) a i).1 5)) (sq S ((clr (put x 13 a 0 (nI 0)) a i).1 8)) (sq S ((clr (put x 13 a 0 (nI 0)) a i).1 9)) (sq S ((clr (put x 13 a 0 (nI 0)) a i).1 10)) (fillr (hq n S ((clr (put x 13 a 0 (nI 0)) a i).2 0)) ((a * S + i) * n) (-1) n) (upd (sq S ((clr (put x 13 a 0 (nI 0)) a i).1 11)) (a * S + i) (nI 0))) := hD
          have hW3 : (wD q cI n S P (n * S) (nI (msk (col ((clr (put x 13 a 0 (nI 0)) a i).1 13) 0) n)) ((clr (put x 13 a 0 (nI 0)) a i).1 12 0 0) ((clr (put x 13 a 0 (nI 0)) a i).1 12 0 1) ((clr (put x 13 a 0 (nI 0)) a i).1 0) (cntx P (clr (put x 13 a 0 (nI 0)) a i)) (upd (sq S ((clr (put x 13 a 0 (nI 0)) a i).1 1)) (a * S + i) (nI 0)) (sq S ((clr (put x 13 a 0 (nI 0)) a i).1 2)) (upd (sq S ((clr (put x 13 a 0 (nI 0)) a i).1 3)) (a * S + i) (nI 0)) (upd (sq S ((clr (put x 13 a 0 (nI 0)) a i).1 4)) (a * S + i) (-1)) (sq S ((clr (put x 13 a 0 (nI 0)) a i).1 5)) (sq S ((clr (put x 13 a 0 (nI 0)) a i).1 8)) (sq S ((clr (put x 13 a 0 (nI 0)) a i).1 9)) (sq S ((clr (put x 13 a 0 (nI 0)) a i).1 10)) (fillr (hq n S ((clr (put x 13 a 0 (nI 0)) a i).2 0)) ((a * S + i) * n) (-1) n) (upd (sq S ((clr (put x 13 a 0 (nI 0)) a i).1 11)) (a * S + i) (nI 0))) = (wX q cI n S P (clr (put x 13 a 0 (nI 0)) a (i + 1))) := wX_clr hn1 (show i < S by omega)
          rw [hW3] at hP hD
          refine lv_iinc (k := 1) (v := nI (i + 1)) hx hb dDecreePool_restart_63 hl rfl ((nI_succ _).symm) (by decide) rfl (fun ls hl => ?_)
          have hl : lv_has ls 4 [(2, .int (nI (i + 1))), (3, .int (nI (a * S + i))), (0, .ref (q 0)), (1, .int (nI a))] := hl
          refine lv_goto (tgt := 32) hx hb dDecreePool_restart_66 (by decide) ?_
          exact ih32 (i + 1) ls H locs (by omega) (lv_sub hl [0, 2, 3] rfl) hP hD hS
      exact loop32 S 0 ls H locs (by omega) hl hP hD hS
  · have hP : va_P D vwCl (wX q cI n S P x) H := hP
    have hD : va_D A (wX q cI n S P x) := hD
    refine lv_if_eq (tgt := 16) hx hb dDecreePool_restart_5 (by decide) (fun _ => ?_) (fun h9 => absurd (by decide) h9)
    refine lv_iconst (v := (-1)) hx hb dDecreePool_restart_16 (by decide) ?_
    exact W.iret (v := (-1)) hx hb hr (fun t9 ht9 hW9 => ⟨⟨(-1), (wX q cI n S P x), rfl, fin2 (if_neg (fun h => h2 h.1)), by rw [ht9]; exact hP, va_K.moved hW9.alike hK, hD⟩, hS.F ht9⟩) hS.2.2 dDecreePool_restart_17
theorem dDecreePool_tell_0 : decode cDecreePool_tell 0 = .ok (.aload_n 0, 1) := by decide +kernel
theorem dDecreePool_tell_1 : decode cDecreePool_tell 1 = .ok (.iload_n 1, 1) := by decide +kernel
theorem dDecreePool_tell_2 : decode cDecreePool_tell 2 = .ok (.iload_n 2, 1) := by decide +kernel
theorem dDecreePool_tell_3 : decode cDecreePool_tell 3 = .ok (.invokevirtual 61, 3) := by decide +kernel
theorem dDecreePool_tell_6 : decode cDecreePool_tell 6 = .ok (.ifCond .ne 5, 3) := by decide +kernel
theorem dDecreePool_tell_9 : decode cDecreePool_tell 9 = .ok (.iconst (-1), 1) := by decide +kernel
theorem dDecreePool_tell_10 : decode cDecreePool_tell 10 = .ok (.ireturn, 1) := by decide +kernel
theorem dDecreePool_tell_11 : decode cDecreePool_tell 11 = .ok (.aload_n 0, 1) := by decide +kernel
theorem dDecreePool_tell_12 : decode cDecreePool_tell 12 = .ok (.getfield 48, 3) := by decide +kernel
theorem dDecreePool_tell_15 : decode cDecreePool_tell 15 = .ok (.aload_n 0, 1) := by decide +kernel
theorem dDecreePool_tell_16 : decode cDecreePool_tell 16 = .ok (.iload_n 1, 1) := by decide +kernel
theorem dDecreePool_tell_17 : decode cDecreePool_tell 17 = .ok (.iload_n 2, 1) := by decide +kernel
theorem dDecreePool_tell_18 : decode cDecreePool_tell 18 = .ok (.invokevirtual 69, 3) := by decide +kernel
theorem dDecreePool_tell_21 : decode cDecreePool_tell 21 = .ok (.invokevirtual 122, 3) := by decide +kernel
theorem dDecreePool_tell_24 : decode cDecreePool_tell 24 = .ok (.istore_n 3, 1) := by decide +kernel
theorem dDecreePool_tell_25 : decode cDecreePool_tell 25 = .ok (.iload_n 3, 1) := by decide +kernel
theorem dDecreePool_tell_26 : decode cDecreePool_tell 26 = .ok (.ifCond .ne 5, 3) := by decide +kernel
theorem dDecreePool_tell_29 : decode cDecreePool_tell 29 = .ok (.iconst (-1), 1) := by decide +kernel
theorem dDecreePool_tell_30 : decode cDecreePool_tell 30 = .ok (.ireturn, 1) := by decide +kernel
theorem dDecreePool_tell_31 : decode cDecreePool_tell 31 = .ok (.aload_n 0, 1) := by decide +kernel
theorem dDecreePool_tell_32 : decode cDecreePool_tell 32 = .ok (.iload_n 1, 1) := by decide +kernel
theorem dDecreePool_tell_33 : decode cDecreePool_tell 33 = .ok (.invokevirtual 65, 3) := by decide +kernel
theorem dDecreePool_tell_36 : decode cDecreePool_tell 36 = .ok (.ifCond .ne 6, 3) := by decide +kernel
theorem dDecreePool_tell_39 : decode cDecreePool_tell 39 = .ok (.bipush (-2), 2) := by decide +kernel
theorem dDecreePool_tell_41 : decode cDecreePool_tell 41 = .ok (.ireturn, 1) := by decide +kernel
theorem dDecreePool_tell_42 : decode cDecreePool_tell 42 = .ok (.aload_n 0, 1) := by decide +kernel
theorem dDecreePool_tell_43 : decode cDecreePool_tell 43 = .ok (.getfield 25, 3) := by decide +kernel
theorem dDecreePool_tell_46 : decode cDecreePool_tell 46 = .ok (.invokevirtual 77, 3) := by decide +kernel
theorem dDecreePool_tell_49 : decode cDecreePool_tell 49 = .ok (.aload_n 0, 1) := by decide +kernel
theorem dDecreePool_tell_50 : decode cDecreePool_tell 50 = .ok (.getfield 13, 3) := by decide +kernel
theorem dDecreePool_tell_53 : decode cDecreePool_tell 53 = .ok (.if_icmp .ge 6, 3) := by decide +kernel
theorem dDecreePool_tell_56 : decode cDecreePool_tell 56 = .ok (.bipush (-4), 2) := by decide +kernel
theorem dDecreePool_tell_58 : decode cDecreePool_tell 58 = .ok (.ireturn, 1) := by decide +kernel
theorem dDecreePool_tell_59 : decode cDecreePool_tell 59 = .ok (.aload_n 0, 1) := by decide +kernel
theorem dDecreePool_tell_60 : decode cDecreePool_tell 60 = .ok (.iconst 5, 1) := by decide +kernel
theorem dDecreePool_tell_61 : decode cDecreePool_tell 61 = .ok (.iload_n 1, 1) := by decide +kernel
theorem dDecreePool_tell_62 : decode cDecreePool_tell 62 = .ok (.iload_n 2, 1) := by decide +kernel
theorem dDecreePool_tell_63 : decode cDecreePool_tell 63 = .ok (.iconst (-1), 1) := by decide +kernel
theorem dDecreePool_tell_64 : decode cDecreePool_tell 64 = .ok (.iload_n 3, 1) := by decide +kernel
theorem dDecreePool_tell_65 : decode cDecreePool_tell 65 = .ok (.invokevirtual 85, 3) := by decide +kernel
theorem dDecreePool_tell_68 : decode cDecreePool_tell 68 = .ok (.iload_n 3, 1) := by decide +kernel
theorem dDecreePool_tell_69 : decode cDecreePool_tell 69 = .ok (.ireturn, 1) := by decide +kernel
set_option maxRecDepth 100000 in
set_option maxHeartbeats 4000000 in
theorem c_tell (l : Launch) (D : va_G) (cI cZ : ClassId) (q : Nat → Nat) (n : Nat) (S : Nat) (P : Nat) (x : St) (nd : Int32) (sl : Int32) (hn1 : 1 ≤ n) (hn5 : n ≤ 5) (hS1 : 1 ≤ S) (hS4 : S ≤ 4) (hP5 : 5 ≤ P) (hP64 : P ≤ 64) : MI l D [(cI, .int), (cZ, .boolean)] yDecreePool_tell wsDecreePool_tell ({ frames := 4, cells := 0, slots := 0, locals := 98 }) [.ref (q 0), .int nd, .int sl] (wX q cI n S P x) (fun r w => r = (sTell n S P x nd sl).1 ∧ w = (wX q cI n S P (sTell n S P x nd sl).2)) := by
  intro sz
  refine Met.ofW (cc := cDecreePool_tell) (maxL := 4) (ret := (Option.some .int)) (by decide) rfl ?_
  intro p e s m args below meth c s₁ B hml hv
  obtain ⟨rfl, hsz, hP, hK, hD0, hZ⟩ := hv
  have hx := B.exec
  have hb := B.bytes
  have hr := B.returns
  have hts := atoms_spec (ws := wsDecreePool_tell) B.pre
  have hown : s.vm.findClass RDecreePool = some m.cls := findClass_of_methodNamed B.named
  have hlocks := B.notSynchronized
  subst hsz
  have hD := hD0.self (sz := s.heap.size)
  generalize hAe : va_A (wX q cI n S P x) s.heap.size = A at hD ⊢
  have hA : ∀ q : Nat, s.heap.size ≤ q → A q := fun q h => by rw [← hAe]; exact Or.inr h
  have hS : va_S A s.heap s.heap [] := va_S.rf
  have hP : va_P D vwCl (wX q cI n S P x) s.heap := hP
  have hl := lv_entry ([.ref (q 0), .int nd, .int sl]) (n := 4) (Nat.le_of_ble_eq_true rfl)
  rw [lg_entry_eq]
  generalize (lg_sl ([.ref (q 0), .int nd, .int sl]) ++ List.replicate (4 - (lg_sl ([.ref (q 0), .int nd, .int sl])).length) Slot.unset).toArray = ls at hl ⊢
  have hl : lv_has ls 4 [(0, .ref (q 0)), (1, .int nd), (2, .int sl)] := hl
  refine lv_aload_n hx hb dDecreePool_tell_0 rfl (lv_at hl 0 rfl) ?_
  refine lv_iload_n hx hb dDecreePool_tell_1 rfl (lv_at hl 1 rfl) ?_
  refine lv_iload_n hx hb dDecreePool_tell_2 rfl (lv_at hl 2 rfl) ?_
  have hPc := hP.sub (ws' := (wX q cI n S P x)) [0, 1, 2, 3, 4, 5, 6, 7, 8, 9, 10, 11, 12, 13, 14, 15] rfl
  have hDc := hD.sub (ws' := (wX q cI n S P x)) [0, 1, 2, 3, 4, 5, 6, 7, 8, 9, 10, 11, 12, 13, 14, 15] (by decide) rfl
  refine kx_i (va_runV (As := [.int nd, .int sl]) (rest := []) ⟨hx, hb, hml, hown, hts⟩ ((c_hasSeat l D cI cZ q n S P x nd sl (hn1) (hn5) (hS1) (hS4) (hP5) (hP64)) s.heap.size) (cwV 2 hts (gV wd137 wd139 sl_DecreePool_hasSeat wd1 wd140) rfl rfl rfl (by decide +kernel) ⟨Nat.le_of_ble_eq_true rfl, Nat.le_of_ble_eq_true rfl⟩) ⟨fb_PW, va_recv (q0 := 0) (ci := 0) hK hPc rfl rfl, pre_PW hK hPc hDc hZ⟩ rfl rfl hl.1 rfl (lv_room (Nat.le_of_ble_eq_true rfl)) dDecreePool_tell_3 ⟨Nat.zero_le _, Nat.zero_le _⟩) hP hD hS hA [0, 1, 2, 3, 4, 5, 6, 7, 8, 9, 10, 11, 12, 13, 14, 15] [] rfl rfl (by decide) (by decide) (fun r w1 H locs hw hP hD hS => ?_)
  rcases hw with ⟨rfl, h3, rfl⟩ | ⟨rfl, h3, rfl⟩
  · have hP : va_P D vwCl (wX q cI n S P x) H := hP
    have hD : va_D A (wX q cI n S P x) := hD
    obtain ⟨a, ha, rfl⟩ := okN_of (show n < 2 ^ 31 by omega) h3.1
    obtain ⟨t, ht, rfl⟩ := okN_of (show S < 2 ^ 31 by omega) h3.2
    refine lv_if_ne (tgt := 11) hx hb dDecreePool_tell_6 (by decide) (fun _ => ?_) (fun h9 => absurd h9 (by decide))
    refine lv_aload_n hx hb dDecreePool_tell_11 rfl (lv_at hl 0 rfl) ?_
    refine va_get (D := D) (ci := 0) (v := .ref (q 13)) (C := RDecreePool) (T := TDecreePool) (N := 9) hx hb hts (fun w h => mc (uDecreePool_in w h)) hown hK hP 0 rfl rfl 5 (by decide) (hts _ (mc wd110)) (fun _ h9 => h9) rfl dDecreePool_tell_12 ?_
    refine lv_aload_n hx hb dDecreePool_tell_15 rfl (lv_at hl 0 rfl) ?_
    refine lv_iload_n hx hb dDecreePool_tell_16 rfl (lv_at hl 1 rfl) ?_
    refine lv_iload_n hx hb dDecreePool_tell_17 rfl (lv_at hl 2 rfl) ?_
    have hPc := hP.sub (ws' := (wX q cI n S P x)) [0, 1, 2, 3, 4, 5, 6, 7, 8, 9, 10, 11, 12, 13, 14, 15] rfl
    have hDc := hD.sub (ws' := (wX q cI n S P x)) [0, 1, 2, 3, 4, 5, 6, 7, 8, 9, 10, 11, 12, 13, 14, 15] (by decide) rfl
    refine kx_i (va_runV (As := [.int (nI a), .int (nI t)]) (rest := [.ref (q 13)]) ⟨hx, hb, hml, hown, hts⟩ ((c_seatOf l D cI cZ q n S P x a t (hn1) (hn5) (hS1) (hS4) (hP5) (hP64)) H.size) (cwV 2 hts (gV wd153 wd155 sl_DecreePool_seatOf wd1 wd156) rfl rfl rfl (by decide +kernel) ⟨Nat.le_of_ble_eq_true rfl, Nat.le_of_ble_eq_true rfl⟩) ⟨fb_PW, va_recv (q0 := 0) (ci := 0) hK hPc rfl rfl, pre_PW hK hPc hDc hZ⟩ rfl rfl hl.1 rfl (lv_room (Nat.le_of_ble_eq_true rfl)) dDecreePool_tell_18 ⟨Nat.zero_le _, Nat.zero_le _⟩) hP hD hS hA [0, 1, 2, 3, 4, 5, 6, 7, 8, 9, 10, 11, 12, 13, 14, 15] [] rfl rfl (by decide) (by decide) (fun r w1 H locs hw hP hD hS => ?_)
    obtain ⟨rfl, rfl⟩ := hw
    have hP : va_P D vwCl (wX q cI n S P x) H := hP
    have hD : va_D A (wX q cI n S P x) := hD
    have hPc := hP.sub (ws' := (wLe q cI n (n * S) (hq n S (x.2 0)) (sq S (x.1 11)))) [13, 14, 15] rfl
    have hDc := hD.sub (ws' := (wLe q cI n (n * S) (hq n S (x.2 0)) (sq S (x.1 11)))) [13, 14, 15] (by decide) rfl
    refine kx_i (va_runV (As := [.int (nI (a * S + t))]) (rest := []) ⟨hx, hb, hml, hown, hts⟩ ((c_decree l D cI cZ q n (n * S) (hq n S (x.2 0)) (sq S (x.1 11)) (a * S + t) (L20 hn5 hS4) (seat_lt ha ht)) H.size) (cwV 1 hts (gV wd325 wd326 wd327 wd6 wd328) rfl rfl rfl (by decide +kernel) ⟨Nat.le_of_ble_eq_true rfl, Nat.le_of_ble_eq_true rfl⟩) ⟨fb_PW, va_recv (q0 := 0) (ci := 4) hK hPc rfl rfl, pre_PW hK hPc hDc hZ⟩ rfl rfl hl.1 rfl (lv_room (Nat.le_of_ble_eq_true rfl)) dDecreePool_tell_21 ⟨Nat.zero_le _, Nat.zero_le _⟩) hP hD hS hA [13, 14, 15] [0, 1, 2, 3, 4, 5, 6, 7, 8, 9, 10, 11, 12] rfl rfl (by decide) (by decide) (fun r w1 H locs hw hP hD hS => ?_)
    obtain ⟨rfl, rfl⟩ := hw
    have hP : va_P D vwCl (wX q cI n S P x) H := hP
    have hD : va_D A (wX q cI n S P x) := hD
    refine lv_topi (nm_r (sq_at ht) ?_)
    refine lv_istore_n hx hb dDecreePool_tell_24 rfl hl (by decide) rfl (fun ls hl => ?_)
    have hl : lv_has ls 4 [(3, .int (x.1 11 a t)), (0, .ref (q 0)), (1, .int (nI a)), (2, .int (nI t))] := hl
    refine lv_iload_n hx hb dDecreePool_tell_25 rfl (lv_at hl 0 rfl) ?_
    refine lv_if_ne (tgt := 31) hx hb dDecreePool_tell_26 (by decide) (fun c26 => ?_) (fun c26 => ?_)
    · have hok : okN (nI a) n ∧ okN (nI t) S ∧ x.1 11 (ix (nI a)) (ix (nI t)) ≠ 0 := ⟨h3.1, h3.2, by rw [ix_nI ha (by omega), ix_nI ht (by omega)]; exact c26⟩
      refine lv_aload_n hx hb dDecreePool_tell_31 rfl (lv_at hl 1 rfl) ?_
      refine lv_iload_n hx hb dDecreePool_tell_32 rfl (lv_at hl 2 rfl) ?_
      have hPc := hP.sub (ws' := (wX q cI n S P x)) [0, 1, 2, 3, 4, 5, 6, 7, 8, 9, 10, 11, 12, 13, 14, 15] rfl
      have hDc := hD.sub (ws' := (wX q cI n S P x)) [0, 1, 2, 3, 4, 5, 6, 7, 8, 9, 10, 11, 12, 13, 14, 15] (by decide) rfl
      refine kx_i (va_runV (As := [.int (nI a)]) (rest := []) ⟨hx, hb, hml, hown, hts⟩ ((c_isUp l D cI cZ q n S P x a (hn1) (hn5) (hS1) (hS4) (hP5) (hP64) (by omega)) H.size) (cwV 1 hts (gV wd149 wd151 sl_DecreePool_isUp wd1 wd152) rfl rfl rfl (by decide +kernel) ⟨Nat.le_of_ble_eq_true rfl, Nat.le_of_ble_eq_true rfl⟩) ⟨fb_PW, va_recv (q0 := 0) (ci := 0) hK hPc rfl rfl, pre_PW hK hPc hDc hZ⟩ rfl rfl hl.1 rfl (lv_room (Nat.le_of_ble_eq_true rfl)) dDecreePool_tell_33 ⟨Nat.zero_le _, Nat.zero_le _⟩) hP hD hS hA [0, 1, 2, 3, 4, 5, 6, 7, 8, 9, 10, 11, 12, 13, 14, 15] [] rfl rfl (by decide) (by decide) (fun r w1 H locs hw hP hD hS => ?_)
      rcases hw with ⟨rfl, h33, rfl⟩ | ⟨rfl, h33, rfl⟩
      · have hP : va_P D vwCl (wX q cI n S P x) H := hP
        have hD : va_D A (wX q cI n S P x) := hD
        refine lv_if_ne (tgt := 42) hx hb dDecreePool_tell_36 (by decide) (fun _ => ?_) (fun h9 => absurd h9 (by decide))
        refine lv_aload_n hx hb dDecreePool_tell_42 rfl (lv_at hl 1 rfl) ?_
        refine va_get (D := D) (ci := 0) (v := .ref (q 1)) (C := RDecreePool) (T := TDecreePool) (N := 9) hx hb hts (fun w h => mc (uDecreePool_in w h)) hown hK hP 0 rfl rfl 2 (by decide) (hts _ (mc wd107)) (fun _ h9 => h9) rfl dDecreePool_tell_43 ?_
        have hPc := hP.sub (ws' := (wPo q cI P (x.1 0) (cntx P x))) [1, 2] rfl
        have hDc := hD.sub (ws' := (wPo q cI P (x.1 0) (cntx P x))) [1, 2] (by decide) rfl
        refine kx_i (va_runV (As := []) (rest := []) ⟨hx, hb, hml, hown, hts⟩ ((c_emptyPlaces l D cI cZ q P (x.1 0) (cntx P x) (cnt_le _ _)) H.size) (cwV 0 hts (gV wd161 wd162 wd163 wd2 wd164) rfl rfl rfl (by decide +kernel) ⟨Nat.le_of_ble_eq_true rfl, Nat.le_of_ble_eq_true rfl⟩) ⟨fb_PW, va_recv (q0 := 0) (ci := 1) hK hPc rfl rfl, pre_PW hK hPc hDc hZ⟩ rfl rfl hl.1 rfl (lv_room (Nat.le_of_ble_eq_true rfl)) dDecreePool_tell_46 ⟨Nat.zero_le _, Nat.zero_le _⟩) hP hD hS hA [1, 2] [0, 3, 4, 5, 6, 7, 8, 9, 10, 11, 12, 13, 14, 15] rfl rfl (by decide) (by decide) (fun r w1 H locs hw hP hD hS => ?_)
        obtain ⟨rfl, rfl⟩ := hw
        have hP : va_P D vwCl (wX q cI n S P x) H := hP.sub [0, 14, 15, 1, 2, 3, 4, 5, 6, 7, 8, 9, 10, 11, 12, 13] rfl
        have hD : va_D A (wX q cI n S P x) := hD.sub [0, 14, 15, 1, 2, 3, 4, 5, 6, 7, 8, 9, 10, 11, 12, 13] (by decide) rfl
        refine lv_aload_n hx hb dDecreePool_tell_49 rfl (lv_at hl 1 rfl) ?_
        refine va_get (D := D) (ci := 0) (v := .int (nI n)) (C := RDecreePool) (T := TDecreePool) (N := 9) hx hb hts (fun w h => mc (uDecreePool_in w h)) hown hK hP 0 rfl rfl 0 (by decide) (hts _ (mc wd105)) (fun _ h9 => h9) rfl dDecreePool_tell_50 ?_
        refine lv_icmp_ge (tgt := 59) hx hb dDecreePool_tell_53 (by decide) (fun c53 => ?_) (fun c53 => ?_)
        · have hfl : ¬ P - cntx P x < n := fun q => absurd c53 (nI_ge q (by omega))
          refine lv_aload_n hx hb dDecreePool_tell_59 rfl (lv_at hl 1 rfl) ?_
          refine lv_iconst (v := nI 5) hx hb dDecreePool_tell_60 (by decide) ?_
          refine lv_iload_n hx hb dDecreePool_tell_61 rfl (lv_at hl 2 rfl) ?_
          refine lv_iload_n hx hb dDecreePool_tell_62 rfl (lv_at hl 3 rfl) ?_
          refine lv_iconst (v := (-1)) hx hb dDecreePool_tell_63 (by decide) ?_
          refine lv_iload_n hx hb dDecreePool_tell_64 rfl (lv_at hl 0 rfl) ?_
          have hPc := hP.sub (ws' := (wX q cI n S P x)) [0, 1, 2, 3, 4, 5, 6, 7, 8, 9, 10, 11, 12, 13, 14, 15] rfl
          have hDc := hD.sub (ws' := (wX q cI n S P x)) [0, 1, 2, 3, 4, 5, 6, 7, 8, 9, 10, 11, 12, 13, 14, 15] (by decide) rfl
          refine kx_v (va_runV (As := [.int (nI 5), .int (nI a), .int (nI t), .int (-1), .int (x.1 11 a t)]) (rest := []) ⟨hx, hb, hml, hown, hts⟩ ((c_sendToAll l D cI cZ q n S P x (nI 5) (nI a) (nI t) (-1) (x.1 11 a t) (hn1) (hn5) (hS1) (hS4) (hP5) (hP64) (by decide) (by have h7 : cntx P x ≤ P := cnt_le _ _; omega)) H.size) (cwV 5 hts (gV wd169 wd171 sl_DecreePool_sendToAll wd1 wd172) rfl rfl rfl (by decide +kernel) ⟨Nat.le_of_ble_eq_true rfl, Nat.le_of_ble_eq_true rfl⟩) ⟨fb_PW, va_recv (q0 := 0) (ci := 0) hK hPc rfl rfl, pre_PW hK hPc hDc hZ⟩ rfl rfl hl.1 rfl (lv_room (Nat.le_of_ble_eq_true rfl)) dDecreePool_tell_65 ⟨Nat.zero_le _, Nat.zero_le _⟩) hP hD hS hA [0, 1, 2, 3, 4, 5, 6, 7, 8, 9, 10, 11, 12, 13, 14, 15] [] rfl rfl (by decide) (by decide) (fun w1 H locs hw hP hD hS => ?_)
          obtain rfl := hw
          have hP : va_P D vwCl (wX q cI n S P (sendA P x (nI 5) (nI a) (nI t) (-1) (x.1 11 a t) n)) H := hP
          have hD : va_D A (wX q cI n S P (sendA P x (nI 5) (nI a) (nI t) (-1) (x.1 11 a t) n)) := hD
          refine lv_iload_n hx hb dDecreePool_tell_68 rfl (lv_at hl 0 rfl) ?_
          exact W.iret (v := x.1 11 a t) hx hb hr (fun t9 ht9 hW9 => ⟨⟨x.1 11 a t, (wX q cI n S P (sendA P x (nI 5) (nI a) (nI t) (-1) (x.1 11 a t) n)), rfl, fin2 (by unfold sTell; rw [if_pos hok, ix_nI ha (by omega), ix_nI ht (by omega), if_neg (fun q => q h33), if_neg hfl]; try rfl), by rw [ht9]; exact hP, va_K.moved hW9.alike hK, hD⟩, hS.F ht9⟩) hS.2.2 dDecreePool_tell_69
        · have hfl : P - cntx P x < n := Nat.lt_of_not_le (fun q => c53 (nI_le q (by omega)))
          refine lv_bipush (v := (-4)) hx hb dDecreePool_tell_56 (by decide) ?_
          exact W.iret (v := (-4)) hx hb hr (fun t9 ht9 hW9 => ⟨⟨(-4), (wX q cI n S P x), rfl, fin2 (by unfold sTell; rw [if_pos hok, ix_nI ha (by omega), ix_nI ht (by omega), if_neg (fun q => q h33), if_pos hfl]; try rfl), by rw [ht9]; exact hP, va_K.moved hW9.alike hK, hD⟩, hS.F ht9⟩) hS.2.2 dDecreePool_tell_58
      · have hP : va_P D vwCl (wX q cI n S P x) H := hP
        have hD : va_D A (wX q cI n S P x) := hD
        refine lv_if_ne (tgt := 42) hx hb dDecreePool_tell_36 (by decide) (fun h9 => absurd (by decide) h9) (fun _ => ?_)
        refine lv_bipush (v := (-2)) hx hb dDecreePool_tell_39 (by decide) ?_
        exact W.iret (v := (-2)) hx hb hr (fun t9 ht9 hW9 => ⟨⟨(-2), (wX q cI n S P x), rfl, fin2 (by unfold sTell; rw [if_pos hok, ix_nI ha (by omega), ix_nI ht (by omega), if_pos h33]; try rfl), by rw [ht9]; exact hP, va_K.moved hW9.alike hK, hD⟩, hS.F ht9⟩) hS.2.2 dDecreePool_tell_41
    · refine lv_iconst (v := (-1)) hx hb dDecreePool_tell_29 (by decide) ?_
      exact W.iret (v := (-1)) hx hb hr (fun t9 ht9 hW9 => ⟨⟨(-1), (wX q cI n S P x), rfl, fin2 (if_neg (fun h => h.2.2 (by rw [ix_nI ha (by omega), ix_nI ht (by omega)]; exact c26))), by rw [ht9]; exact hP, va_K.moved hW9.alike hK, hD⟩, hS.F ht9⟩) hS.2.2 dDecreePool_tell_30
  · have hP : va_P D vwCl (wX q cI n S P x) H := hP
    have hD : va_D A (wX q cI n S P x) := hD
    refine lv_if_ne (tgt := 11) hx hb dDecreePool_tell_6 (by decide) (fun h9 => absurd (by decide) h9) (fun _ => ?_)
    refine lv_iconst (v := (-1)) hx hb dDecreePool_tell_9 (by decide) ?_
    exact W.iret (v := (-1)) hx hb hr (fun t9 ht9 hW9 => ⟨⟨(-1), (wX q cI n S P x), rfl, fin2 (if_neg (fun h => h3 ⟨h.1, h.2.1⟩)), by rw [ht9]; exact hP, va_K.moved hW9.alike hK, hD⟩, hS.F ht9⟩) hS.2.2 dDecreePool_tell_10
theorem dDecreePool_learned_0 : decode cDecreePool_learned 0 = .ok (.aload_n 0, 1) := by decide +kernel
theorem dDecreePool_learned_1 : decode cDecreePool_learned 1 = .ok (.iload_n 1, 1) := by decide +kernel
theorem dDecreePool_learned_2 : decode cDecreePool_learned 2 = .ok (.iload_n 2, 1) := by decide +kernel
theorem dDecreePool_learned_3 : decode cDecreePool_learned 3 = .ok (.invokevirtual 61, 3) := by decide +kernel
theorem dDecreePool_learned_6 : decode cDecreePool_learned 6 = .ok (.ifCond .eq 19, 3) := by decide +kernel
theorem dDecreePool_learned_9 : decode cDecreePool_learned 9 = .ok (.aload_n 0, 1) := by decide +kernel
theorem dDecreePool_learned_10 : decode cDecreePool_learned 10 = .ok (.getfield 48, 3) := by decide +kernel
theorem dDecreePool_learned_13 : decode cDecreePool_learned 13 = .ok (.aload_n 0, 1) := by decide +kernel
theorem dDecreePool_learned_14 : decode cDecreePool_learned 14 = .ok (.iload_n 1, 1) := by decide +kernel
theorem dDecreePool_learned_15 : decode cDecreePool_learned 15 = .ok (.iload_n 2, 1) := by decide +kernel
theorem dDecreePool_learned_16 : decode cDecreePool_learned 16 = .ok (.invokevirtual 69, 3) := by decide +kernel
theorem dDecreePool_learned_19 : decode cDecreePool_learned 19 = .ok (.invokevirtual 122, 3) := by decide +kernel
theorem dDecreePool_learned_22 : decode cDecreePool_learned 22 = .ok (.goto 4, 3) := by decide +kernel
theorem dDecreePool_learned_25 : decode cDecreePool_learned 25 = .ok (.iconst (-1), 1) := by decide +kernel
theorem dDecreePool_learned_26 : decode cDecreePool_learned 26 = .ok (.ireturn, 1) := by decide +kernel
set_option maxRecDepth 100000 in
set_option maxHeartbeats 4000000 in
theorem c_learned (l : Launch) (D : va_G) (cI cZ : ClassId) (q : Nat → Nat) (n : Nat) (S : Nat) (P : Nat) (x : St) (nd : Int32) (sl : Int32) (hn1 : 1 ≤ n) (hn5 : n ≤ 5) (hS1 : 1 ≤ S) (hS4 : S ≤ 4) (hP5 : 5 ≤ P) (hP64 : P ≤ 64) : MI l D [(cI, .int), (cZ, .boolean)] yDecreePool_learned wsDecreePool_learned ({ frames := 3, cells := 0, slots := 0, locals := 65 }) [.ref (q 0), .int nd, .int sl] (wX q cI n S P x) (fun r w => r = aLearned n S x nd sl ∧ w = (wX q cI n S P x)) := by
  intro sz
  refine Met.ofW (cc := cDecreePool_learned) (maxL := 3) (ret := (Option.some .int)) (by decide) rfl ?_
  intro p e s m args below meth c s₁ B hml hv
  obtain ⟨rfl, hsz, hP, hK, hD0, hZ⟩ := hv
  have hx := B.exec
  have hb := B.bytes
  have hr := B.returns
  have hts := atoms_spec (ws := wsDecreePool_learned) B.pre
  have hown : s.vm.findClass RDecreePool = some m.cls := findClass_of_methodNamed B.named
  have hlocks := B.notSynchronized
  subst hsz
  have hD := hD0.self (sz := s.heap.size)
  generalize hAe : va_A (wX q cI n S P x) s.heap.size = A at hD ⊢
  have hA : ∀ q : Nat, s.heap.size ≤ q → A q := fun q h => by rw [← hAe]; exact Or.inr h
  have hS : va_S A s.heap s.heap [] := va_S.rf
  have hP : va_P D vwCl (wX q cI n S P x) s.heap := hP
  have hl := lv_entry ([.ref (q 0), .int nd, .int sl]) (n := 3) (Nat.le_of_ble_eq_true rfl)
  rw [lg_entry_eq]
  generalize (lg_sl ([.ref (q 0), .int nd, .int sl]) ++ List.replicate (3 - (lg_sl ([.ref (q 0), .int nd, .int sl])).length) Slot.unset).toArray = ls at hl ⊢
  have hl : lv_has ls 3 [(0, .ref (q 0)), (1, .int nd), (2, .int sl)] := hl
  refine lv_aload_n hx hb dDecreePool_learned_0 rfl (lv_at hl 0 rfl) ?_
  refine lv_iload_n hx hb dDecreePool_learned_1 rfl (lv_at hl 1 rfl) ?_
  refine lv_iload_n hx hb dDecreePool_learned_2 rfl (lv_at hl 2 rfl) ?_
  have hPc := hP.sub (ws' := (wX q cI n S P x)) [0, 1, 2, 3, 4, 5, 6, 7, 8, 9, 10, 11, 12, 13, 14, 15] rfl
  have hDc := hD.sub (ws' := (wX q cI n S P x)) [0, 1, 2, 3, 4, 5, 6, 7, 8, 9, 10, 11, 12, 13, 14, 15] (by decide) rfl
  refine kx_i (va_runV (As := [.int nd, .int sl]) (rest := []) ⟨hx, hb, hml, hown, hts⟩ ((c_hasSeat l D cI cZ q n S P x nd sl (hn1) (hn5) (hS1) (hS4) (hP5) (hP64)) s.heap.size) (cwV 2 hts (gV wd137 wd139 sl_DecreePool_hasSeat wd1 wd140) rfl rfl rfl (by decide +kernel) ⟨Nat.le_of_ble_eq_true rfl, Nat.le_of_ble_eq_true rfl⟩) ⟨fb_PW, va_recv (q0 := 0) (ci := 0) hK hPc rfl rfl, pre_PW hK hPc hDc hZ⟩ rfl rfl hl.1 rfl (lv_room (Nat.le_of_ble_eq_true rfl)) dDecreePool_learned_3 ⟨Nat.zero_le _, Nat.zero_le _⟩) hP hD hS hA [0, 1, 2, 3, 4, 5, 6, 7, 8, 9, 10, 11, 12, 13, 14, 15] [] rfl rfl (by decide) (by decide) (fun r w1 H locs hw hP hD hS => ?_)
  rcases hw with ⟨rfl, h3, rfl⟩ | ⟨rfl, h3, rfl⟩
  · have hP : va_P D vwCl (wX q cI n S P x) H := hP
    have hD : va_D A (wX q cI n S P x) := hD
    obtain ⟨a, ha, rfl⟩ := okN_of (show n < 2 ^ 31 by omega) h3.1
    obtain ⟨t, ht, rfl⟩ := okN_of (show S < 2 ^ 31 by omega) h3.2
    refine lv_if_eq (tgt := 25) hx hb dDecreePool_learned_6 (by decide) (fun h9 => absurd h9 (by decide)) (fun _ => ?_)
    refine lv_aload_n hx hb dDecreePool_learned_9 rfl (lv_at hl 0 rfl) ?_
    refine va_get (D := D) (ci := 0) (v := .ref (q 13)) (C := RDecreePool) (T := TDecreePool) (N := 9) hx hb hts (fun w h => mc (uDecreePool_in w h)) hown hK hP 0 rfl rfl 5 (by decide) (hts _ (mc wd110)) (fun _ h9 => h9) rfl dDecreePool_learned_10 ?_
    refine lv_aload_n hx hb dDecreePool_learned_13 rfl (lv_at hl 0 rfl) ?_
    refine lv_iload_n hx hb dDecreePool_learned_14 rfl (lv_at hl 1 rfl) ?_
    refine lv_iload_n hx hb dDecreePool_learned_15 rfl (lv_at hl 2 rfl) ?_
    have hPc := hP.sub (ws' := (wX q cI n S P x)) [0, 1, 2, 3, 4, 5, 6, 7, 8, 9, 10, 11, 12, 13, 14, 15] rfl
    have hDc := hD.sub (ws' := (wX q cI n S P x)) [0, 1, 2, 3, 4, 5, 6, 7, 8, 9, 10, 11, 12, 13, 14, 15] (by decide) rfl
    refine kx_i (va_runV (As := [.int (nI a), .int (nI t)]) (rest := [.ref (q 13)]) ⟨hx, hb, hml, hown, hts⟩ ((c_seatOf l D cI cZ q n S P x a t (hn1) (hn5) (hS1) (hS4) (hP5) (hP64)) H.size) (cwV 2 hts (gV wd153 wd155 sl_DecreePool_seatOf wd1 wd156) rfl rfl rfl (by decide +kernel) ⟨Nat.le_of_ble_eq_true rfl, Nat.le_of_ble_eq_true rfl⟩) ⟨fb_PW, va_recv (q0 := 0) (ci := 0) hK hPc rfl rfl, pre_PW hK hPc hDc hZ⟩ rfl rfl hl.1 rfl (lv_room (Nat.le_of_ble_eq_true rfl)) dDecreePool_learned_16 ⟨Nat.zero_le _, Nat.zero_le _⟩) hP hD hS hA [0, 1, 2, 3, 4, 5, 6, 7, 8, 9, 10, 11, 12, 13, 14, 15] [] rfl rfl (by decide) (by decide) (fun r w1 H locs hw hP hD hS => ?_)
    obtain ⟨rfl, rfl⟩ := hw
    have hP : va_P D vwCl (wX q cI n S P x) H := hP
    have hD : va_D A (wX q cI n S P x) := hD
    have hPc := hP.sub (ws' := (wLe q cI n (n * S) (hq n S (x.2 0)) (sq S (x.1 11)))) [13, 14, 15] rfl
    have hDc := hD.sub (ws' := (wLe q cI n (n * S) (hq n S (x.2 0)) (sq S (x.1 11)))) [13, 14, 15] (by decide) rfl
    refine kx_i (va_runV (As := [.int (nI (a * S + t))]) (rest := []) ⟨hx, hb, hml, hown, hts⟩ ((c_decree l D cI cZ q n (n * S) (hq n S (x.2 0)) (sq S (x.1 11)) (a * S + t) (L20 hn5 hS4) (seat_lt ha ht)) H.size) (cwV 1 hts (gV wd325 wd326 wd327 wd6 wd328) rfl rfl rfl (by decide +kernel) ⟨Nat.le_of_ble_eq_true rfl, Nat.le_of_ble_eq_true rfl⟩) ⟨fb_PW, va_recv (q0 := 0) (ci := 4) hK hPc rfl rfl, pre_PW hK hPc hDc hZ⟩ rfl rfl hl.1 rfl (lv_room (Nat.le_of_ble_eq_true rfl)) dDecreePool_learned_19 ⟨Nat.zero_le _, Nat.zero_le _⟩) hP hD hS hA [13, 14, 15] [0, 1, 2, 3, 4, 5, 6, 7, 8, 9, 10, 11, 12] rfl rfl (by decide) (by decide) (fun r w1 H locs hw hP hD hS => ?_)
    obtain ⟨rfl, rfl⟩ := hw
    have hP : va_P D vwCl (wX q cI n S P x) H := hP
    have hD : va_D A (wX q cI n S P x) := hD
    refine lv_topi (nm_r (sq_at ht) ?_)
    refine lv_goto (tgt := 26) hx hb dDecreePool_learned_22 (by decide) ?_
    exact W.iret (v := x.1 11 a t) hx hb hr (fun t9 ht9 hW9 => ⟨⟨x.1 11 a t, (wX q cI n S P x), rfl, ⟨by unfold aLearned; rw [if_pos h3, ix_nI ha (by omega), ix_nI ht (by omega)], rfl⟩, by rw [ht9]; exact hP, va_K.moved hW9.alike hK, hD⟩, hS.F ht9⟩) hS.2.2 dDecreePool_learned_26
  · have hP : va_P D vwCl (wX q cI n S P x) H := hP
    have hD : va_D A (wX q cI n S P x) := hD
    refine lv_if_eq (tgt := 25) hx hb dDecreePool_learned_6 (by decide) (fun _ => ?_) (fun h9 => absurd (by decide) h9)
    refine lv_iconst (v := (-1)) hx hb dDecreePool_learned_25 (by decide) ?_
    exact W.iret (v := (-1)) hx hb hr (fun t9 ht9 hW9 => ⟨⟨(-1), (wX q cI n S P x), rfl, ⟨by unfold aLearned; rw [if_neg h3], rfl⟩, by rw [ht9]; exact hP, va_K.moved hW9.alike hK, hD⟩, hS.F ht9⟩) hS.2.2 dDecreePool_learned_26
theorem dDecreePool_acceptor_0 : decode cDecreePool_acceptor 0 = .ok (.aload_n 0, 1) := by decide +kernel
theorem dDecreePool_acceptor_1 : decode cDecreePool_acceptor 1 = .ok (.iload_n 1, 1) := by decide +kernel
theorem dDecreePool_acceptor_2 : decode cDecreePool_acceptor 2 = .ok (.iload_n 2, 1) := by decide +kernel
theorem dDecreePool_acceptor_3 : decode cDecreePool_acceptor 3 = .ok (.invokevirtual 61, 3) := by decide +kernel
theorem dDecreePool_acceptor_6 : decode cDecreePool_acceptor 6 = .ok (.ifCond .ne 5, 3) := by decide +kernel
theorem dDecreePool_acceptor_9 : decode cDecreePool_acceptor 9 = .ok (.iconst (-1), 1) := by decide +kernel
theorem dDecreePool_acceptor_10 : decode cDecreePool_acceptor 10 = .ok (.ireturn, 1) := by decide +kernel
theorem dDecreePool_acceptor_11 : decode cDecreePool_acceptor 11 = .ok (.aload_n 0, 1) := by decide +kernel
theorem dDecreePool_acceptor_12 : decode cDecreePool_acceptor 12 = .ok (.iload_n 1, 1) := by decide +kernel
theorem dDecreePool_acceptor_13 : decode cDecreePool_acceptor 13 = .ok (.iload_n 2, 1) := by decide +kernel
theorem dDecreePool_acceptor_14 : decode cDecreePool_acceptor 14 = .ok (.invokevirtual 69, 3) := by decide +kernel
theorem dDecreePool_acceptor_17 : decode cDecreePool_acceptor 17 = .ok (.istore 4, 2) := by decide +kernel
theorem dDecreePool_acceptor_19 : decode cDecreePool_acceptor 19 = .ok (.iload_n 3, 1) := by decide +kernel
theorem dDecreePool_acceptor_20 : decode cDecreePool_acceptor 20 = .ok (.tableswitch 58 0 2 #[28, 38, 48], 28) := by decide +kernel
theorem dDecreePool_acceptor_48 : decode cDecreePool_acceptor 48 = .ok (.aload_n 0, 1) := by decide +kernel
theorem dDecreePool_acceptor_49 : decode cDecreePool_acceptor 49 = .ok (.getfield 41, 3) := by decide +kernel
theorem dDecreePool_acceptor_52 : decode cDecreePool_acceptor 52 = .ok (.iload 4, 2) := by decide +kernel
theorem dDecreePool_acceptor_54 : decode cDecreePool_acceptor 54 = .ok (.invokevirtual 125, 3) := by decide +kernel
theorem dDecreePool_acceptor_57 : decode cDecreePool_acceptor 57 = .ok (.ireturn, 1) := by decide +kernel
theorem dDecreePool_acceptor_58 : decode cDecreePool_acceptor 58 = .ok (.aload_n 0, 1) := by decide +kernel
theorem dDecreePool_acceptor_59 : decode cDecreePool_acceptor 59 = .ok (.getfield 41, 3) := by decide +kernel
theorem dDecreePool_acceptor_62 : decode cDecreePool_acceptor 62 = .ok (.iload 4, 2) := by decide +kernel
theorem dDecreePool_acceptor_64 : decode cDecreePool_acceptor 64 = .ok (.invokevirtual 128, 3) := by decide +kernel
theorem dDecreePool_acceptor_67 : decode cDecreePool_acceptor 67 = .ok (.ireturn, 1) := by decide +kernel
theorem dDecreePool_acceptor_68 : decode cDecreePool_acceptor 68 = .ok (.aload_n 0, 1) := by decide +kernel
theorem dDecreePool_acceptor_69 : decode cDecreePool_acceptor 69 = .ok (.getfield 41, 3) := by decide +kernel
theorem dDecreePool_acceptor_72 : decode cDecreePool_acceptor 72 = .ok (.iload 4, 2) := by decide +kernel
theorem dDecreePool_acceptor_74 : decode cDecreePool_acceptor 74 = .ok (.invokevirtual 131, 3) := by decide +kernel
theorem dDecreePool_acceptor_77 : decode cDecreePool_acceptor 77 = .ok (.ireturn, 1) := by decide +kernel
theorem dDecreePool_acceptor_78 : decode cDecreePool_acceptor 78 = .ok (.iconst (-1), 1) := by decide +kernel
theorem dDecreePool_acceptor_79 : decode cDecreePool_acceptor 79 = .ok (.ireturn, 1) := by decide +kernel
set_option maxRecDepth 100000 in
set_option maxHeartbeats 4000000 in
theorem c_acceptor (l : Launch) (D : va_G) (cI cZ : ClassId) (q : Nat → Nat) (n : Nat) (S : Nat) (P : Nat) (x : St) (nd : Int32) (sl : Int32) (wt : Int32) (hn1 : 1 ≤ n) (hn5 : n ≤ 5) (hS1 : 1 ≤ S) (hS4 : S ≤ 4) (hP5 : 5 ≤ P) (hP64 : P ≤ 64) : MI l D [(cI, .int), (cZ, .boolean)] yDecreePool_acceptor wsDecreePool_acceptor ({ frames := 3, cells := 0, slots := 0, locals := 65 }) [.ref (q 0), .int nd, .int sl, .int wt] (wX q cI n S P x) (fun r w => r = aAcc n S x nd sl wt ∧ w = (wX q cI n S P x)) := by
  intro sz
  refine Met.ofW (cc := cDecreePool_acceptor) (maxL := 5) (ret := (Option.some .int)) (by decide) rfl ?_
  intro p e s m args below meth c s₁ B hml hv
  obtain ⟨rfl, hsz, hP, hK, hD0, hZ⟩ := hv
  have hx := B.exec
  have hb := B.bytes
  have hr := B.returns
  have hts := atoms_spec (ws := wsDecreePool_acceptor) B.pre
  have hown : s.vm.findClass RDecreePool = some m.cls := findClass_of_methodNamed B.named
  have hlocks := B.notSynchronized
  subst hsz
  have hD := hD0.self (sz := s.heap.size)
  generalize hAe : va_A (wX q cI n S P x) s.heap.size = A at hD ⊢
  have hA : ∀ q : Nat, s.heap.size ≤ q → A q := fun q h => by rw [← hAe]; exact Or.inr h
  have hS : va_S A s.heap s.heap [] := va_S.rf
  have hP : va_P D vwCl (wX q cI n S P x) s.heap := hP
  have hl := lv_entry ([.ref (q 0), .int nd, .int sl, .int wt]) (n := 5) (Nat.le_of_ble_eq_true rfl)
  rw [lg_entry_eq]
  generalize (lg_sl ([.ref (q 0), .int nd, .int sl, .int wt]) ++ List.replicate (5 - (lg_sl ([.ref (q 0), .int nd, .int sl, .int wt])).length) Slot.unset).toArray = ls at hl ⊢
  have hl : lv_has ls 5 [(0, .ref (q 0)), (1, .int nd), (2, .int sl), (3, .int wt)] := hl
  refine lv_aload_n hx hb dDecreePool_acceptor_0 rfl (lv_at hl 0 rfl) ?_
  refine lv_iload_n hx hb dDecreePool_acceptor_1 rfl (lv_at hl 1 rfl) ?_
  refine lv_iload_n hx hb dDecreePool_acceptor_2 rfl (lv_at hl 2 rfl) ?_
  have hPc := hP.sub (ws' := (wX q cI n S P x)) [0, 1, 2, 3, 4, 5, 6, 7, 8, 9, 10, 11, 12, 13, 14, 15] rfl
  have hDc := hD.sub (ws' := (wX q cI n S P x)) [0, 1, 2, 3, 4, 5, 6, 7, 8, 9, 10, 11, 12, 13, 14, 15] (by decide) rfl
  refine kx_i (va_runV (As := [.int nd, .int sl]) (rest := []) ⟨hx, hb, hml, hown, hts⟩ ((c_hasSeat l D cI cZ q n S P x nd sl (hn1) (hn5) (hS1) (hS4) (hP5) (hP64)) s.heap.size) (cwV 2 hts (gV wd137 wd139 sl_DecreePool_hasSeat wd1 wd140) rfl rfl rfl (by decide +kernel) ⟨Nat.le_of_ble_eq_true rfl, Nat.le_of_ble_eq_true rfl⟩) ⟨fb_PW, va_recv (q0 := 0) (ci := 0) hK hPc rfl rfl, pre_PW hK hPc hDc hZ⟩ rfl rfl hl.1 rfl (lv_room (Nat.le_of_ble_eq_true rfl)) dDecreePool_acceptor_3 ⟨Nat.zero_le _, Nat.zero_le _⟩) hP hD hS hA [0, 1, 2, 3, 4, 5, 6, 7, 8, 9, 10, 11, 12, 13, 14, 15] [] rfl rfl (by decide) (by decide) (fun r w1 H locs hw hP hD hS => ?_)
  rcases hw with ⟨rfl, h3, rfl⟩ | ⟨rfl, h3, rfl⟩
  · have hP : va_P D vwCl (wX q cI n S P x) H := hP
    have hD : va_D A (wX q cI n S P x) := hD
    obtain ⟨a, ha, rfl⟩ := okN_of (show n < 2 ^ 31 by omega) h3.1
    obtain ⟨t, ht, rfl⟩ := okN_of (show S < 2 ^ 31 by omega) h3.2
    refine lv_if_ne (tgt := 11) hx hb dDecreePool_acceptor_6 (by decide) (fun _ => ?_) (fun h9 => absurd h9 (by decide))
    refine lv_aload_n hx hb dDecreePool_acceptor_11 rfl (lv_at hl 0 rfl) ?_
    refine lv_iload_n hx hb dDecreePool_acceptor_12 rfl (lv_at hl 1 rfl) ?_
    refine lv_iload_n hx hb dDecreePool_acceptor_13 rfl (lv_at hl 2 rfl) ?_
    have hPc := hP.sub (ws' := (wX q cI n S P x)) [0, 1, 2, 3, 4, 5, 6, 7, 8, 9, 10, 11, 12, 13, 14, 15] rfl
    have hDc := hD.sub (ws' := (wX q cI n S P x)) [0, 1, 2, 3, 4, 5, 6, 7, 8, 9, 10, 11, 12, 13, 14, 15] (by decide) rfl
    refine kx_i (va_runV (As := [.int (nI a), .int (nI t)]) (rest := []) ⟨hx, hb, hml, hown, hts⟩ ((c_seatOf l D cI cZ q n S P x a t (hn1) (hn5) (hS1) (hS4) (hP5) (hP64)) H.size) (cwV 2 hts (gV wd153 wd155 sl_DecreePool_seatOf wd1 wd156) rfl rfl rfl (by decide +kernel) ⟨Nat.le_of_ble_eq_true rfl, Nat.le_of_ble_eq_true rfl⟩) ⟨fb_PW, va_recv (q0 := 0) (ci := 0) hK hPc rfl rfl, pre_PW hK hPc hDc hZ⟩ rfl rfl hl.1 rfl (lv_room (Nat.le_of_ble_eq_true rfl)) dDecreePool_acceptor_14 ⟨Nat.zero_le _, Nat.zero_le _⟩) hP hD hS hA [0, 1, 2, 3, 4, 5, 6, 7, 8, 9, 10, 11, 12, 13, 14, 15] [] rfl rfl (by decide) (by decide) (fun r w1 H locs hw hP hD hS => ?_)
    obtain ⟨rfl, rfl⟩ := hw
    have hP : va_P D vwCl (wX q cI n S P x) H := hP
    have hD : va_D A (wX q cI n S P x) := hD
    refine lv_istore hx hb dDecreePool_acceptor_17 hl (by decide) rfl (fun ls hl => ?_)
    have hl : lv_has ls 5 [(4, .int (nI (a * S + t))), (0, .ref (q 0)), (1, .int (nI a)), (2, .int (nI t)), (3, .int wt)] := hl
    refine lv_iload_n hx hb dDecreePool_acceptor_19 rfl (lv_at hl 4 rfl) ?_
    by_cases k20_0 : wt = nI 0
    · refine lv_topi (nm_r (k20_0) ?_)
      refine lv_tableIn (tgt := 48) hx hb dDecreePool_acceptor_20 (by decide) (by decide) rfl (by decide) ?_
      refine lv_aload_n hx hb dDecreePool_acceptor_48 rfl (lv_at hl 1 rfl) ?_
      refine va_get (D := D) (ci := 0) (v := .ref (q 9)) (C := RDecreePool) (T := TDecreePool) (N := 9) hx hb hts (fun w h => mc (uDecreePool_in w h)) hown hK hP 0 rfl rfl 4 (by decide) (hts _ (mc wd109)) (fun _ h9 => h9) rfl dDecreePool_acceptor_49 ?_
      refine lv_iload hx hb dDecreePool_acceptor_52 (lv_at hl 0 rfl) ?_
      have hPc := hP.sub (ws' := (wAc q cI n S (n * S) (sq S (x.1 8)) (sq S (x.1 9)) (sq S (x.1 10)))) [9, 10, 11, 12] rfl
      have hDc := hD.sub (ws' := (wAc q cI n S (n * S) (sq S (x.1 8)) (sq S (x.1 9)) (sq S (x.1 10)))) [9, 10, 11, 12] (by decide) rfl
      refine kx_i (va_runV (As := [.int (nI (a * S + t))]) (rest := []) ⟨hx, hb, hml, hown, hts⟩ ((c_ac_promisedBallot l D cI cZ q n S (n * S) (sq S (x.1 8)) (sq S (x.1 9)) (sq S (x.1 10)) (a * S + t) (L20 hn5 hS4) (seat_lt ha ht)) H.size) (cwV 1 hts (gV wd337 wd338 wd339 wd5 wd340) rfl rfl rfl (by decide +kernel) ⟨Nat.le_of_ble_eq_true rfl, Nat.le_of_ble_eq_true rfl⟩) ⟨fb_PW, va_recv (q0 := 0) (ci := 3) hK hPc rfl rfl, pre_PW hK hPc hDc hZ⟩ rfl rfl hl.1 rfl (lv_room (Nat.le_of_ble_eq_true rfl)) dDecreePool_acceptor_54 ⟨Nat.zero_le _, Nat.zero_le _⟩) hP hD hS hA [9, 10, 11, 12] [0, 1, 2, 3, 4, 5, 6, 7, 8, 13, 14, 15] rfl rfl (by decide) (by decide) (fun r w1 H locs hw hP hD hS => ?_)
      obtain ⟨rfl, rfl⟩ := hw
      have hP : va_P D vwCl (wX q cI n S P x) H := hP.sub [0, 1, 2, 3, 4, 5, 6, 7, 8, 12, 13, 14, 15, 9, 10, 11] rfl
      have hD : va_D A (wX q cI n S P x) := hD.sub [0, 1, 2, 3, 4, 5, 6, 7, 8, 12, 13, 14, 15, 9, 10, 11] (by decide) rfl
      refine lv_topi (nm_r (sq_at ht) ?_)
      exact W.iret (v := x.1 8 a t) hx hb hr (fun t9 ht9 hW9 => ⟨⟨x.1 8 a t, (wX q cI n S P x), rfl, ⟨by unfold aAcc; rw [if_pos h3, ix_nI ha (by omega), ix_nI ht (by omega), if_pos k20_0], rfl⟩, by rw [ht9]; exact hP, va_K.moved hW9.alike hK, hD⟩, hS.F ht9⟩) hS.2.2 dDecreePool_acceptor_57
    by_cases k20_1 : wt = nI 1
    · refine lv_topi (nm_r (k20_1) ?_)
      refine lv_tableIn (tgt := 58) hx hb dDecreePool_acceptor_20 (by decide) (by decide) rfl (by decide) ?_
      refine lv_aload_n hx hb dDecreePool_acceptor_58 rfl (lv_at hl 1 rfl) ?_
      refine va_get (D := D) (ci := 0) (v := .ref (q 9)) (C := RDecreePool) (T := TDecreePool) (N := 9) hx hb hts (fun w h => mc (uDecreePool_in w h)) hown hK hP 0 rfl rfl 4 (by decide) (hts _ (mc wd109)) (fun _ h9 => h9) rfl dDecreePool_acceptor_59 ?_
      refine lv_iload hx hb dDecreePool_acceptor_62 (lv_at hl 0 rfl) ?_
      have hPc := hP.sub (ws' := (wAc q cI n S (n * S) (sq S (x.1 8)) (sq S (x.1 9)) (sq S (x.1 10)))) [9, 10, 11, 12] rfl
      have hDc := hD.sub (ws' := (wAc q cI n S (n * S) (sq S (x.1 8)) (sq S (x.1 9)) (sq S (x.1 10)))) [9, 10, 11, 12] (by decide) rfl
      refine kx_i (va_runV (As := [.int (nI (a * S + t))]) (rest := []) ⟨hx, hb, hml, hown, hts⟩ ((c_ac_acceptedBallot l D cI cZ q n S (n * S) (sq S (x.1 8)) (sq S (x.1 9)) (sq S (x.1 10)) (a * S + t) (L20 hn5 hS4) (seat_lt ha ht)) H.size) (cwV 1 hts (gV wd240 wd241 wd242 wd5 wd243) rfl rfl rfl (by decide +kernel) ⟨Nat.le_of_ble_eq_true rfl, Nat.le_of_ble_eq_true rfl⟩) ⟨fb_PW, va_recv (q0 := 0) (ci := 3) hK hPc rfl rfl, pre_PW hK hPc hDc hZ⟩ rfl rfl hl.1 rfl (lv_room (Nat.le_of_ble_eq_true rfl)) dDecreePool_acceptor_64 ⟨Nat.zero_le _, Nat.zero_le _⟩) hP hD hS hA [9, 10, 11, 12] [0, 1, 2, 3, 4, 5, 6, 7, 8, 13, 14, 15] rfl rfl (by decide) (by decide) (fun r w1 H locs hw hP hD hS => ?_)
      obtain ⟨rfl, rfl⟩ := hw
      have hP : va_P D vwCl (wX q cI n S P x) H := hP.sub [0, 1, 2, 3, 4, 5, 6, 7, 8, 12, 13, 14, 15, 9, 10, 11] rfl
      have hD : va_D A (wX q cI n S P x) := hD.sub [0, 1, 2, 3, 4, 5, 6, 7, 8, 12, 13, 14, 15, 9, 10, 11] (by decide) rfl
      refine lv_topi (nm_r (sq_at ht) ?_)
      exact W.iret (v := x.1 9 a t) hx hb hr (fun t9 ht9 hW9 => ⟨⟨x.1 9 a t, (wX q cI n S P x), rfl, ⟨by unfold aAcc; rw [if_pos h3, ix_nI ha (by omega), ix_nI ht (by omega), if_neg k20_0, if_pos k20_1], rfl⟩, by rw [ht9]; exact hP, va_K.moved hW9.alike hK, hD⟩, hS.F ht9⟩) hS.2.2 dDecreePool_acceptor_67
    by_cases k20_2 : wt = nI 2
    · refine lv_topi (nm_r (k20_2) ?_)
      refine lv_tableIn (tgt := 68) hx hb dDecreePool_acceptor_20 (by decide) (by decide) rfl (by decide) ?_
      refine lv_aload_n hx hb dDecreePool_acceptor_68 rfl (lv_at hl 1 rfl) ?_
      refine va_get (D := D) (ci := 0) (v := .ref (q 9)) (C := RDecreePool) (T := TDecreePool) (N := 9) hx hb hts (fun w h => mc (uDecreePool_in w h)) hown hK hP 0 rfl rfl 4 (by decide) (hts _ (mc wd109)) (fun _ h9 => h9) rfl dDecreePool_acceptor_69 ?_
      refine lv_iload hx hb dDecreePool_acceptor_72 (lv_at hl 0 rfl) ?_
      have hPc := hP.sub (ws' := (wAc q cI n S (n * S) (sq S (x.1 8)) (sq S (x.1 9)) (sq S (x.1 10)))) [9, 10, 11, 12] rfl
      have hDc := hD.sub (ws' := (wAc q cI n S (n * S) (sq S (x.1 8)) (sq S (x.1 9)) (sq S (x.1 10)))) [9, 10, 11, 12] (by decide) rfl
      refine kx_i (va_runV (As := [.int (nI (a * S + t))]) (rest := []) ⟨hx, hb, hml, hown, hts⟩ ((c_ac_acceptedValue l D cI cZ q n S (n * S) (sq S (x.1 8)) (sq S (x.1 9)) (sq S (x.1 10)) (a * S + t) (L20 hn5 hS4) (seat_lt ha ht)) H.size) (cwV 1 hts (gV wd236 wd237 wd238 wd5 wd239) rfl rfl rfl (by decide +kernel) ⟨Nat.le_of_ble_eq_true rfl, Nat.le_of_ble_eq_true rfl⟩) ⟨fb_PW, va_recv (q0 := 0) (ci := 3) hK hPc rfl rfl, pre_PW hK hPc hDc hZ⟩ rfl rfl hl.1 rfl (lv_room (Nat.le_of_ble_eq_true rfl)) dDecreePool_acceptor_74 ⟨Nat.zero_le _, Nat.zero_le _⟩) hP hD hS hA [9, 10, 11, 12] [0, 1, 2, 3, 4, 5, 6, 7, 8, 13, 14, 15] rfl rfl (by decide) (by decide) (fun r w1 H locs hw hP hD hS => ?_)
      obtain ⟨rfl, rfl⟩ := hw
      have hP : va_P D vwCl (wX q cI n S P x) H := hP.sub [0, 1, 2, 3, 4, 5, 6, 7, 8, 12, 13, 14, 15, 9, 10, 11] rfl
      have hD : va_D A (wX q cI n S P x) := hD.sub [0, 1, 2, 3, 4, 5, 6, 7, 8, 12, 13, 14, 15, 9, 10, 11] (by decide) rfl
      refine lv_topi (nm_r (sq_at ht) ?_)
      exact W.iret (v := x.1 10 a t) hx hb hr (fun t9 ht9 hW9 => ⟨⟨x.1 10 a t, (wX q cI n S P x), rfl, ⟨by unfold aAcc; rw [if_pos h3, ix_nI ha (by omega), ix_nI ht (by omega), if_neg k20_0, if_neg k20_1, if_pos k20_2], rfl⟩, by rw [ht9]; exact hP, va_K.moved hW9.alike hK, hD⟩, hS.F ht9⟩) hS.2.2 dDecreePool_acceptor_77
    refine lv_tableOut (tgt := 78) hx hb dDecreePool_acceptor_20 (tb_out 0 2 (by intro j h1 h2; rcases (show j = 0 ∨ j = 1 ∨ j = 2 by omega) with rfl | rfl | rfl <;> assumption)) (by decide) ?_
    refine lv_iconst (v := (-1)) hx hb dDecreePool_acceptor_78 (by decide) ?_
    exact W.iret (v := (-1)) hx hb hr (fun t9 ht9 hW9 => ⟨⟨(-1), (wX q cI n S P x), rfl, ⟨by unfold aAcc; rw [if_pos h3, ix_nI ha (by omega), ix_nI ht (by omega), if_neg k20_0, if_neg k20_1, if_neg k20_2], rfl⟩, by rw [ht9]; exact hP, va_K.moved hW9.alike hK, hD⟩, hS.F ht9⟩) hS.2.2 dDecreePool_acceptor_79
  · have hP : va_P D vwCl (wX q cI n S P x) H := hP
    have hD : va_D A (wX q cI n S P x) := hD
    refine lv_if_ne (tgt := 11) hx hb dDecreePool_acceptor_6 (by decide) (fun h9 => absurd (by decide) h9) (fun _ => ?_)
    refine lv_iconst (v := (-1)) hx hb dDecreePool_acceptor_9 (by decide) ?_
    exact W.iret (v := (-1)) hx hb hr (fun t9 ht9 hW9 => ⟨⟨(-1), (wX q cI n S P x), rfl, ⟨by unfold aAcc; rw [if_neg h3], rfl⟩, by rw [ht9]; exact hP, va_K.moved hW9.alike hK, hD⟩, hS.F ht9⟩) hS.2.2 dDecreePool_acceptor_10
theorem dDecreePool_proposer_0 : decode cDecreePool_proposer 0 = .ok (.aload_n 0, 1) := by decide +kernel
theorem dDecreePool_proposer_1 : decode cDecreePool_proposer 1 = .ok (.iload_n 1, 1) := by decide +kernel
theorem dDecreePool_proposer_2 : decode cDecreePool_proposer 2 = .ok (.iload_n 2, 1) := by decide +kernel
theorem dDecreePool_proposer_3 : decode cDecreePool_proposer 3 = .ok (.invokevirtual 61, 3) := by decide +kernel
theorem dDecreePool_proposer_6 : decode cDecreePool_proposer 6 = .ok (.ifCond .ne 5, 3) := by decide +kernel
theorem dDecreePool_proposer_9 : decode cDecreePool_proposer 9 = .ok (.iconst (-1), 1) := by decide +kernel
theorem dDecreePool_proposer_10 : decode cDecreePool_proposer 10 = .ok (.ireturn, 1) := by decide +kernel
theorem dDecreePool_proposer_11 : decode cDecreePool_proposer 11 = .ok (.aload_n 0, 1) := by decide +kernel
theorem dDecreePool_proposer_12 : decode cDecreePool_proposer 12 = .ok (.iload_n 1, 1) := by decide +kernel
theorem dDecreePool_proposer_13 : decode cDecreePool_proposer 13 = .ok (.iload_n 2, 1) := by decide +kernel
theorem dDecreePool_proposer_14 : decode cDecreePool_proposer 14 = .ok (.invokevirtual 69, 3) := by decide +kernel
theorem dDecreePool_proposer_17 : decode cDecreePool_proposer 17 = .ok (.istore 4, 2) := by decide +kernel
theorem dDecreePool_proposer_19 : decode cDecreePool_proposer 19 = .ok (.iload_n 3, 1) := by decide +kernel
theorem dDecreePool_proposer_20 : decode cDecreePool_proposer 20 = .ok (.tableswitch 103 0 4 #[36, 46, 56, 66, 76], 36) := by decide +kernel
theorem dDecreePool_proposer_56 : decode cDecreePool_proposer 56 = .ok (.aload_n 0, 1) := by decide +kernel
theorem dDecreePool_proposer_57 : decode cDecreePool_proposer 57 = .ok (.getfield 34, 3) := by decide +kernel
theorem dDecreePool_proposer_60 : decode cDecreePool_proposer 60 = .ok (.iload 4, 2) := by decide +kernel
theorem dDecreePool_proposer_62 : decode cDecreePool_proposer 62 = .ok (.invokevirtual 134, 3) := by decide +kernel
theorem dDecreePool_proposer_65 : decode cDecreePool_proposer 65 = .ok (.ireturn, 1) := by decide +kernel
theorem dDecreePool_proposer_66 : decode cDecreePool_proposer 66 = .ok (.aload_n 0, 1) := by decide +kernel
theorem dDecreePool_proposer_67 : decode cDecreePool_proposer 67 = .ok (.getfield 34, 3) := by decide +kernel
theorem dDecreePool_proposer_70 : decode cDecreePool_proposer 70 = .ok (.iload 4, 2) := by decide +kernel
theorem dDecreePool_proposer_72 : decode cDecreePool_proposer 72 = .ok (.invokevirtual 73, 3) := by decide +kernel
theorem dDecreePool_proposer_75 : decode cDecreePool_proposer 75 = .ok (.ireturn, 1) := by decide +kernel
theorem dDecreePool_proposer_76 : decode cDecreePool_proposer 76 = .ok (.aload_n 0, 1) := by decide +kernel
theorem dDecreePool_proposer_77 : decode cDecreePool_proposer 77 = .ok (.getfield 34, 3) := by decide +kernel
theorem dDecreePool_proposer_80 : decode cDecreePool_proposer 80 = .ok (.iload 4, 2) := by decide +kernel
theorem dDecreePool_proposer_82 : decode cDecreePool_proposer 82 = .ok (.invokevirtual 137, 3) := by decide +kernel
theorem dDecreePool_proposer_85 : decode cDecreePool_proposer 85 = .ok (.ireturn, 1) := by decide +kernel
theorem dDecreePool_proposer_86 : decode cDecreePool_proposer 86 = .ok (.aload_n 0, 1) := by decide +kernel
theorem dDecreePool_proposer_87 : decode cDecreePool_proposer 87 = .ok (.getfield 34, 3) := by decide +kernel
theorem dDecreePool_proposer_90 : decode cDecreePool_proposer 90 = .ok (.iload 4, 2) := by decide +kernel
theorem dDecreePool_proposer_92 : decode cDecreePool_proposer 92 = .ok (.invokevirtual 140, 3) := by decide +kernel
theorem dDecreePool_proposer_95 : decode cDecreePool_proposer 95 = .ok (.ireturn, 1) := by decide +kernel
theorem dDecreePool_proposer_96 : decode cDecreePool_proposer 96 = .ok (.aload_n 0, 1) := by decide +kernel
theorem dDecreePool_proposer_97 : decode cDecreePool_proposer 97 = .ok (.getfield 34, 3) := by decide +kernel
theorem dDecreePool_proposer_100 : decode cDecreePool_proposer 100 = .ok (.iload 4, 2) := by decide +kernel
theorem dDecreePool_proposer_102 : decode cDecreePool_proposer 102 = .ok (.invokevirtual 134, 3) := by decide +kernel
theorem dDecreePool_proposer_105 : decode cDecreePool_proposer 105 = .ok (.iconst 2, 1) := by decide +kernel
theorem dDecreePool_proposer_106 : decode cDecreePool_proposer 106 = .ok (.if_icmp .ne 15, 3) := by decide +kernel
theorem dDecreePool_proposer_109 : decode cDecreePool_proposer 109 = .ok (.aload_n 0, 1) := by decide +kernel
theorem dDecreePool_proposer_110 : decode cDecreePool_proposer 110 = .ok (.getfield 34, 3) := by decide +kernel
theorem dDecreePool_proposer_113 : decode cDecreePool_proposer 113 = .ok (.iload 4, 2) := by decide +kernel
theorem dDecreePool_proposer_115 : decode cDecreePool_proposer 115 = .ok (.invokevirtual 143, 3) := by decide +kernel
theorem dDecreePool_proposer_118 : decode cDecreePool_proposer 118 = .ok (.goto 4, 3) := by decide +kernel
theorem dDecreePool_proposer_121 : decode cDecreePool_proposer 121 = .ok (.iconst 0, 1) := by decide +kernel
theorem dDecreePool_proposer_122 : decode cDecreePool_proposer 122 = .ok (.ireturn, 1) := by decide +kernel
theorem dDecreePool_proposer_123 : decode cDecreePool_proposer 123 = .ok (.iconst (-1), 1) := by decide +kernel
theorem dDecreePool_proposer_124 : decode cDecreePool_proposer 124 = .ok (.ireturn, 1) := by decide +kernel
set_option maxRecDepth 100000 in
set_option maxHeartbeats 4000000 in
theorem c_proposer (l : Launch) (D : va_G) (cI cZ : ClassId) (q : Nat → Nat) (n : Nat) (S : Nat) (P : Nat) (x : St) (nd : Int32) (sl : Int32) (wt : Int32) (hn1 : 1 ≤ n) (hn5 : n ≤ 5) (hS1 : 1 ≤ S) (hS4 : S ≤ 4) (hP5 : 5 ≤ P) (hP64 : P ≤ 64) (hI : Ibit x) : MI l D [(cI, .int), (cZ, .boolean)] yDecreePool_proposer wsDecreePool_proposer ({ frames := 3, cells := 0, slots := 0, locals := 65 }) [.ref (q 0), .int nd, .int sl, .int wt] (wX q cI n S P x) (fun r w => r = aProp n S x nd sl wt ∧ w = (wX q cI n S P x)) := by
  intro sz
  refine Met.ofW (cc := cDecreePool_proposer) (maxL := 5) (ret := (Option.some .int)) (by decide) rfl ?_
  intro p e s m args below meth c s₁ B hml hv
  obtain ⟨rfl, hsz, hP, hK, hD0, hZ⟩ := hv
  have hx := B.exec
  have hb := B.bytes
  have hr := B.returns
  have hts := atoms_spec (ws := wsDecreePool_proposer) B.pre
  have hown : s.vm.findClass RDecreePool = some m.cls := findClass_of_methodNamed B.named
  have hlocks := B.notSynchronized
  subst hsz
  have hD := hD0.self (sz := s.heap.size)
  generalize hAe : va_A (wX q cI n S P x) s.heap.size = A at hD ⊢
  have hA : ∀ q : Nat, s.heap.size ≤ q → A q := fun q h => by rw [← hAe]; exact Or.inr h
  have hS : va_S A s.heap s.heap [] := va_S.rf
  have hP : va_P D vwCl (wX q cI n S P x) s.heap := hP
  have hl := lv_entry ([.ref (q 0), .int nd, .int sl, .int wt]) (n := 5) (Nat.le_of_ble_eq_true rfl)
  rw [lg_entry_eq]
  generalize (lg_sl ([.ref (q 0), .int nd, .int sl, .int wt]) ++ List.replicate (5 - (lg_sl ([.ref (q 0), .int nd, .int sl, .int wt])).length) Slot.unset).toArray = ls at hl ⊢
  have hl : lv_has ls 5 [(0, .ref (q 0)), (1, .int nd), (2, .int sl), (3, .int wt)] := hl
  refine lv_aload_n hx hb dDecreePool_proposer_0 rfl (lv_at hl 0 rfl) ?_
  refine lv_iload_n hx hb dDecreePool_proposer_1 rfl (lv_at hl 1 rfl) ?_
  refine lv_iload_n hx hb dDecreePool_proposer_2 rfl (lv_at hl 2 rfl) ?_
  have hPc := hP.sub (ws' := (wX q cI n S P x)) [0, 1, 2, 3, 4, 5, 6, 7, 8, 9, 10, 11, 12, 13, 14, 15] rfl
  have hDc := hD.sub (ws' := (wX q cI n S P x)) [0, 1, 2, 3, 4, 5, 6, 7, 8, 9, 10, 11, 12, 13, 14, 15] (by decide) rfl
  refine kx_i (va_runV (As := [.int nd, .int sl]) (rest := []) ⟨hx, hb, hml, hown, hts⟩ ((c_hasSeat l D cI cZ q n S P x nd sl (hn1) (hn5) (hS1) (hS4) (hP5) (hP64)) s.heap.size) (cwV 2 hts (gV wd137 wd139 sl_DecreePool_hasSeat wd1 wd140) rfl rfl rfl (by decide +kernel) ⟨Nat.le_of_ble_eq_true rfl, Nat.le_of_ble_eq_true rfl⟩) ⟨fb_PW, va_recv (q0 := 0) (ci := 0) hK hPc rfl rfl, pre_PW hK hPc hDc hZ⟩ rfl rfl hl.1 rfl (lv_room (Nat.le_of_ble_eq_true rfl)) dDecreePool_proposer_3 ⟨Nat.zero_le _, Nat.zero_le _⟩) hP hD hS hA [0, 1, 2, 3, 4, 5, 6, 7, 8, 9, 10, 11, 12, 13, 14, 15] [] rfl rfl (by decide) (by decide) (fun r w1 H locs hw hP hD hS => ?_)
  rcases hw with ⟨rfl, h3, rfl⟩ | ⟨rfl, h3, rfl⟩
  · have hP : va_P D vwCl (wX q cI n S P x) H := hP
    have hD : va_D A (wX q cI n S P x) := hD
    obtain ⟨a, ha, rfl⟩ := okN_of (show n < 2 ^ 31 by omega) h3.1
    obtain ⟨t, ht, rfl⟩ := okN_of (show S < 2 ^ 31 by omega) h3.2
    obtain ⟨e1, he1, he2⟩ := hI.1 a t
    refine lv_if_ne (tgt := 11) hx hb dDecreePool_proposer_6 (by decide) (fun _ => ?_) (fun h9 => absurd h9 (by decide))
    refine lv_aload_n hx hb dDecreePool_proposer_11 rfl (lv_at hl 0 rfl) ?_
    refine lv_iload_n hx hb dDecreePool_proposer_12 rfl (lv_at hl 1 rfl) ?_
    refine lv_iload_n hx hb dDecreePool_proposer_13 rfl (lv_at hl 2 rfl) ?_
    have hPc := hP.sub (ws' := (wX q cI n S P x)) [0, 1, 2, 3, 4, 5, 6, 7, 8, 9, 10, 11, 12, 13, 14, 15] rfl
    have hDc := hD.sub (ws' := (wX q cI n S P x)) [0, 1, 2, 3, 4, 5, 6, 7, 8, 9, 10, 11, 12, 13, 14, 15] (by decide) rfl
    refine kx_i (va_runV (As := [.int (nI a), .int (nI t)]) (rest := []) ⟨hx, hb, hml, hown, hts⟩ ((c_seatOf l D cI cZ q n S P x a t (hn1) (hn5) (hS1) (hS4) (hP5) (hP64)) H.size) (cwV 2 hts (gV wd153 wd155 sl_DecreePool_seatOf wd1 wd156) rfl rfl rfl (by decide +kernel) ⟨Nat.le_of_ble_eq_true rfl, Nat.le_of_ble_eq_true rfl⟩) ⟨fb_PW, va_recv (q0 := 0) (ci := 0) hK hPc rfl rfl, pre_PW hK hPc hDc hZ⟩ rfl rfl hl.1 rfl (lv_room (Nat.le_of_ble_eq_true rfl)) dDecreePool_proposer_14 ⟨Nat.zero_le _, Nat.zero_le _⟩) hP hD hS hA [0, 1, 2, 3, 4, 5, 6, 7, 8, 9, 10, 11, 12, 13, 14, 15] [] rfl rfl (by decide) (by decide) (fun r w1 H locs hw hP hD hS => ?_)
    obtain ⟨rfl, rfl⟩ := hw
    have hP : va_P D vwCl (wX q cI n S P x) H := hP
    have hD : va_D A (wX q cI n S P x) := hD
    refine lv_istore hx hb dDecreePool_proposer_17 hl (by decide) rfl (fun ls hl => ?_)
    have hl : lv_has ls 5 [(4, .int (nI (a * S + t))), (0, .ref (q 0)), (1, .int (nI a)), (2, .int (nI t)), (3, .int wt)] := hl
    refine lv_iload_n hx hb dDecreePool_proposer_19 rfl (lv_at hl 4 rfl) ?_
    by_cases k20_0 : wt = nI 0
    · refine lv_topi (nm_r (k20_0) ?_)
      refine lv_tableIn (tgt := 56) hx hb dDecreePool_proposer_20 (by decide) (by decide) rfl (by decide) ?_
      refine lv_aload_n hx hb dDecreePool_proposer_56 rfl (lv_at hl 1 rfl) ?_
      refine va_get (D := D) (ci := 0) (v := .ref (q 3)) (C := RDecreePool) (T := TDecreePool) (N := 9) hx hb hts (fun w h => mc (uDecreePool_in w h)) hown hK hP 0 rfl rfl 3 (by decide) (hts _ (mc wd108)) (fun _ h9 => h9) rfl dDecreePool_proposer_57 ?_
      refine lv_iload hx hb dDecreePool_proposer_60 (lv_at hl 0 rfl) ?_
      have hPc := hP.sub (ws' := (wPr q cI n (n * S) (sq S (x.1 1)) (sq S (x.1 2)) (sq S (x.1 3)) (sq S (x.1 4)) (sq S (x.1 5)))) [3, 4, 5, 6, 7, 8] rfl
      have hDc := hD.sub (ws' := (wPr q cI n (n * S) (sq S (x.1 1)) (sq S (x.1 2)) (sq S (x.1 3)) (sq S (x.1 4)) (sq S (x.1 5)))) [3, 4, 5, 6, 7, 8] (by decide) rfl
      refine kx_i (va_runV (As := [.int (nI (a * S + t))]) (rest := []) ⟨hx, hb, hml, hown, hts⟩ ((c_pr_phase l D cI cZ q n (n * S) (sq S (x.1 1)) (sq S (x.1 2)) (sq S (x.1 3)) (sq S (x.1 4)) (sq S (x.1 5)) (a * S + t) (L20 hn5 hS4) (seat_lt ha ht)) H.size) (cwV 1 hts (gV wd345 wd346 wd347 wd3 wd348) rfl rfl rfl (by decide +kernel) ⟨Nat.le_of_ble_eq_true rfl, Nat.le_of_ble_eq_true rfl⟩) ⟨fb_PW, va_recv (q0 := 0) (ci := 2) hK hPc rfl rfl, pre_PW hK hPc hDc hZ⟩ rfl rfl hl.1 rfl (lv_room (Nat.le_of_ble_eq_true rfl)) dDecreePool_proposer_62 ⟨Nat.zero_le _, Nat.zero_le _⟩) hP hD hS hA [3, 4, 5, 6, 7, 8] [0, 1, 2, 9, 10, 11, 12, 13, 14, 15] rfl rfl (by decide) (by decide) (fun r w1 H locs hw hP hD hS => ?_)
      obtain ⟨rfl, rfl⟩ := hw
      have hP : va_P D vwCl (wX q cI n S P x) H := hP.sub [0, 1, 2, 10, 11, 12, 13, 14, 15, 3, 4, 5, 6, 7, 8, 9] rfl
      have hD : va_D A (wX q cI n S P x) := hD.sub [0, 1, 2, 10, 11, 12, 13, 14, 15, 3, 4, 5, 6, 7, 8, 9] (by decide) rfl
      refine lv_topi (nm_r (sq_at ht) ?_)
      exact W.iret (v := x.1 1 a t) hx hb hr (fun t9 ht9 hW9 => ⟨⟨x.1 1 a t, (wX q cI n S P x), rfl, ⟨by unfold aProp; rw [if_pos h3, ix_nI ha (by omega), ix_nI ht (by omega), if_pos k20_0], rfl⟩, by rw [ht9]; exact hP, va_K.moved hW9.alike hK, hD⟩, hS.F ht9⟩) hS.2.2 dDecreePool_proposer_65
    by_cases k20_1 : wt = nI 1
    · refine lv_topi (nm_r (k20_1) ?_)
      refine lv_tableIn (tgt := 66) hx hb dDecreePool_proposer_20 (by decide) (by decide) rfl (by decide) ?_
      refine lv_aload_n hx hb dDecreePool_proposer_66 rfl (lv_at hl 1 rfl) ?_
      refine va_get (D := D) (ci := 0) (v := .ref (q 3)) (C := RDecreePool) (T := TDecreePool) (N := 9) hx hb hts (fun w h => mc (uDecreePool_in w h)) hown hK hP 0 rfl rfl 3 (by decide) (hts _ (mc wd108)) (fun _ h9 => h9) rfl dDecreePool_proposer_67 ?_
      refine lv_iload hx hb dDecreePool_proposer_70 (lv_at hl 0 rfl) ?_
      have hPc := hP.sub (ws' := (wPr q cI n (n * S) (sq S (x.1 1)) (sq S (x.1 2)) (sq S (x.1 3)) (sq S (x.1 4)) (sq S (x.1 5)))) [3, 4, 5, 6, 7, 8] rfl
      have hDc := hD.sub (ws' := (wPr q cI n (n * S) (sq S (x.1 1)) (sq S (x.1 2)) (sq S (x.1 3)) (sq S (x.1 4)) (sq S (x.1 5)))) [3, 4, 5, 6, 7, 8] (by decide) rfl
      refine kx_i (va_runV (As := [.int (nI (a * S + t))]) (rest := []) ⟨hx, hb, hml, hown, hts⟩ ((c_pr_lastBallot l D cI cZ q n (n * S) (sq S (x.1 1)) (sq S (x.1 2)) (sq S (x.1 3)) (sq S (x.1 4)) (sq S (x.1 5)) (a * S + t) (L20 hn5 hS4) (seat_lt ha ht)) H.size) (cwV 1 hts (gV wd157 wd158 wd159 wd3 wd160) rfl rfl rfl (by decide +kernel) ⟨Nat.le_of_ble_eq_true rfl, Nat.le_of_ble_eq_true rfl⟩) ⟨fb_PW, va_recv (q0 := 0) (ci := 2) hK hPc rfl rfl, pre_PW hK hPc hDc hZ⟩ rfl rfl hl.1 rfl (lv_room (Nat.le_of_ble_eq_true rfl)) dDecreePool_proposer_72 ⟨Nat.zero_le _, Nat.zero_le _⟩) hP hD hS hA [3, 4, 5, 6, 7, 8] [0, 1, 2, 9, 10, 11, 12, 13, 14, 15] rfl rfl (by decide) (by decide) (fun r w1 H locs hw hP hD hS => ?_)
      obtain ⟨rfl, rfl⟩ := hw
      have hP : va_P D vwCl (wX q cI n S P x) H := hP.sub [0, 1, 2, 10, 11, 12, 13, 14, 15, 3, 4, 5, 6, 7, 8, 9] rfl
      have hD : va_D A (wX q cI n S P x) := hD.sub [0, 1, 2, 10, 11, 12, 13, 14, 15, 3, 4, 5, 6, 7, 8, 9] (by decide) rfl
      refine lv_topi (nm_r (sq_at ht) ?_)
      exact W.iret (v := x.1 2 a t) hx hb hr (fun t9 ht9 hW9 => ⟨⟨x.1 2 a t, (wX q cI n S P x), rfl, ⟨by unfold aProp; rw [if_pos h3, ix_nI ha (by omega), ix_nI ht (by omega), if_neg k20_0, if_pos k20_1], rfl⟩, by rw [ht9]; exact hP, va_K.moved hW9.alike hK, hD⟩, hS.F ht9⟩) hS.2.2 dDecreePool_proposer_75
    by_cases k20_2 : wt = nI 2
    · refine lv_topi (nm_r (k20_2) ?_)
      refine lv_tableIn (tgt := 76) hx hb dDecreePool_proposer_20 (by decide) (by decide) rfl (by decide) ?_
      refine lv_aload_n hx hb dDecreePool_proposer_76 rfl (lv_at hl 1 rfl) ?_
      refine va_get (D := D) (ci := 0) (v := .ref (q 3)) (C := RDecreePool) (T := TDecreePool) (N := 9) hx hb hts (fun w h => mc (uDecreePool_in w h)) hown hK hP 0 rfl rfl 3 (by decide) (hts _ (mc wd108)) (fun _ h9 => h9) rfl dDecreePool_proposer_77 ?_
      refine lv_iload hx hb dDecreePool_proposer_80 (lv_at hl 0 rfl) ?_
      have hPc := hP.sub (ws' := (wPr q cI n (n * S) (sq S (x.1 1)) (sq S (x.1 2)) (sq S (x.1 3)) (sq S (x.1 4)) (sq S (x.1 5)))) [3, 4, 5, 6, 7, 8] rfl
      have hDc := hD.sub (ws' := (wPr q cI n (n * S) (sq S (x.1 1)) (sq S (x.1 2)) (sq S (x.1 3)) (sq S (x.1 4)) (sq S (x.1 5)))) [3, 4, 5, 6, 7, 8] (by decide) rfl
      refine kx_i (va_runV (As := [.int (nI (a * S + t))]) (rest := []) ⟨hx, hb, hml, hown, hts⟩ ((c_promises l D cI cZ q n (n * S) (sq S (x.1 1)) (sq S (x.1 2)) (sq S (x.1 3)) (sq S (x.1 4)) (sq S (x.1 5)) (a * S + t) e1 (L20 hn5 hS4) (seat_lt ha ht) (by rw [sq_at ht]; exact he2) (he1)) H.size) (cwV 1 hts (gV wd349 wd249 wd250 wd3 wd251) rfl rfl rfl (by decide +kernel) ⟨Nat.le_of_ble_eq_true rfl, Nat.le_of_ble_eq_true rfl⟩) ⟨fb_PW, va_recv (q0 := 0) (ci := 2) hK hPc rfl rfl, pre_PW hK hPc hDc hZ⟩ rfl rfl hl.1 rfl (lv_room (Nat.le_of_ble_eq_true rfl)) dDecreePool_proposer_82 ⟨Nat.zero_le _, Nat.zero_le _⟩) hP hD hS hA [3, 4, 5, 6, 7, 8] [0, 1, 2, 9, 10, 11, 12, 13, 14, 15] rfl rfl (by decide) (by decide) (fun r w1 H locs hw hP hD hS => ?_)
      obtain ⟨rfl, rfl⟩ := hw
      have hP : va_P D vwCl (wX q cI n S P x) H := hP.sub [0, 1, 2, 10, 11, 12, 13, 14, 15, 3, 4, 5, 6, 7, 8, 9] rfl
      have hD : va_D A (wX q cI n S P x) := hD.sub [0, 1, 2, 10, 11, 12, 13, 14, 15, 3, 4, 5, 6, 7, 8, 9] (by decide) rfl
      exact W.iret (v := nI (popn e1)) hx hb hr (fun t9 ht9 hW9 => ⟨⟨nI (popn e1), (wX q cI n S P x), rfl, ⟨by unfold aProp; rw [if_pos h3, ix_nI ha (by omega), ix_nI ht (by omega), if_neg k20_0, if_neg k20_1, if_pos k20_2, he2, ix_nI he1 (by omega)], rfl⟩, by rw [ht9]; exact hP, va_K.moved hW9.alike hK, hD⟩, hS.F ht9⟩) hS.2.2 dDecreePool_proposer_85
    by_cases k20_3 : wt = nI 3
    · refine lv_topi (nm_r (k20_3) ?_)
      refine lv_tableIn (tgt := 86) hx hb dDecreePool_proposer_20 (by decide) (by decide) rfl (by decide) ?_
      refine lv_aload_n hx hb dDecreePool_proposer_86 rfl (lv_at hl 1 rfl) ?_
      refine va_get (D := D) (ci := 0) (v := .ref (q 3)) (C := RDecreePool) (T := TDecreePool) (N := 9) hx hb hts (fun w h => mc (uDecreePool_in w h)) hown hK hP 0 rfl rfl 3 (by decide) (hts _ (mc wd108)) (fun _ h9 => h9) rfl dDecreePool_proposer_87 ?_
      refine lv_iload hx hb dDecreePool_proposer_90 (lv_at hl 0 rfl) ?_
      have hPc := hP.sub (ws' := (wPr q cI n (n * S) (sq S (x.1 1)) (sq S (x.1 2)) (sq S (x.1 3)) (sq S (x.1 4)) (sq S (x.1 5)))) [3, 4, 5, 6, 7, 8] rfl
      have hDc := hD.sub (ws' := (wPr q cI n (n * S) (sq S (x.1 1)) (sq S (x.1 2)) (sq S (x.1 3)) (sq S (x.1 4)) (sq S (x.1 5)))) [3, 4, 5, 6, 7, 8] (by decide) rfl
      refine kx_i (va_runV (As := [.int (nI (a * S + t))]) (rest := []) ⟨hx, hb, hml, hown, hts⟩ ((c_pr_bestBallot l D cI cZ q n (n * S) (sq S (x.1 1)) (sq S (x.1 2)) (sq S (x.1 3)) (sq S (x.1 4)) (sq S (x.1 5)) (a * S + t) (L20 hn5 hS4) (seat_lt ha ht)) H.size) (cwV 1 hts (gV wd350 wd351 wd352 wd3 wd353) rfl rfl rfl (by decide +kernel) ⟨Nat.le_of_ble_eq_true rfl, Nat.le_of_ble_eq_true rfl⟩) ⟨fb_PW, va_recv (q0 := 0) (ci := 2) hK hPc rfl rfl, pre_PW hK hPc hDc hZ⟩ rfl rfl hl.1 rfl (lv_room (Nat.le_of_ble_eq_true rfl)) dDecreePool_proposer_92 ⟨Nat.zero_le _, Nat.zero_le _⟩) hP hD hS hA [3, 4, 5, 6, 7, 8] [0, 1, 2, 9, 10, 11, 12, 13, 14, 15] rfl rfl (by decide) (by decide) (fun r w1 H locs hw hP hD hS => ?_)
      obtain ⟨rfl, rfl⟩ := hw
      have hP : va_P D vwCl (wX q cI n S P x) H := hP.sub [0, 1, 2, 10, 11, 12, 13, 14, 15, 3, 4, 5, 6, 7, 8, 9] rfl
      have hD : va_D A (wX q cI n S P x) := hD.sub [0, 1, 2, 10, 11, 12, 13, 14, 15, 3, 4, 5, 6, 7, 8, 9] (by decide) rfl
      refine lv_topi (nm_r (sq_at ht) ?_)
      exact W.iret (v := x.1 4 a t) hx hb hr (fun t9 ht9 hW9 => ⟨⟨x.1 4 a t, (wX q cI n S P x), rfl, ⟨by unfold aProp; rw [if_pos h3, ix_nI ha (by omega), ix_nI ht (by omega), if_neg k20_0, if_neg k20_1, if_neg k20_2, if_pos k20_3], rfl⟩, by rw [ht9]; exact hP, va_K.moved hW9.alike hK, hD⟩, hS.F ht9⟩) hS.2.2 dDecreePool_proposer_95
    by_cases k20_4 : wt = nI 4
    · refine lv_topi (nm_r (k20_4) ?_)
      refine lv_tableIn (tgt := 96) hx hb dDecreePool_proposer_20 (by decide) (by decide) rfl (by decide) ?_
      refine lv_aload_n hx hb dDecreePool_proposer_96 rfl (lv_at hl 1 rfl) ?_
      refine va_get (D := D) (ci := 0) (v := .ref (q 3)) (C := RDecreePool) (T := TDecreePool) (N := 9) hx hb hts (fun w h => mc (uDecreePool_in w h)) hown hK hP 0 rfl rfl 3 (by decide) (hts _ (mc wd108)) (fun _ h9 => h9) rfl dDecreePool_proposer_97 ?_
      refine lv_iload hx hb dDecreePool_proposer_100 (lv_at hl 0 rfl) ?_
      have hPc := hP.sub (ws' := (wPr q cI n (n * S) (sq S (x.1 1)) (sq S (x.1 2)) (sq S (x.1 3)) (sq S (x.1 4)) (sq S (x.1 5)))) [3, 4, 5, 6, 7, 8] rfl
      have hDc := hD.sub (ws' := (wPr q cI n (n * S) (sq S (x.1 1)) (sq S (x.1 2)) (sq S (x.1 3)) (sq S (x.1 4)) (sq S (x.1 5)))) [3, 4, 5, 6, 7, 8] (by decide) rfl
      refine kx_i (va_runV (As := [.int (nI (a * S + t))]) (rest := []) ⟨hx, hb, hml, hown, hts⟩ ((c_pr_phase l D cI cZ q n (n * S) (sq S (x.1 1)) (sq S (x.1 2)) (sq S (x.1 3)) (sq S (x.1 4)) (sq S (x.1 5)) (a * S + t) (L20 hn5 hS4) (seat_lt ha ht)) H.size) (cwV 1 hts (gV wd345 wd346 wd347 wd3 wd348) rfl rfl rfl (by decide +kernel) ⟨Nat.le_of_ble_eq_true rfl, Nat.le_of_ble_eq_true rfl⟩) ⟨fb_PW, va_recv (q0 := 0) (ci := 2) hK hPc rfl rfl, pre_PW hK hPc hDc hZ⟩ rfl rfl hl.1 rfl (lv_room (Nat.le_of_ble_eq_true rfl)) dDecreePool_proposer_102 ⟨Nat.zero_le _, Nat.zero_le _⟩) hP hD hS hA [3, 4, 5, 6, 7, 8] [0, 1, 2, 9, 10, 11, 12, 13, 14, 15] rfl rfl (by decide) (by decide) (fun r w1 H locs hw hP hD hS => ?_)
      obtain ⟨rfl, rfl⟩ := hw
      have hP : va_P D vwCl (wX q cI n S P x) H := hP.sub [0, 1, 2, 10, 11, 12, 13, 14, 15, 3, 4, 5, 6, 7, 8, 9] rfl
      have hD : va_D A (wX q cI n S P x) := hD.sub [0, 1, 2, 10, 11, 12, 13, 14, 15, 3, 4, 5, 6, 7, 8, 9] (by decide) rfl
      refine lv_topi (nm_r (sq_at ht) ?_)
      refine lv_iconst (v := nI 2) hx hb dDecreePool_proposer_105 (by decide) ?_
      refine lv_icmp_ne (tgt := 121) hx hb dDecreePool_proposer_106 (by decide) (fun c106 => ?_) (fun c106 => ?_)
      · refine lv_iconst (v := nI 0) hx hb dDecreePool_proposer_121 (by decide) ?_
        exact W.iret (v := nI 0) hx hb hr (fun t9 ht9 hW9 => ⟨⟨nI 0, (wX q cI n S P x), rfl, ⟨by unfold aProp; rw [if_pos h3, ix_nI ha (by omega), ix_nI ht (by omega), if_neg k20_0, if_neg k20_1, if_neg k20_2, if_neg k20_3, if_pos k20_4, if_neg c106], rfl⟩, by rw [ht9]; exact hP, va_K.moved hW9.alike hK, hD⟩, hS.F ht9⟩) hS.2.2 dDecreePool_proposer_122
      · refine lv_aload_n hx hb dDecreePool_proposer_109 rfl (lv_at hl 1 rfl) ?_
        refine va_get (D := D) (ci := 0) (v := .ref (q 3)) (C := RDecreePool) (T := TDecreePool) (N := 9) hx hb hts (fun w h => mc (uDecreePool_in w h)) hown hK hP 0 rfl rfl 3 (by decide) (hts _ (mc wd108)) (fun _ h9 => h9) rfl dDecreePool_proposer_110 ?_
        refine lv_iload hx hb dDecreePool_proposer_113 (lv_at hl 0 rfl) ?_
        have hPc := hP.sub (ws' := (wPr q cI n (n * S) (sq S (x.1 1)) (sq S (x.1 2)) (sq S (x.1 3)) (sq S (x.1 4)) (sq S (x.1 5)))) [3, 4, 5, 6, 7, 8] rfl
        have hDc := hD.sub (ws' := (wPr q cI n (n * S) (sq S (x.1 1)) (sq S (x.1 2)) (sq S (x.1 3)) (sq S (x.1 4)) (sq S (x.1 5)))) [3, 4, 5, 6, 7, 8] (by decide) rfl
        refine kx_i (va_runV (As := [.int (nI (a * S + t))]) (rest := []) ⟨hx, hb, hml, hown, hts⟩ ((c_pr_value l D cI cZ q n (n * S) (sq S (x.1 1)) (sq S (x.1 2)) (sq S (x.1 3)) (sq S (x.1 4)) (sq S (x.1 5)) (a * S + t) (L20 hn5 hS4) (seat_lt ha ht)) H.size) (cwV 1 hts (gV wd252 wd253 wd254 wd3 wd255) rfl rfl rfl (by decide +kernel) ⟨Nat.le_of_ble_eq_true rfl, Nat.le_of_ble_eq_true rfl⟩) ⟨fb_PW, va_recv (q0 := 0) (ci := 2) hK hPc rfl rfl, pre_PW hK hPc hDc hZ⟩ rfl rfl hl.1 rfl (lv_room (Nat.le_of_ble_eq_true rfl)) dDecreePool_proposer_115 ⟨Nat.zero_le _, Nat.zero_le _⟩) hP hD hS hA [3, 4, 5, 6, 7, 8] [0, 1, 2, 9, 10, 11, 12, 13, 14, 15] rfl rfl (by decide) (by decide) (fun r w1 H locs hw hP hD hS => ?_)
        obtain ⟨rfl, rfl⟩ := hw
        have hP : va_P D vwCl (wX q cI n S P x) H := hP.sub [0, 1, 2, 10, 11, 12, 13, 14, 15, 3, 4, 5, 6, 7, 8, 9] rfl
        have hD : va_D A (wX q cI n S P x) := hD.sub [0, 1, 2, 10, 11, 12, 13, 14, 15, 3, 4, 5, 6, 7, 8, 9] (by decide) rfl
        refine lv_topi (nm_r (sq_at ht) ?_)
        refine lv_goto (tgt := 122) hx hb dDecreePool_proposer_118 (by decide) ?_
        exact W.iret (v := x.1 5 a t) hx hb hr (fun t9 ht9 hW9 => ⟨⟨x.1 5 a t, (wX q cI n S P x), rfl, ⟨by unfold aProp; rw [if_pos h3, ix_nI ha (by omega), ix_nI ht (by omega), if_neg k20_0, if_neg k20_1, if_neg k20_2, if_neg k20_3, if_pos k20_4, if_pos c106], rfl⟩, by rw [ht9]; exact hP, va_K.moved hW9.alike hK, hD⟩, hS.F ht9⟩) hS.2.2 dDecreePool_proposer_122
    refine lv_tableOut (tgt := 123) hx hb dDecreePool_proposer_20 (tb_out 0 4 (by intro j h1 h2; rcases (show j = 0 ∨ j = 1 ∨ j = 2 ∨ j = 3 ∨ j = 4 by omega) with rfl | rfl | rfl | rfl | rfl <;> assumption)) (by decide) ?_
    refine lv_iconst (v := (-1)) hx hb dDecreePool_proposer_123 (by decide) ?_
    exact W.iret (v := (-1)) hx hb hr (fun t9 ht9 hW9 => ⟨⟨(-1), (wX q cI n S P x), rfl, ⟨by unfold aProp; rw [if_pos h3, ix_nI ha (by omega), ix_nI ht (by omega), if_neg k20_0, if_neg k20_1, if_neg k20_2, if_neg k20_3, if_neg k20_4], rfl⟩, by rw [ht9]; exact hP, va_K.moved hW9.alike hK, hD⟩, hS.F ht9⟩) hS.2.2 dDecreePool_proposer_124
  · have hP : va_P D vwCl (wX q cI n S P x) H := hP
    have hD : va_D A (wX q cI n S P x) := hD
    refine lv_if_ne (tgt := 11) hx hb dDecreePool_proposer_6 (by decide) (fun h9 => absurd (by decide) h9) (fun _ => ?_)
    refine lv_iconst (v := (-1)) hx hb dDecreePool_proposer_9 (by decide) ?_
    exact W.iret (v := (-1)) hx hb hr (fun t9 ht9 hW9 => ⟨⟨(-1), (wX q cI n S P x), rfl, ⟨by unfold aProp; rw [if_neg h3], rfl⟩, by rw [ht9]; exact hP, va_K.moved hW9.alike hK, hD⟩, hS.F ht9⟩) hS.2.2 dDecreePool_proposer_10
theorem dDecreePool_heard_0 : decode cDecreePool_heard 0 = .ok (.aload_n 0, 1) := by decide +kernel
theorem dDecreePool_heard_1 : decode cDecreePool_heard 1 = .ok (.iload_n 1, 1) := by decide +kernel
theorem dDecreePool_heard_2 : decode cDecreePool_heard 2 = .ok (.iload_n 2, 1) := by decide +kernel
theorem dDecreePool_heard_3 : decode cDecreePool_heard 3 = .ok (.invokevirtual 61, 3) := by decide +kernel
theorem dDecreePool_heard_6 : decode cDecreePool_heard 6 = .ok (.ifCond .eq 11, 3) := by decide +kernel
theorem dDecreePool_heard_9 : decode cDecreePool_heard 9 = .ok (.aload_n 0, 1) := by decide +kernel
theorem dDecreePool_heard_10 : decode cDecreePool_heard 10 = .ok (.iload_n 3, 1) := by decide +kernel
theorem dDecreePool_heard_11 : decode cDecreePool_heard 11 = .ok (.invokevirtual 110, 3) := by decide +kernel
theorem dDecreePool_heard_14 : decode cDecreePool_heard 14 = .ok (.ifCond .ne 5, 3) := by decide +kernel
theorem dDecreePool_heard_17 : decode cDecreePool_heard 17 = .ok (.iconst (-1), 1) := by decide +kernel
theorem dDecreePool_heard_18 : decode cDecreePool_heard 18 = .ok (.ireturn, 1) := by decide +kernel
theorem dDecreePool_heard_19 : decode cDecreePool_heard 19 = .ok (.aload_n 0, 1) := by decide +kernel
theorem dDecreePool_heard_20 : decode cDecreePool_heard 20 = .ok (.getfield 48, 3) := by decide +kernel
theorem dDecreePool_heard_23 : decode cDecreePool_heard 23 = .ok (.aload_n 0, 1) := by decide +kernel
theorem dDecreePool_heard_24 : decode cDecreePool_heard 24 = .ok (.iload_n 1, 1) := by decide +kernel
theorem dDecreePool_heard_25 : decode cDecreePool_heard 25 = .ok (.iload_n 2, 1) := by decide +kernel
theorem dDecreePool_heard_26 : decode cDecreePool_heard 26 = .ok (.invokevirtual 69, 3) := by decide +kernel
theorem dDecreePool_heard_29 : decode cDecreePool_heard 29 = .ok (.iload_n 3, 1) := by decide +kernel
theorem dDecreePool_heard_30 : decode cDecreePool_heard 30 = .ok (.invokevirtual 146, 3) := by decide +kernel
theorem dDecreePool_heard_33 : decode cDecreePool_heard 33 = .ok (.ireturn, 1) := by decide +kernel
set_option maxRecDepth 100000 in
set_option maxHeartbeats 4000000 in
theorem c_heard (l : Launch) (D : va_G) (cI cZ : ClassId) (q : Nat → Nat) (n : Nat) (S : Nat) (P : Nat) (x : St) (nd : Int32) (sl : Int32) (wt : Int32) (hn1 : 1 ≤ n) (hn5 : n ≤ 5) (hS1 : 1 ≤ S) (hS4 : S ≤ 4) (hP5 : 5 ≤ P) (hP64 : P ≤ 64) : MI l D [(cI, .int), (cZ, .boolean)] yDecreePool_heard wsDecreePool_heard ({ frames := 3, cells := 0, slots := 0, locals := 65 }) [.ref (q 0), .int nd, .int sl, .int wt] (wX q cI n S P x) (fun r w => r = aHeard n S x nd sl wt ∧ w = (wX q cI n S P x)) := by
  intro sz
  refine Met.ofW (cc := cDecreePool_heard) (maxL := 4) (ret := (Option.some .int)) (by decide) rfl ?_
  intro p e s m args below meth c s₁ B hml hv
  obtain ⟨rfl, hsz, hP, hK, hD0, hZ⟩ := hv
  have hx := B.exec
  have hb := B.bytes
  have hr := B.returns
  have hts := atoms_spec (ws := wsDecreePool_heard) B.pre
  have hown : s.vm.findClass RDecreePool = some m.cls := findClass_of_methodNamed B.named
  have hlocks := B.notSynchronized
  subst hsz
  have hD := hD0.self (sz := s.heap.size)
  generalize hAe : va_A (wX q cI n S P x) s.heap.size = A at hD ⊢
  have hA : ∀ q : Nat, s.heap.size ≤ q → A q := fun q h => by rw [← hAe]; exact Or.inr h
  have hS : va_S A s.heap s.heap [] := va_S.rf
  have hP : va_P D vwCl (wX q cI n S P x) s.heap := hP
  have hl := lv_entry ([.ref (q 0), .int nd, .int sl, .int wt]) (n := 4) (Nat.le_of_ble_eq_true rfl)
  rw [lg_entry_eq]
  generalize (lg_sl ([.ref (q 0), .int nd, .int sl, .int wt]) ++ List.replicate (4 - (lg_sl ([.ref (q 0), .int nd, .int sl, .int wt])).length) Slot.unset).toArray = ls at hl ⊢
  have hl : lv_has ls 4 [(0, .ref (q 0)), (1, .int nd), (2, .int sl), (3, .int wt)] := hl
  refine lv_aload_n hx hb dDecreePool_heard_0 rfl (lv_at hl 0 rfl) ?_
  refine lv_iload_n hx hb dDecreePool_heard_1 rfl (lv_at hl 1 rfl) ?_
  refine lv_iload_n hx hb dDecreePool_heard_2 rfl (lv_at hl 2 rfl) ?_
  have hPc := hP.sub (ws' := (wX q cI n S P x)) [0, 1, 2, 3, 4, 5, 6, 7, 8, 9, 10, 11, 12, 13, 14, 15] rfl
  have hDc := hD.sub (ws' := (wX q cI n S P x)) [0, 1, 2, 3, 4, 5, 6, 7, 8, 9, 10, 11, 12, 13, 14, 15] (by decide) rfl
  refine kx_i (va_runV (As := [.int nd, .int sl]) (rest := []) ⟨hx, hb, hml, hown, hts⟩ ((c_hasSeat l D cI cZ q n S P x nd sl (hn1) (hn5) (hS1) (hS4) (hP5) (hP64)) s.heap.size) (cwV 2 hts (gV wd137 wd139 sl_DecreePool_hasSeat wd1 wd140) rfl rfl rfl (by decide +kernel) ⟨Nat.le_of_ble_eq_true rfl, Nat.le_of_ble_eq_true rfl⟩) ⟨fb_PW, va_recv (q0 := 0) (ci := 0) hK hPc rfl rfl, pre_PW hK hPc hDc hZ⟩ rfl rfl hl.1 rfl (lv_room (Nat.le_of_ble_eq_true rfl)) dDecreePool_heard_3 ⟨Nat.zero_le _, Nat.zero_le _⟩) hP hD hS hA [0, 1, 2, 3, 4, 5, 6, 7, 8, 9, 10, 11, 12, 13, 14, 15] [] rfl rfl (by decide) (by decide) (fun r w1 H locs hw hP hD hS => ?_)
  rcases hw with ⟨rfl, h3, rfl⟩ | ⟨rfl, h3, rfl⟩
  · have hP : va_P D vwCl (wX q cI n S P x) H := hP
    have hD : va_D A (wX q cI n S P x) := hD
    obtain ⟨a, ha, rfl⟩ := okN_of (show n < 2 ^ 31 by omega) h3.1
    obtain ⟨t, ht, rfl⟩ := okN_of (show S < 2 ^ 31 by omega) h3.2
    refine lv_if_eq (tgt := 17) hx hb dDecreePool_heard_6 (by decide) (fun h9 => absurd h9 (by decide)) (fun _ => ?_)
    refine lv_aload_n hx hb dDecreePool_heard_9 rfl (lv_at hl 0 rfl) ?_
    refine lv_iload_n hx hb dDecreePool_heard_10 rfl (lv_at hl 3 rfl) ?_
    have hPc := hP.sub (ws' := (wX q cI n S P x)) [0, 1, 2, 3, 4, 5, 6, 7, 8, 9, 10, 11, 12, 13, 14, 15] rfl
    have hDc := hD.sub (ws' := (wX q cI n S P x)) [0, 1, 2, 3, 4, 5, 6, 7, 8, 9, 10, 11, 12, 13, 14, 15] (by decide) rfl
    refine kx_i (va_runV (As := [.int wt]) (rest := []) ⟨hx, hb, hml, hown, hts⟩ ((c_hasNode l D cI cZ q n S P x wt (hn1) (hn5) (hS1) (hS4) (hP5) (hP64)) H.size) (cwV 1 hts (gV wd141 wd143 sl_DecreePool_hasNode wd1 wd144) rfl rfl rfl (by decide +kernel) ⟨Nat.le_of_ble_eq_true rfl, Nat.le_of_ble_eq_true rfl⟩) ⟨fb_PW, va_recv (q0 := 0) (ci := 0) hK hPc rfl rfl, pre_PW hK hPc hDc hZ⟩ rfl rfl hl.1 rfl (lv_room (Nat.le_of_ble_eq_true rfl)) dDecreePool_heard_11 ⟨Nat.zero_le _, Nat.zero_le _⟩) hP hD hS hA [0, 1, 2, 3, 4, 5, 6, 7, 8, 9, 10, 11, 12, 13, 14, 15] [] rfl rfl (by decide) (by decide) (fun r w1 H locs hw hP hD hS => ?_)
    rcases hw with ⟨rfl, h11, rfl⟩ | ⟨rfl, h11, rfl⟩
    · have hP : va_P D vwCl (wX q cI n S P x) H := hP
      have hD : va_D A (wX q cI n S P x) := hD
      obtain ⟨c9, hc9, rfl⟩ := okN_of (show n < 2 ^ 31 by omega) h11
      refine lv_if_ne (tgt := 19) hx hb dDecreePool_heard_14 (by decide) (fun _ => ?_) (fun h9 => absurd h9 (by decide))
      refine lv_aload_n hx hb dDecreePool_heard_19 rfl (lv_at hl 0 rfl) ?_
      refine va_get (D := D) (ci := 0) (v := .ref (q 13)) (C := RDecreePool) (T := TDecreePool) (N := 9) hx hb hts (fun w h => mc (uDecreePool_in w h)) hown hK hP 0 rfl rfl 5 (by decide) (hts _ (mc wd110)) (fun _ h9 => h9) rfl dDecreePool_heard_20 ?_
      refine lv_aload_n hx hb dDecreePool_heard_23 rfl (lv_at hl 0 rfl) ?_
      refine lv_iload_n hx hb dDecreePool_heard_24 rfl (lv_at hl 1 rfl) ?_
      refine lv_iload_n hx hb dDecreePool_heard_25 rfl (lv_at hl 2 rfl) ?_
      have hPc := hP.sub (ws' := (wX q cI n S P x)) [0, 1, 2, 3, 4, 5, 6, 7, 8, 9, 10, 11, 12, 13, 14, 15] rfl
      have hDc := hD.sub (ws' := (wX q cI n S P x)) [0, 1, 2, 3, 4, 5, 6, 7, 8, 9, 10, 11, 12, 13, 14, 15] (by decide) rfl
      refine kx_i (va_runV (As := [.int (nI a), .int (nI t)]) (rest := [.ref (q 13)]) ⟨hx, hb, hml, hown, hts⟩ ((c_seatOf l D cI cZ q n S P x a t (hn1) (hn5) (hS1) (hS4) (hP5) (hP64)) H.size) (cwV 2 hts (gV wd153 wd155 sl_DecreePool_seatOf wd1 wd156) rfl rfl rfl (by decide +kernel) ⟨Nat.le_of_ble_eq_true rfl, Nat.le_of_ble_eq_true rfl⟩) ⟨fb_PW, va_recv (q0 := 0) (ci := 0) hK hPc rfl rfl, pre_PW hK hPc hDc hZ⟩ rfl rfl hl.1 rfl (lv_room (Nat.le_of_ble_eq_true rfl)) dDecreePool_heard_26 ⟨Nat.zero_le _, Nat.zero_le _⟩) hP hD hS hA [0, 1, 2, 3, 4, 5, 6, 7, 8, 9, 10, 11, 12, 13, 14, 15] [] rfl rfl (by decide) (by decide) (fun r w1 H locs hw hP hD hS => ?_)
      obtain ⟨rfl, rfl⟩ := hw
      have hP : va_P D vwCl (wX q cI n S P x) H := hP
      have hD : va_D A (wX q cI n S P x) := hD
      refine lv_iload_n hx hb dDecreePool_heard_29 rfl (lv_at hl 3 rfl) ?_
      have hPc := hP.sub (ws' := (wLe q cI n (n * S) (hq n S (x.2 0)) (sq S (x.1 11)))) [13, 14, 15] rfl
      have hDc := hD.sub (ws' := (wLe q cI n (n * S) (hq n S (x.2 0)) (sq S (x.1 11)))) [13, 14, 15] (by decide) rfl
      refine kx_i (va_runV (As := [.int (nI (a * S + t)), .int (nI c9)]) (rest := []) ⟨hx, hb, hml, hown, hts⟩ ((c_ballotOf l D cI cZ q n (n * S) (hq n S (x.2 0)) (sq S (x.1 11)) (a * S + t) c9 (L20 hn5 hS4) (hn5) (seat_lt ha ht) (hc9)) H.size) (cwV 2 hts (gV wd358 wd266 wd267 wd6 wd268) rfl rfl rfl (by decide +kernel) ⟨Nat.le_of_ble_eq_true rfl, Nat.le_of_ble_eq_true rfl⟩) ⟨fb_PW, va_recv (q0 := 0) (ci := 4) hK hPc rfl rfl, pre_PW hK hPc hDc hZ⟩ rfl rfl hl.1 rfl (lv_room (Nat.le_of_ble_eq_true rfl)) dDecreePool_heard_30 ⟨Nat.zero_le _, Nat.zero_le _⟩) hP hD hS hA [13, 14, 15] [0, 1, 2, 3, 4, 5, 6, 7, 8, 9, 10, 11, 12] rfl rfl (by decide) (by decide) (fun r w1 H locs hw hP hD hS => ?_)
      obtain ⟨rfl, rfl⟩ := hw
      have hP : va_P D vwCl (wX q cI n S P x) H := hP
      have hD : va_D A (wX q cI n S P x) := hD
      refine lv_topi (nm_r (hq_at hc9 ht) ?_)
      exact W.iret (v := x.2 0 a t c9) hx hb hr (fun t9 ht9 hW9 => ⟨⟨x.2 0 a t c9, (wX q cI n S P x), rfl, ⟨by unfold aHeard; rw [if_pos ⟨h3.1, h3.2, h11⟩, ix_nI ha (by omega), ix_nI ht (by omega), ix_nI hc9 (by omega)], rfl⟩, by rw [ht9]; exact hP, va_K.moved hW9.alike hK, hD⟩, hS.F ht9⟩) hS.2.2 dDecreePool_heard_33
    · have hP : va_P D vwCl (wX q cI n S P x) H := hP
      have hD : va_D A (wX q cI n S P x) := hD
      refine lv_if_ne (tgt := 19) hx hb dDecreePool_heard_14 (by decide) (fun h9 => absurd (by decide) h9) (fun _ => ?_)
      refine lv_iconst (v := (-1)) hx hb dDecreePool_heard_17 (by decide) ?_
      exact W.iret (v := (-1)) hx hb hr (fun t9 ht9 hW9 => ⟨⟨(-1), (wX q cI n S P x), rfl, ⟨by unfold aHeard; rw [if_neg (fun h => h11 h.2.2)], rfl⟩, by rw [ht9]; exact hP, va_K.moved hW9.alike hK, hD⟩, hS.F ht9⟩) hS.2.2 dDecreePool_heard_18
  · have hP : va_P D vwCl (wX q cI n S P x) H := hP
    have hD : va_D A (wX q cI n S P x) := hD
    refine lv_if_eq (tgt := 17) hx hb dDecreePool_heard_6 (by decide) (fun _ => ?_) (fun h9 => absurd (by decide) h9)
    refine lv_iconst (v := (-1)) hx hb dDecreePool_heard_17 (by decide) ?_
    exact W.iret (v := (-1)) hx hb hr (fun t9 ht9 hW9 => ⟨⟨(-1), (wX q cI n S P x), rfl, ⟨by unfold aHeard; rw [if_neg (fun h => h3 ⟨h.1, h.2.1⟩)], rfl⟩, by rw [ht9]; exact hP, va_K.moved hW9.alike hK, hD⟩, hS.F ht9⟩) hS.2.2 dDecreePool_heard_18
theorem dDecreePool_message_0 : decode cDecreePool_message 0 = .ok (.aload_n 0, 1) := by decide +kernel
theorem dDecreePool_message_1 : decode cDecreePool_message 1 = .ok (.getfield 25, 3) := by decide +kernel
theorem dDecreePool_message_4 : decode cDecreePool_message 4 = .ok (.iload_n 1, 1) := by decide +kernel
theorem dDecreePool_message_5 : decode cDecreePool_message 5 = .ok (.invokevirtual 89, 3) := by decide +kernel
theorem dDecreePool_message_8 : decode cDecreePool_message 8 = .ok (.ifCond .eq 25, 3) := by decide +kernel
theorem dDecreePool_message_11 : decode cDecreePool_message 11 = .ok (.iload_n 2, 1) := by decide +kernel
theorem dDecreePool_message_12 : decode cDecreePool_message 12 = .ok (.iconst 0, 1) := by decide +kernel
theorem dDecreePool_message_13 : decode cDecreePool_message 13 = .ok (.bipush 6, 2) := by decide +kernel
theorem dDecreePool_message_15 : decode cDecreePool_message 15 = .ok (.invokestatic 7, 3) := by decide +kernel
theorem dDecreePool_message_18 : decode cDecreePool_message 18 = .ok (.ifCond .eq 15, 3) := by decide +kernel
theorem dDecreePool_message_21 : decode cDecreePool_message 21 = .ok (.aload_n 0, 1) := by decide +kernel
theorem dDecreePool_message_22 : decode cDecreePool_message 22 = .ok (.getfield 25, 3) := by decide +kernel
theorem dDecreePool_message_25 : decode cDecreePool_message 25 = .ok (.iload_n 1, 1) := by decide +kernel
theorem dDecreePool_message_26 : decode cDecreePool_message 26 = .ok (.iload_n 2, 1) := by decide +kernel
theorem dDecreePool_message_27 : decode cDecreePool_message 27 = .ok (.invokevirtual 101, 3) := by decide +kernel
theorem dDecreePool_message_30 : decode cDecreePool_message 30 = .ok (.goto 4, 3) := by decide +kernel
theorem dDecreePool_message_33 : decode cDecreePool_message 33 = .ok (.iconst (-1), 1) := by decide +kernel
theorem dDecreePool_message_34 : decode cDecreePool_message 34 = .ok (.ireturn, 1) := by decide +kernel
set_option maxRecDepth 100000 in
set_option maxHeartbeats 4000000 in
theorem c_message (l : Launch) (D : va_G) (cI cZ : ClassId) (q : Nat → Nat) (n : Nat) (S : Nat) (P : Nat) (x : St) (v : Int32) (wt : Int32) (hn1 : 1 ≤ n) (hn5 : n ≤ 5) (hS1 : 1 ≤ S) (hS4 : S ≤ 4) (hP5 : 5 ≤ P) (hP64 : P ≤ 64) : MI l D [(cI, .int), (cZ, .boolean)] yDecreePool_message wsDecreePool_message ({ frames := 2, cells := 0, slots := 0, locals := 43 }) [.ref (q 0), .int v, .int wt] (wX q cI n S P x) (fun r w => r = aMsg P x v wt ∧ w = (wX q cI n S P x)) := by
  intro sz
  refine Met.ofW (cc := cDecreePool_message) (maxL := 3) (ret := (Option.some .int)) (by decide) rfl ?_
  intro p e s m args below meth c s₁ B hml hv
  obtain ⟨rfl, hsz, hP, hK, hD0, hZ⟩ := hv
  have hx := B.exec
  have hb := B.bytes
  have hr := B.returns
  have hts := atoms_spec (ws := wsDecreePool_message) B.pre
  have hown : s.vm.findClass RDecreePool = some m.cls := findClass_of_methodNamed B.named
  have hlocks := B.notSynchronized
  subst hsz
  have hD := hD0.self (sz := s.heap.size)
  generalize hAe : va_A (wX q cI n S P x) s.heap.size = A at hD ⊢
  have hA : ∀ q : Nat, s.heap.size ≤ q → A q := fun q h => by rw [← hAe]; exact Or.inr h
  have hS : va_S A s.heap s.heap [] := va_S.rf
  have hP : va_P D vwCl (wX q cI n S P x) s.heap := hP
  have hl := lv_entry ([.ref (q 0), .int v, .int wt]) (n := 3) (Nat.le_of_ble_eq_true rfl)
  rw [lg_entry_eq]
  generalize (lg_sl ([.ref (q 0), .int v, .int wt]) ++ List.replicate (3 - (lg_sl ([.ref (q 0), .int v, .int wt])).length) Slot.unset).toArray = ls at hl ⊢
  have hl : lv_has ls 3 [(0, .ref (q 0)), (1, .int v), (2, .int wt)] := hl
  refine lv_aload_n hx hb dDecreePool_message_0 rfl (lv_at hl 0 rfl) ?_
  refine va_get (D := D) (ci := 0) (v := .ref (q 1)) (C := RDecreePool) (T := TDecreePool) (N := 9) hx hb hts (fun w h => mc (uDecreePool_in w h)) hown hK hP 0 rfl rfl 2 (by decide) (hts _ (mc wd107)) (fun _ h9 => h9) rfl dDecreePool_message_1 ?_
  refine lv_iload_n hx hb dDecreePool_message_4 rfl (lv_at hl 1 rfl) ?_
  have hPc := hP.sub (ws' := (wPo q cI P (x.1 0) (cntx P x))) [1, 2] rfl
  have hDc := hD.sub (ws' := (wPo q cI P (x.1 0) (cntx P x))) [1, 2] (by decide) rfl
  refine kx_i (va_runV (As := [.int v]) (rest := []) ⟨hx, hb, hml, hown, hts⟩ ((c_holds l D cI cZ q P (x.1 0) (cntx P x) v (hP64) (by omega)) s.heap.size) (cwV 1 hts (gV wd189 wd190 wd191 wd2 wd192) rfl rfl rfl (by decide +kernel) ⟨Nat.le_of_ble_eq_true rfl, Nat.le_of_ble_eq_true rfl⟩) ⟨fb_PW, va_recv (q0 := 0) (ci := 1) hK hPc rfl rfl, pre_PW hK hPc hDc hZ⟩ rfl rfl hl.1 rfl (lv_room (Nat.le_of_ble_eq_true rfl)) dDecreePool_message_5 ⟨Nat.zero_le _, Nat.zero_le _⟩) hP hD hS hA [1, 2] [0, 3, 4, 5, 6, 7, 8, 9, 10, 11, 12, 13, 14, 15] rfl rfl (by decide) (by decide) (fun r w1 H locs hw hP hD hS => ?_)
  rcases hw with ⟨rfl, h5, rfl⟩ | ⟨rfl, h5, rfl⟩
  · have hP : va_P D vwCl (wX q cI n S P x) H := hP.sub [0, 14, 15, 1, 2, 3, 4, 5, 6, 7, 8, 9, 10, 11, 12, 13] rfl
    have hD : va_D A (wX q cI n S P x) := hD.sub [0, 14, 15, 1, 2, 3, 4, 5, 6, 7, 8, 9, 10, 11, 12, 13] (by decide) rfl
    obtain ⟨j, hj, rfl⟩ := okN_of (show P < 2 ^ 31 by omega) h5.1
    have hk0 : x.1 0 j 0 ≠ 0 := by have h6 := h5.2; rw [ix_nI hj (by omega)] at h6; exact h6
    have hisM : isM P x (nI j) := h5
    refine lv_if_eq (tgt := 33) hx hb dDecreePool_message_8 (by decide) (fun h9 => absurd h9 (by decide)) (fun _ => ?_)
    refine lv_iload_n hx hb dDecreePool_message_11 rfl (lv_at hl 2 rfl) ?_
    refine lv_iconst (v := nI 0) hx hb dDecreePool_message_12 (by decide) ?_
    refine lv_bipush (v := nI 6) hx hb dDecreePool_message_13 (by decide) ?_
    have hPc := hP.sub (ws' := ([] : va_W)) [] rfl
    have hDc := hD.sub (ws' := ([] : va_W)) [] (by decide) rfl
    refine kx_i (va_runS (As := [.int wt, .int (nI 0), .int (nI 6)]) (rest := []) ⟨hx, hb, hml, hown, hts⟩ ((c_isWithin l D cI cZ wt (nI 0) (nI 6)) H.size) (va_cwS 3 hts (gS wd17 wd18 wd1 wd19) rfl rfl rfl (by decide +kernel) ⟨Nat.le_of_ble_eq_true rfl, Nat.le_of_ble_eq_true rfl⟩) ⟨fb_PW, pre_PW hK hPc hDc hZ⟩ rfl rfl hl.1 rfl (lv_room (Nat.le_of_ble_eq_true rfl)) dDecreePool_message_15 ⟨Nat.zero_le _, Nat.zero_le _⟩) hP hD hS hA [] [0, 1, 2, 3, 4, 5, 6, 7, 8, 9, 10, 11, 12, 13, 14, 15] rfl rfl (by decide) (by decide) (fun r w1 H locs hw hP hD hS => ?_)
    rcases hw with ⟨rfl, h15, rfl⟩ | ⟨rfl, h15, rfl⟩
    · have hP : va_P D vwCl (wX q cI n S P x) H := hP
      have hD : va_D A (wX q cI n S P x) := hD
      obtain ⟨k9, hk9, rfl⟩ := wi_of (P := 7) (by decide) (by decide) h15
      refine lv_if_eq (tgt := 33) hx hb dDecreePool_message_18 (by decide) (fun h9 => absurd h9 (by decide)) (fun _ => ?_)
      refine lv_aload_n hx hb dDecreePool_message_21 rfl (lv_at hl 0 rfl) ?_
      refine va_get (D := D) (ci := 0) (v := .ref (q 1)) (C := RDecreePool) (T := TDecreePool) (N := 9) hx hb hts (fun w h => mc (uDecreePool_in w h)) hown hK hP 0 rfl rfl 2 (by decide) (hts _ (mc wd107)) (fun _ h9 => h9) rfl dDecreePool_message_22 ?_
      refine lv_iload_n hx hb dDecreePool_message_25 rfl (lv_at hl 1 rfl) ?_
      refine lv_iload_n hx hb dDecreePool_message_26 rfl (lv_at hl 2 rfl) ?_
      have hPc := hP.sub (ws' := (wPo q cI P (x.1 0) (cntx P x))) [1, 2] rfl
      have hDc := hD.sub (ws' := (wPo q cI P (x.1 0) (cntx P x))) [1, 2] (by decide) rfl
      refine kx_i (va_runV (As := [.int (nI j), .int (nI k9)]) (rest := []) ⟨hx, hb, hml, hown, hts⟩ ((c_field l D cI cZ q P (x.1 0) (cntx P x) j k9 (hP64) (hj) (hk9)) H.size) (cwV 2 hts (gV wd202 wd182 wd183 wd2 wd184) rfl rfl rfl (by decide +kernel) ⟨Nat.le_of_ble_eq_true rfl, Nat.le_of_ble_eq_true rfl⟩) ⟨fb_PW, va_recv (q0 := 0) (ci := 1) hK hPc rfl rfl, pre_PW hK hPc hDc hZ⟩ rfl rfl hl.1 rfl (lv_room (Nat.le_of_ble_eq_true rfl)) dDecreePool_message_27 ⟨Nat.zero_le _, Nat.zero_le _⟩) hP hD hS hA [1, 2] [0, 3, 4, 5, 6, 7, 8, 9, 10, 11, 12, 13, 14, 15] rfl rfl (by decide) (by decide) (fun r w1 H locs hw hP hD hS => ?_)
      obtain ⟨rfl, rfl⟩ := hw
      have hP : va_P D vwCl (wX q cI n S P x) H := hP.sub [0, 14, 15, 1, 2, 3, 4, 5, 6, 7, 8, 9, 10, 11, 12, 13] rfl
      have hD : va_D A (wX q cI n S P x) := hD.sub [0, 14, 15, 1, 2, 3, 4, 5, 6, 7, 8, 9, 10, 11, 12, 13] (by decide) rfl
      refine lv_goto (tgt := 34) hx hb dDecreePool_message_30 (by decide) ?_
      exact W.iret (v := x.1 0 j k9) hx hb hr (fun t9 ht9 hW9 => ⟨⟨x.1 0 j k9, (wX q cI n S P x), rfl, ⟨by unfold aMsg; rw [if_pos ⟨hisM, okN_nI hk9 (by decide)⟩, ix_nI hj (by omega), ix_nI hk9 (by decide)], rfl⟩, by rw [ht9]; exact hP, va_K.moved hW9.alike hK, hD⟩, hS.F ht9⟩) hS.2.2 dDecreePool_message_34
    · have hP : va_P D vwCl (wX q cI n S P x) H := hP
      have hD : va_D A (wX q cI n S P x) := hD
      refine lv_if_eq (tgt := 33) hx hb dDecreePool_message_18 (by decide) (fun _ => ?_) (fun h9 => absurd (by decide) h9)
      refine lv_iconst (v := (-1)) hx hb dDecreePool_message_33 (by decide) ?_
      exact W.iret (v := (-1)) hx hb hr (fun t9 ht9 hW9 => ⟨⟨(-1), (wX q cI n S P x), rfl, ⟨by unfold aMsg; rw [if_neg (fun h => wi_no (P := 7) (by decide) h15 h.2)], rfl⟩, by rw [ht9]; exact hP, va_K.moved hW9.alike hK, hD⟩, hS.F ht9⟩) hS.2.2 dDecreePool_message_34
  · have hP : va_P D vwCl (wX q cI n S P x) H := hP.sub [0, 14, 15, 1, 2, 3, 4, 5, 6, 7, 8, 9, 10, 11, 12, 13] rfl
    have hD : va_D A (wX q cI n S P x) := hD.sub [0, 14, 15, 1, 2, 3, 4, 5, 6, 7, 8, 9, 10, 11, 12, 13] (by decide) rfl
    refine lv_if_eq (tgt := 33) hx hb dDecreePool_message_8 (by decide) (fun _ => ?_) (fun h9 => absurd (by decide) h9)
    refine lv_iconst (v := (-1)) hx hb dDecreePool_message_33 (by decide) ?_
    exact W.iret (v := (-1)) hx hb hr (fun t9 ht9 hW9 => ⟨⟨(-1), (wX q cI n S P x), rfl, ⟨by unfold aMsg; rw [if_neg (fun h => h5 h.1)], rfl⟩, by rw [ht9]; exact hP, va_K.moved hW9.alike hK, hD⟩, hS.F ht9⟩) hS.2.2 dDecreePool_message_34
theorem dDecreePool_chosen_0 : decode cDecreePool_chosen 0 = .ok (.aload_n 0, 1) := by decide +kernel
theorem dDecreePool_chosen_1 : decode cDecreePool_chosen 1 = .ok (.iload_n 1, 1) := by decide +kernel
theorem dDecreePool_chosen_2 : decode cDecreePool_chosen 2 = .ok (.invokevirtual 149, 3) := by decide +kernel
theorem dDecreePool_chosen_5 : decode cDecreePool_chosen 5 = .ok (.ifCond .eq 14, 3) := by decide +kernel
theorem dDecreePool_chosen_8 : decode cDecreePool_chosen 8 = .ok (.aload_n 0, 1) := by decide +kernel
theorem dDecreePool_chosen_9 : decode cDecreePool_chosen 9 = .ok (.getfield 41, 3) := by decide +kernel
theorem dDecreePool_chosen_12 : decode cDecreePool_chosen 12 = .ok (.iload_n 1, 1) := by decide +kernel
theorem dDecreePool_chosen_13 : decode cDecreePool_chosen 13 = .ok (.invokevirtual 152, 3) := by decide +kernel
theorem dDecreePool_chosen_16 : decode cDecreePool_chosen 16 = .ok (.goto 4, 3) := by decide +kernel
theorem dDecreePool_chosen_19 : decode cDecreePool_chosen 19 = .ok (.iconst (-1), 1) := by decide +kernel
theorem dDecreePool_chosen_20 : decode cDecreePool_chosen 20 = .ok (.ireturn, 1) := by decide +kernel
set_option maxRecDepth 100000 in
set_option maxHeartbeats 4000000 in
theorem c_chosen (l : Launch) (D : va_G) (cI cZ : ClassId) (q : Nat → Nat) (n : Nat) (S : Nat) (P : Nat) (x : St) (sl : Int32) (hn1 : 1 ≤ n) (hn5 : n ≤ 5) (hS1 : 1 ≤ S) (hS4 : S ≤ 4) (hP5 : 5 ≤ P) (hP64 : P ≤ 64) : MI l D [(cI, .int), (cZ, .boolean)] yDecreePool_chosen wsDecreePool_chosen ({ frames := 2, cells := 0, slots := 0, locals := 47 }) [.ref (q 0), .int sl] (wX q cI n S P x) (fun r w => r = aChosen n S x sl ∧ w = (wX q cI n S P x)) := by
  intro sz
  refine Met.ofW (cc := cDecreePool_chosen) (maxL := 2) (ret := (Option.some .int)) (by decide) rfl ?_
  intro p e s m args below meth c s₁ B hml hv
  obtain ⟨rfl, hsz, hP, hK, hD0, hZ⟩ := hv
  have hx := B.exec
  have hb := B.bytes
  have hr := B.returns
  have hts := atoms_spec (ws := wsDecreePool_chosen) B.pre
  have hown : s.vm.findClass RDecreePool = some m.cls := findClass_of_methodNamed B.named
  have hlocks := B.notSynchronized
  subst hsz
  have hD := hD0.self (sz := s.heap.size)
  generalize hAe : va_A (wX q cI n S P x) s.heap.size = A at hD ⊢
  have hA : ∀ q : Nat, s.heap.size ≤ q → A q := fun q h => by rw [← hAe]; exact Or.inr h
  have hS : va_S A s.heap s.heap [] := va_S.rf
  have hP : va_P D vwCl (wX q cI n S P x) s.heap := hP
  have hl := lv_entry ([.ref (q 0), .int sl]) (n := 2) (Nat.le_of_ble_eq_true rfl)
  rw [lg_entry_eq]
  generalize (lg_sl ([.ref (q 0), .int sl]) ++ List.replicate (2 - (lg_sl ([.ref (q 0), .int sl])).length) Slot.unset).toArray = ls at hl ⊢
  have hl : lv_has ls 2 [(0, .ref (q 0)), (1, .int sl)] := hl
  refine lv_aload_n hx hb dDecreePool_chosen_0 rfl (lv_at hl 0 rfl) ?_
  refine lv_iload_n hx hb dDecreePool_chosen_1 rfl (lv_at hl 1 rfl) ?_
  have hPc := hP.sub (ws' := (wX q cI n S P x)) [0, 1, 2, 3, 4, 5, 6, 7, 8, 9, 10, 11, 12, 13, 14, 15] rfl
  have hDc := hD.sub (ws' := (wX q cI n S P x)) [0, 1, 2, 3, 4, 5, 6, 7, 8, 9, 10, 11, 12, 13, 14, 15] (by decide) rfl
  refine kx_i (va_runV (As := [.int sl]) (rest := []) ⟨hx, hb, hml, hown, hts⟩ ((c_hasSlot l D cI cZ q n S P x sl (hn1) (hn5) (hS1) (hS4) (hP5) (hP64)) s.heap.size) (cwV 1 hts (gV wd145 wd147 sl_DecreePool_hasSlot wd1 wd148) rfl rfl rfl (by decide +kernel) ⟨Nat.le_of_ble_eq_true rfl, Nat.le_of_ble_eq_true rfl⟩) ⟨fb_PW, va_recv (q0 := 0) (ci := 0) hK hPc rfl rfl, pre_PW hK hPc hDc hZ⟩ rfl rfl hl.1 rfl (lv_room (Nat.le_of_ble_eq_true rfl)) dDecreePool_chosen_2 ⟨Nat.zero_le _, Nat.zero_le _⟩) hP hD hS hA [0, 1, 2, 3, 4, 5, 6, 7, 8, 9, 10, 11, 12, 13, 14, 15] [] rfl rfl (by decide) (by decide) (fun r w1 H locs hw hP hD hS => ?_)
  rcases hw with ⟨rfl, h2, rfl⟩ | ⟨rfl, h2, rfl⟩
  · have hP : va_P D vwCl (wX q cI n S P x) H := hP
    have hD : va_D A (wX q cI n S P x) := hD
    obtain ⟨t, ht, rfl⟩ := okN_of (show S < 2 ^ 31 by omega) h2
    refine lv_if_eq (tgt := 19) hx hb dDecreePool_chosen_5 (by decide) (fun h9 => absurd h9 (by decide)) (fun _ => ?_)
    refine lv_aload_n hx hb dDecreePool_chosen_8 rfl (lv_at hl 0 rfl) ?_
    refine va_get (D := D) (ci := 0) (v := .ref (q 9)) (C := RDecreePool) (T := TDecreePool) (N := 9) hx hb hts (fun w h => mc (uDecreePool_in w h)) hown hK hP 0 rfl rfl 4 (by decide) (hts _ (mc wd109)) (fun _ h9 => h9) rfl dDecreePool_chosen_9 ?_
    refine lv_iload_n hx hb dDecreePool_chosen_12 rfl (lv_at hl 1 rfl) ?_
    have hPc := hP.sub (ws' := (wAc q cI n S (n * S) (sq S (x.1 8)) (sq S (x.1 9)) (sq S (x.1 10)))) [9, 10, 11, 12] rfl
    have hDc := hD.sub (ws' := (wAc q cI n S (n * S) (sq S (x.1 8)) (sq S (x.1 9)) (sq S (x.1 10)))) [9, 10, 11, 12] (by decide) rfl
    refine kx_i (va_runV (As := [.int (nI t)]) (rest := []) ⟨hx, hb, hml, hown, hts⟩ ((c_majorityValue l D cI cZ q n S (n * S) (sq S (x.1 8)) (sq S (x.1 9)) (sq S (x.1 10)) t (L20 hn5 hS4) (hn5) (hS4) (ht) (fun _ _ => seat_lt)) H.size) (cwV 1 hts (gV wd367 wd368 wd369 wd5 wd370) rfl rfl rfl (by decide +kernel) ⟨Nat.le_of_ble_eq_true rfl, Nat.le_of_ble_eq_true rfl⟩) ⟨fb_PW, va_recv (q0 := 0) (ci := 3) hK hPc rfl rfl, pre_PW hK hPc hDc hZ⟩ rfl rfl hl.1 rfl (lv_room (Nat.le_of_ble_eq_true rfl)) dDecreePool_chosen_13 ⟨Nat.zero_le _, Nat.zero_le _⟩) hP hD hS hA [9, 10, 11, 12] [0, 1, 2, 3, 4, 5, 6, 7, 8, 13, 14, 15] rfl rfl (by decide) (by decide) (fun r w1 H locs hw hP hD hS => ?_)
    obtain ⟨rfl, rfl⟩ := hw
    have hP : va_P D vwCl (wX q cI n S P x) H := hP.sub [0, 1, 2, 3, 4, 5, 6, 7, 8, 12, 13, 14, 15, 9, 10, 11] rfl
    have hD : va_D A (wX q cI n S P x) := hD.sub [0, 1, 2, 3, 4, 5, 6, 7, 8, 12, 13, 14, 15, 9, 10, 11] (by decide) rfl
    refine lv_topi (nm_r (show cho n (fun a => sq S (x.1 9) (a * S + t)) (fun a => sq S (x.1 10) (a * S + t)) n 0 = cho n (fun a => x.1 9 a t) (fun a => x.1 10 a t) n 0 by simp only [sq_at ht]) ?_)
    refine lv_goto (tgt := 20) hx hb dDecreePool_chosen_16 (by decide) ?_
    exact W.iret (v := cho n (fun a => x.1 9 a t) (fun a => x.1 10 a t) n 0) hx hb hr (fun t9 ht9 hW9 => ⟨⟨cho n (fun a => x.1 9 a t) (fun a => x.1 10 a t) n 0, (wX q cI n S P x), rfl, ⟨by unfold aChosen; rw [if_pos h2, ix_nI ht (by omega)], rfl⟩, by rw [ht9]; exact hP, va_K.moved hW9.alike hK, hD⟩, hS.F ht9⟩) hS.2.2 dDecreePool_chosen_20
  · have hP : va_P D vwCl (wX q cI n S P x) H := hP
    have hD : va_D A (wX q cI n S P x) := hD
    refine lv_if_eq (tgt := 19) hx hb dDecreePool_chosen_5 (by decide) (fun _ => ?_) (fun h9 => absurd (by decide) h9)
    refine lv_iconst (v := (-1)) hx hb dDecreePool_chosen_19 (by decide) ?_
    exact W.iret (v := (-1)) hx hb hr (fun t9 ht9 hW9 => ⟨⟨(-1), (wX q cI n S P x), rfl, ⟨by unfold aChosen; rw [if_neg h2], rfl⟩, by rw [ht9]; exact hP, va_K.moved hW9.alike hK, hD⟩, hS.F ht9⟩) hS.2.2 dDecreePool_chosen_20
theorem dDecreePool_pfx_0 : decode cDecreePool_pfx 0 = .ok (.aload_n 0, 1) := by decide +kernel
theorem dDecreePool_pfx_1 : decode cDecreePool_pfx 1 = .ok (.iload_n 1, 1) := by decide +kernel
theorem dDecreePool_pfx_2 : decode cDecreePool_pfx 2 = .ok (.invokevirtual 110, 3) := by decide +kernel
theorem dDecreePool_pfx_5 : decode cDecreePool_pfx 5 = .ok (.ifCond .eq 11, 3) := by decide +kernel
theorem dDecreePool_pfx_8 : decode cDecreePool_pfx 8 = .ok (.aload_n 0, 1) := by decide +kernel
theorem dDecreePool_pfx_9 : decode cDecreePool_pfx 9 = .ok (.iload_n 1, 1) := by decide +kernel
theorem dDecreePool_pfx_10 : decode cDecreePool_pfx 10 = .ok (.invokevirtual 155, 3) := by decide +kernel
theorem dDecreePool_pfx_13 : decode cDecreePool_pfx 13 = .ok (.goto 4, 3) := by decide +kernel
theorem dDecreePool_pfx_16 : decode cDecreePool_pfx 16 = .ok (.iconst (-1), 1) := by decide +kernel
theorem dDecreePool_pfx_17 : decode cDecreePool_pfx 17 = .ok (.ireturn, 1) := by decide +kernel
set_option maxRecDepth 100000 in
set_option maxHeartbeats 4000000 in
theorem c_pfx (l : Launch) (D : va_G) (cI cZ : ClassId) (q : Nat → Nat) (n : Nat) (S : Nat) (P : Nat) (x : St) (nd : Int32) (hn1 : 1 ≤ n) (hn5 : n ≤ 5) (hS1 : 1 ≤ S) (hS4 : S ≤ 4) (hP5 : 5 ≤ P) (hP64 : P ≤ 64) : MI l D [(cI, .int), (cZ, .boolean)] yDecreePool_pfx wsDecreePool_pfx ({ frames := 2, cells := 0, slots := 0, locals := 44 }) [.ref (q 0), .int nd] (wX q cI n S P x) (fun r w => r = aPfx n S x nd ∧ w = (wX q cI n S P x)) := by
  intro sz
  refine Met.ofW (cc := cDecreePool_pfx) (maxL := 2) (ret := (Option.some .int)) (by decide) rfl ?_
  intro p e s m args below meth c s₁ B hml hv
  obtain ⟨rfl, hsz, hP, hK, hD0, hZ⟩ := hv
  have hx := B.exec
  have hb := B.bytes
  have hr := B.returns
  have hts := atoms_spec (ws := wsDecreePool_pfx) B.pre
  have hown : s.vm.findClass RDecreePool = some m.cls := findClass_of_methodNamed B.named
  have hlocks := B.notSynchronized
  subst hsz
  have hD := hD0.self (sz := s.heap.size)
  generalize hAe : va_A (wX q cI n S P x) s.heap.size = A at hD ⊢
  have hA : ∀ q : Nat, s.heap.size ≤ q → A q := fun q h => by rw [← hAe]; exact Or.inr h
  have hS : va_S A s.heap s.heap [] := va_S.rf
  have hP : va_P D vwCl (wX q cI n S P x) s.heap := hP
  have hl := lv_entry ([.ref (q 0), .int nd]) (n := 2) (Nat.le_of_ble_eq_true rfl)
  rw [lg_entry_eq]
  generalize (lg_sl ([.ref (q 0), .int nd]) ++ List.replicate (2 - (lg_sl ([.ref (q 0), .int nd])).length) Slot.unset).toArray = ls at hl ⊢
  have hl : lv_has ls 2 [(0, .ref (q 0)), (1, .int nd)] := hl
  refine lv_aload_n hx hb dDecreePool_pfx_0 rfl (lv_at hl 0 rfl) ?_
  refine lv_iload_n hx hb dDecreePool_pfx_1 rfl (lv_at hl 1 rfl) ?_
  have hPc := hP.sub (ws' := (wX q cI n S P x)) [0, 1, 2, 3, 4, 5, 6, 7, 8, 9, 10, 11, 12, 13, 14, 15] rfl
  have hDc := hD.sub (ws' := (wX q cI n S P x)) [0, 1, 2, 3, 4, 5, 6, 7, 8, 9, 10, 11, 12, 13, 14, 15] (by decide) rfl
  refine kx_i (va_runV (As := [.int nd]) (rest := []) ⟨hx, hb, hml, hown, hts⟩ ((c_hasNode l D cI cZ q n S P x nd (hn1) (hn5) (hS1) (hS4) (hP5) (hP64)) s.heap.size) (cwV 1 hts (gV wd141 wd143 sl_DecreePool_hasNode wd1 wd144) rfl rfl rfl (by decide +kernel) ⟨Nat.le_of_ble_eq_true rfl, Nat.le_of_ble_eq_true rfl⟩) ⟨fb_PW, va_recv (q0 := 0) (ci := 0) hK hPc rfl rfl, pre_PW hK hPc hDc hZ⟩ rfl rfl hl.1 rfl (lv_room (Nat.le_of_ble_eq_true rfl)) dDecreePool_pfx_2 ⟨Nat.zero_le _, Nat.zero_le _⟩) hP hD hS hA [0, 1, 2, 3, 4, 5, 6, 7, 8, 9, 10, 11, 12, 13, 14, 15] [] rfl rfl (by decide) (by decide) (fun r w1 H locs hw hP hD hS => ?_)
  rcases hw with ⟨rfl, h2, rfl⟩ | ⟨rfl, h2, rfl⟩
  · have hP : va_P D vwCl (wX q cI n S P x) H := hP
    have hD : va_D A (wX q cI n S P x) := hD
    obtain ⟨a, ha, rfl⟩ := okN_of (show n < 2 ^ 31 by omega) h2
    refine lv_if_eq (tgt := 16) hx hb dDecreePool_pfx_5 (by decide) (fun h9 => absurd h9 (by decide)) (fun _ => ?_)
    refine lv_aload_n hx hb dDecreePool_pfx_8 rfl (lv_at hl 0 rfl) ?_
    refine lv_iload_n hx hb dDecreePool_pfx_9 rfl (lv_at hl 1 rfl) ?_
    have hPc := hP.sub (ws' := (wX q cI n S P x)) [0, 1, 2, 3, 4, 5, 6, 7, 8, 9, 10, 11, 12, 13, 14, 15] rfl
    have hDc := hD.sub (ws' := (wX q cI n S P x)) [0, 1, 2, 3, 4, 5, 6, 7, 8, 9, 10, 11, 12, 13, 14, 15] (by decide) rfl
    refine kx_i (va_runV (As := [.int (nI a)]) (rest := []) ⟨hx, hb, hml, hown, hts⟩ ((c_pfxLength l D cI cZ q n S P x a (hn1) (hn5) (hS1) (hS4) (hP5) (hP64) (ha)) H.size) (cwV 1 hts (gV wd380 wd382 sl_DecreePool_prefixLength wd1 wd383) rfl rfl rfl (by decide +kernel) ⟨Nat.le_of_ble_eq_true rfl, Nat.le_of_ble_eq_true rfl⟩) ⟨fb_PW, va_recv (q0 := 0) (ci := 0) hK hPc rfl rfl, pre_PW hK hPc hDc hZ⟩ rfl rfl hl.1 rfl (lv_room (Nat.le_of_ble_eq_true rfl)) dDecreePool_pfx_10 ⟨Nat.zero_le _, Nat.zero_le _⟩) hP hD hS hA [0, 1, 2, 3, 4, 5, 6, 7, 8, 9, 10, 11, 12, 13, 14, 15] [] rfl rfl (by decide) (by decide) (fun r w1 H locs hw hP hD hS => ?_)
    obtain ⟨rfl, rfl⟩ := hw
    have hP : va_P D vwCl (wX q cI n S P x) H := hP
    have hD : va_D A (wX q cI n S P x) := hD
    refine lv_goto (tgt := 17) hx hb dDecreePool_pfx_13 (by decide) ?_
    exact W.iret (v := nI (lst (x.1 11 a) S 0)) hx hb hr (fun t9 ht9 hW9 => ⟨⟨nI (lst (x.1 11 a) S 0), (wX q cI n S P x), rfl, ⟨by unfold aPfx; rw [if_pos h2, ix_nI ha (by omega)], rfl⟩, by rw [ht9]; exact hP, va_K.moved hW9.alike hK, hD⟩, hS.F ht9⟩) hS.2.2 dDecreePool_pfx_17
  · have hP : va_P D vwCl (wX q cI n S P x) H := hP
    have hD : va_D A (wX q cI n S P x) := hD
    refine lv_if_eq (tgt := 16) hx hb dDecreePool_pfx_5 (by decide) (fun _ => ?_) (fun h9 => absurd (by decide) h9)
    refine lv_iconst (v := (-1)) hx hb dDecreePool_pfx_16 (by decide) ?_
    exact W.iret (v := (-1)) hx hb hr (fun t9 ht9 hW9 => ⟨⟨(-1), (wX q cI n S P x), rfl, ⟨by unfold aPfx; rw [if_neg h2], rfl⟩, by rw [ht9]; exact hP, va_K.moved hW9.alike hK, hD⟩, hS.F ht9⟩) hS.2.2 dDecreePool_pfx_17
theorem dDecreePool_count_0 : decode cDecreePool_count 0 = .ok (.iload_n 1, 1) := by decide +kernel
theorem dDecreePool_count_1 : decode cDecreePool_count 1 = .ok (.tableswitch 84 0 6 #[43, 51, 56, 61, 69, 74, 79], 43) := by decide +kernel
theorem dDecreePool_count_44 : decode cDecreePool_count 44 = .ok (.aload_n 0, 1) := by decide +kernel
theorem dDecreePool_count_45 : decode cDecreePool_count 45 = .ok (.getfield 25, 3) := by decide +kernel
theorem dDecreePool_count_48 : decode cDecreePool_count 48 = .ok (.invokevirtual 158, 3) := by decide +kernel
theorem dDecreePool_count_51 : decode cDecreePool_count 51 = .ok (.ireturn, 1) := by decide +kernel
theorem dDecreePool_count_52 : decode cDecreePool_count 52 = .ok (.aload_n 0, 1) := by decide +kernel
theorem dDecreePool_count_53 : decode cDecreePool_count 53 = .ok (.getfield 13, 3) := by decide +kernel
theorem dDecreePool_count_56 : decode cDecreePool_count 56 = .ok (.ireturn, 1) := by decide +kernel
theorem dDecreePool_count_57 : decode cDecreePool_count 57 = .ok (.aload_n 0, 1) := by decide +kernel
theorem dDecreePool_count_58 : decode cDecreePool_count 58 = .ok (.getfield 17, 3) := by decide +kernel
theorem dDecreePool_count_61 : decode cDecreePool_count 61 = .ok (.ireturn, 1) := by decide +kernel
theorem dDecreePool_count_62 : decode cDecreePool_count 62 = .ok (.aload_n 0, 1) := by decide +kernel
theorem dDecreePool_count_63 : decode cDecreePool_count 63 = .ok (.getfield 25, 3) := by decide +kernel
theorem dDecreePool_count_66 : decode cDecreePool_count 66 = .ok (.invokevirtual 161, 3) := by decide +kernel
theorem dDecreePool_count_69 : decode cDecreePool_count 69 = .ok (.ireturn, 1) := by decide +kernel
theorem dDecreePool_count_70 : decode cDecreePool_count 70 = .ok (.aload_n 0, 1) := by decide +kernel
theorem dDecreePool_count_71 : decode cDecreePool_count 71 = .ok (.getfield 55, 3) := by decide +kernel
theorem dDecreePool_count_74 : decode cDecreePool_count 74 = .ok (.ireturn, 1) := by decide +kernel
theorem dDecreePool_count_75 : decode cDecreePool_count 75 = .ok (.aload_n 0, 1) := by decide +kernel
theorem dDecreePool_count_76 : decode cDecreePool_count 76 = .ok (.getfield 58, 3) := by decide +kernel
theorem dDecreePool_count_79 : decode cDecreePool_count 79 = .ok (.ireturn, 1) := by decide +kernel
theorem dDecreePool_count_80 : decode cDecreePool_count 80 = .ok (.aload_n 0, 1) := by decide +kernel
theorem dDecreePool_count_81 : decode cDecreePool_count 81 = .ok (.getfield 52, 3) := by decide +kernel
theorem dDecreePool_count_84 : decode cDecreePool_count 84 = .ok (.ireturn, 1) := by decide +kernel
theorem dDecreePool_count_85 : decode cDecreePool_count 85 = .ok (.iconst (-1), 1) := by decide +kernel
theorem dDecreePool_count_86 : decode cDecreePool_count 86 = .ok (.ireturn, 1) := by decide +kernel
set_option maxRecDepth 100000 in
set_option maxHeartbeats 4000000 in
theorem c_count (l : Launch) (D : va_G) (cI cZ : ClassId) (q : Nat → Nat) (n : Nat) (S : Nat) (P : Nat) (x : St) (wt : Int32) (hn1 : 1 ≤ n) (hn5 : n ≤ 5) (hS1 : 1 ≤ S) (hS4 : S ≤ 4) (hP5 : 5 ≤ P) (hP64 : P ≤ 64) : MI l D [(cI, .int), (cZ, .boolean)] yDecreePool_count wsDecreePool_count ({ frames := 1, cells := 0, slots := 0, locals := 20 }) [.ref (q 0), .int wt] (wX q cI n S P x) (fun r w => r = aCount n S P x wt ∧ w = (wX q cI n S P x)) := by
  intro sz
  refine Met.ofW (cc := cDecreePool_count) (maxL := 2) (ret := (Option.some .int)) (by decide) rfl ?_
  intro p e s m args below meth c s₁ B hml hv
  obtain ⟨rfl, hsz, hP, hK, hD0, hZ⟩ := hv
  have hx := B.exec
  have hb := B.bytes
  have hr := B.returns
  have hts := atoms_spec (ws := wsDecreePool_count) B.pre
  have hown : s.vm.findClass RDecreePool = some m.cls := findClass_of_methodNamed B.named
  have hlocks := B.notSynchronized
  subst hsz
  have hD := hD0.self (sz := s.heap.size)
  generalize hAe : va_A (wX q cI n S P x) s.heap.size = A at hD ⊢
  have hA : ∀ q : Nat, s.heap.size ≤ q → A q := fun q h => by rw [← hAe]; exact Or.inr h
  have hS : va_S A s.heap s.heap [] := va_S.rf
  have hP : va_P D vwCl (wX q cI n S P x) s.heap := hP
  have hl := lv_entry ([.ref (q 0), .int wt]) (n := 2) (Nat.le_of_ble_eq_true rfl)
  rw [lg_entry_eq]
  generalize (lg_sl ([.ref (q 0), .int wt]) ++ List.replicate (2 - (lg_sl ([.ref (q 0), .int wt])).length) Slot.unset).toArray = ls at hl ⊢
  have hl : lv_has ls 2 [(0, .ref (q 0)), (1, .int wt)] := hl
  refine lv_iload_n hx hb dDecreePool_count_0 rfl (lv_at hl 1 rfl) ?_
  by_cases k1_0 : wt = nI 0
  · refine lv_topi (nm_r (k1_0) ?_)
    refine lv_tableIn (tgt := 44) hx hb dDecreePool_count_1 (by decide) (by decide) rfl (by decide) ?_
    refine lv_aload_n hx hb dDecreePool_count_44 rfl (lv_at hl 0 rfl) ?_
    refine va_get (D := D) (ci := 0) (v := .ref (q 1)) (C := RDecreePool) (T := TDecreePool) (N := 9) hx hb hts (fun w h => mc (uDecreePool_in w h)) hown hK hP 0 rfl rfl 2 (by decide) (hts _ (mc wd107)) (fun _ h9 => h9) rfl dDecreePool_count_45 ?_
    have hPc := hP.sub (ws' := (wPo q cI P (x.1 0) (cntx P x))) [1, 2] rfl
    have hDc := hD.sub (ws' := (wPo q cI P (x.1 0) (cntx P x))) [1, 2] (by decide) rfl
    refine kx_i (va_runV (As := []) (rest := []) ⟨hx, hb, hml, hown, hts⟩ ((c_messages l D cI cZ q P (x.1 0) (cntx P x)) s.heap.size) (cwV 0 hts (gV wd392 wd393 wd394 wd2 wd395) rfl rfl rfl (by decide +kernel) ⟨Nat.le_of_ble_eq_true rfl, Nat.le_of_ble_eq_true rfl⟩) ⟨fb_PW, va_recv (q0 := 0) (ci := 1) hK hPc rfl rfl, pre_PW hK hPc hDc hZ⟩ rfl rfl hl.1 rfl (lv_room (Nat.le_of_ble_eq_true rfl)) dDecreePool_count_48 ⟨Nat.zero_le _, Nat.zero_le _⟩) hP hD hS hA [1, 2] [0, 3, 4, 5, 6, 7, 8, 9, 10, 11, 12, 13, 14, 15] rfl rfl (by decide) (by decide) (fun r w1 H locs hw hP hD hS => ?_)
    obtain ⟨rfl, rfl⟩ := hw
    have hP : va_P D vwCl (wX q cI n S P x) H := hP.sub [0, 14, 15, 1, 2, 3, 4, 5, 6, 7, 8, 9, 10, 11, 12, 13] rfl
    have hD : va_D A (wX q cI n S P x) := hD.sub [0, 14, 15, 1, 2, 3, 4, 5, 6, 7, 8, 9, 10, 11, 12, 13] (by decide) rfl
    exact W.iret (v := nI (cntx P x)) hx hb hr (fun t9 ht9 hW9 => ⟨⟨nI (cntx P x), (wX q cI n S P x), rfl, ⟨by unfold aCount; rw [if_pos k1_0], rfl⟩, by rw [ht9]; exact hP, va_K.moved hW9.alike hK, hD⟩, hS.F ht9⟩) hS.2.2 dDecreePool_count_51
  by_cases k1_1 : wt = nI 1
  · refine lv_topi (nm_r (k1_1) ?_)
    refine lv_tableIn (tgt := 52) hx hb dDecreePool_count_1 (by decide) (by decide) rfl (by decide) ?_
    refine lv_aload_n hx hb dDecreePool_count_52 rfl (lv_at hl 0 rfl) ?_
    refine va_get (D := D) (ci := 0) (v := .int (nI n)) (C := RDecreePool) (T := TDecreePool) (N := 9) hx hb hts (fun w h => mc (uDecreePool_in w h)) hown hK hP 0 rfl rfl 0 (by decide) (hts _ (mc wd105)) (fun _ h9 => h9) rfl dDecreePool_count_53 ?_
    exact W.iret (v := nI n) hx hb hr (fun t9 ht9 hW9 => ⟨⟨nI n, (wX q cI n S P x), rfl, ⟨by unfold aCount; rw [if_neg k1_0, if_pos k1_1], rfl⟩, by rw [ht9]; exact hP, va_K.moved hW9.alike hK, hD⟩, hS.F ht9⟩) hS.2.2 dDecreePool_count_56
  by_cases k1_2 : wt = nI 2
  · refine lv_topi (nm_r (k1_2) ?_)
    refine lv_tableIn (tgt := 57) hx hb dDecreePool_count_1 (by decide) (by decide) rfl (by decide) ?_
    refine lv_aload_n hx hb dDecreePool_count_57 rfl (lv_at hl 0 rfl) ?_
    refine va_get (D := D) (ci := 0) (v := .int (nI S)) (C := RDecreePool) (T := TDecreePool) (N := 9) hx hb hts (fun w h => mc (uDecreePool_in w h)) hown hK hP 0 rfl rfl 1 (by decide) (hts _ (mc wd106)) (fun _ h9 => h9) rfl dDecreePool_count_58 ?_
    exact W.iret (v := nI S) hx hb hr (fun t9 ht9 hW9 => ⟨⟨nI S, (wX q cI n S P x), rfl, ⟨by unfold aCount; rw [if_neg k1_0, if_neg k1_1, if_pos k1_2], rfl⟩, by rw [ht9]; exact hP, va_K.moved hW9.alike hK, hD⟩, hS.F ht9⟩) hS.2.2 dDecreePool_count_61
  by_cases k1_3 : wt = nI 3
  · refine lv_topi (nm_r (k1_3) ?_)
    refine lv_tableIn (tgt := 62) hx hb dDecreePool_count_1 (by decide) (by decide) rfl (by decide) ?_
    refine lv_aload_n hx hb dDecreePool_count_62 rfl (lv_at hl 0 rfl) ?_
    refine va_get (D := D) (ci := 0) (v := .ref (q 1)) (C := RDecreePool) (T := TDecreePool) (N := 9) hx hb hts (fun w h => mc (uDecreePool_in w h)) hown hK hP 0 rfl rfl 2 (by decide) (hts _ (mc wd107)) (fun _ h9 => h9) rfl dDecreePool_count_63 ?_
    have hPc := hP.sub (ws' := (wPo q cI P (x.1 0) (cntx P x))) [1, 2] rfl
    have hDc := hD.sub (ws' := (wPo q cI P (x.1 0) (cntx P x))) [1, 2] (by decide) rfl
    refine kx_i (va_runV (As := []) (rest := []) ⟨hx, hb, hml, hown, hts⟩ ((c_places l D cI cZ q P (x.1 0) (cntx P x)) s.heap.size) (cwV 0 hts (gV wd287 wd288 wd289 wd2 wd290) rfl rfl rfl (by decide +kernel) ⟨Nat.le_of_ble_eq_true rfl, Nat.le_of_ble_eq_true rfl⟩) ⟨fb_PW, va_recv (q0 := 0) (ci := 1) hK hPc rfl rfl, pre_PW hK hPc hDc hZ⟩ rfl rfl hl.1 rfl (lv_room (Nat.le_of_ble_eq_true rfl)) dDecreePool_count_66 ⟨Nat.zero_le _, Nat.zero_le _⟩) hP hD hS hA [1, 2] [0, 3, 4, 5, 6, 7, 8, 9, 10, 11, 12, 13, 14, 15] rfl rfl (by decide) (by decide) (fun r w1 H locs hw hP hD hS => ?_)
    obtain ⟨rfl, rfl⟩ := hw
    have hP : va_P D vwCl (wX q cI n S P x) H := hP.sub [0, 14, 15, 1, 2, 3, 4, 5, 6, 7, 8, 9, 10, 11, 12, 13] rfl
    have hD : va_D A (wX q cI n S P x) := hD.sub [0, 14, 15, 1, 2, 3, 4, 5, 6, 7, 8, 9, 10, 11, 12, 13] (by decide) rfl
    exact W.iret (v := nI P) hx hb hr (fun t9 ht9 hW9 => ⟨⟨nI P, (wX q cI n S P x), rfl, ⟨by unfold aCount; rw [if_neg k1_0, if_neg k1_1, if_neg k1_2, if_pos k1_3], rfl⟩, by rw [ht9]; exact hP, va_K.moved hW9.alike hK, hD⟩, hS.F ht9⟩) hS.2.2 dDecreePool_count_69
  by_cases k1_4 : wt = nI 4
  · refine lv_topi (nm_r (k1_4) ?_)
    refine lv_tableIn (tgt := 70) hx hb dDecreePool_count_1 (by decide) (by decide) rfl (by decide) ?_
    refine lv_aload_n hx hb dDecreePool_count_70 rfl (lv_at hl 0 rfl) ?_
    refine va_get (D := D) (ci := 0) (v := .int (x.1 12 0 0)) (C := RDecreePool) (T := TDecreePool) (N := 9) hx hb hts (fun w h => mc (uDecreePool_in w h)) hown hK hP 0 rfl rfl 7 (by decide) (hts _ (mc wd112)) (fun _ h9 => h9) rfl dDecreePool_count_71 ?_
    exact W.iret (v := x.1 12 0 0) hx hb hr (fun t9 ht9 hW9 => ⟨⟨x.1 12 0 0, (wX q cI n S P x), rfl, ⟨by unfold aCount; rw [if_neg k1_0, if_neg k1_1, if_neg k1_2, if_neg k1_3, if_pos k1_4], rfl⟩, by rw [ht9]; exact hP, va_K.moved hW9.alike hK, hD⟩, hS.F ht9⟩) hS.2.2 dDecreePool_count_74
  by_cases k1_5 : wt = nI 5
  · refine lv_topi (nm_r (k1_5) ?_)
    refine lv_tableIn (tgt := 75) hx hb dDecreePool_count_1 (by decide) (by decide) rfl (by decide) ?_
    refine lv_aload_n hx hb dDecreePool_count_75 rfl (lv_at hl 0 rfl) ?_
    refine va_get (D := D) (ci := 0) (v := .int (x.1 12 0 1)) (C := RDecreePool) (T := TDecreePool) (N := 9) hx hb hts (fun w h => mc (uDecreePool_in w h)) hown hK hP 0 rfl rfl 8 (by decide) (hts _ (mc wd113)) (fun _ h9 => h9) rfl dDecreePool_count_76 ?_
    exact W.iret (v := x.1 12 0 1) hx hb hr (fun t9 ht9 hW9 => ⟨⟨x.1 12 0 1, (wX q cI n S P x), rfl, ⟨by unfold aCount; rw [if_neg k1_0, if_neg k1_1, if_neg k1_2, if_neg k1_3, if_neg k1_4, if_pos k1_5], rfl⟩, by rw [ht9]; exact hP, va_K.moved hW9.alike hK, hD⟩, hS.F ht9⟩) hS.2.2 dDecreePool_count_79
  by_cases k1_6 : wt = nI 6
  · refine lv_topi (nm_r (k1_6) ?_)
    refine lv_tableIn (tgt := 80) hx hb dDecreePool_count_1 (by decide) (by decide) rfl (by decide) ?_
    refine lv_aload_n hx hb dDecreePool_count_80 rfl (lv_at hl 0 rfl) ?_
    refine va_get (D := D) (ci := 0) (v := .int (nI (msk (col (x.1 13) 0) n))) (C := RDecreePool) (T := TDecreePool) (N := 9) hx hb hts (fun w h => mc (uDecreePool_in w h)) hown hK hP 0 rfl rfl 6 (by decide) (hts _ (mc wd111)) (fun _ h9 => h9) rfl dDecreePool_count_81 ?_
    exact W.iret (v := nI (msk (col (x.1 13) 0) n)) hx hb hr (fun t9 ht9 hW9 => ⟨⟨nI (msk (col (x.1 13) 0) n), (wX q cI n S P x), rfl, ⟨by unfold aCount; rw [if_neg k1_0, if_neg k1_1, if_neg k1_2, if_neg k1_3, if_neg k1_4, if_neg k1_5, if_pos k1_6], rfl⟩, by rw [ht9]; exact hP, va_K.moved hW9.alike hK, hD⟩, hS.F ht9⟩) hS.2.2 dDecreePool_count_84
  refine lv_tableOut (tgt := 85) hx hb dDecreePool_count_1 (tb_out 0 6 (by intro j h1 h2; rcases (show j = 0 ∨ j = 1 ∨ j = 2 ∨ j = 3 ∨ j = 4 ∨ j = 5 ∨ j = 6 by omega) with rfl | rfl | rfl | rfl | rfl | rfl | rfl <;> assumption)) (by decide) ?_
  refine lv_iconst (v := (-1)) hx hb dDecreePool_count_85 (by decide) ?_
  exact W.iret (v := (-1)) hx hb hr (fun t9 ht9 hW9 => ⟨⟨(-1), (wX q cI n S P x), rfl, ⟨by unfold aCount; rw [if_neg k1_0, if_neg k1_1, if_neg k1_2, if_neg k1_3, if_neg k1_4, if_neg k1_5, if_neg k1_6], rfl⟩, by rw [ht9]; exact hP, va_K.moved hW9.alike hK, hD⟩, hS.F ht9⟩) hS.2.2 dDecreePool_count_86
end
section
theorem app_i {v : Int32} (h : 0 ≤ v) : v - v / nI 2 * nI 2 = 0 ↔ v.toInt % 2 = 0 := by
  obtain ⟨k, hk, rfl⟩ := nI_of (Int32.not_lt.mpr h)
  rw [pk_rem hk (by decide) (by decide), nI_toInt hk, show (0 : Int32) = nI 0 from rfl, nI_eq (by omega) (by decide)]
  omega
theorem app_l {v : Int32} (h : 0 ≤ v) : v.toInt64 - v.toInt64 / 2 * 2 = 0 ↔ v.toInt % 2 = 0 := by
  obtain ⟨k, hk, rfl⟩ := nI_of (Int32.not_lt.mpr h)
  rw [nI_l hk, show (2 : Int64) = lN 2 from rfl, pk_lRem (by omega) (by decide) (by decide), nI_toInt hk, show (0 : Int64) = lN 0 from rfl, lN_eq (by omega) (by decide)]
  omega
theorem app_t {f : Nat → Int32} {i : Nat} (h : (f i).toInt % 2 = 0) : appl f i + (f i).toInt64 = appl f (i + 1) := (if_pos h).symm
theorem app_f {f : Nat → Int32} {i : Nat} (h : ¬ (f i).toInt % 2 = 0) : appl f i * (f i).toInt64 + 1 = appl f (i + 1) := (if_neg h).symm
theorem sSw_e {n P k : Nat} {x : St} (h : ldv n P x P 0 = P) : sSw n P (k + 1) x = (0, x) := by
  show (if ldv n P x P 0 = P then (0, x) else _) = _
  rw [if_pos h]
theorem sSw_s {n P k : Nat} {x : St} (h : ldv n P x P 0 ≠ P) : sSw n P (k + 1) x = ((sSw n P k (sHo n P x (ldv n P x P 0)).2).1 + 1, (sSw n P k (sHo n P x (ldv n P x P 0)).2).2) := by
  show (if ldv n P x P 0 = P then (0, x) else _) = _
  rw [if_neg h]
end
section
theorem dDecreePool_sweep_0 : decode cDecreePool_sweep 0 = .ok (.iload_n 1, 1) := by decide +kernel
theorem dDecreePool_sweep_1 : decode cDecreePool_sweep 1 = .ok (.iconst 0, 1) := by decide +kernel
theorem dDecreePool_sweep_2 : decode cDecreePool_sweep 2 = .ok (.bipush 100, 2) := by decide +kernel
theorem dDecreePool_sweep_4 : decode cDecreePool_sweep 4 = .ok (.invokestatic 7, 3) := by decide +kernel
theorem dDecreePool_sweep_7 : decode cDecreePool_sweep 7 = .ok (.ifCond .ne 5, 3) := by decide +kernel
theorem dDecreePool_sweep_10 : decode cDecreePool_sweep 10 = .ok (.iconst (-1), 1) := by decide +kernel
theorem dDecreePool_sweep_11 : decode cDecreePool_sweep 11 = .ok (.ireturn, 1) := by decide +kernel
theorem dDecreePool_sweep_12 : decode cDecreePool_sweep 12 = .ok (.iconst 0, 1) := by decide +kernel
theorem dDecreePool_sweep_13 : decode cDecreePool_sweep 13 = .ok (.istore_n 2, 1) := by decide +kernel
theorem dDecreePool_sweep_14 : decode cDecreePool_sweep 14 = .ok (.iload_n 2, 1) := by decide +kernel
theorem dDecreePool_sweep_15 : decode cDecreePool_sweep 15 = .ok (.iload_n 1, 1) := by decide +kernel
theorem dDecreePool_sweep_16 : decode cDecreePool_sweep 16 = .ok (.if_icmp .ge 28, 3) := by decide +kernel
theorem dDecreePool_sweep_19 : decode cDecreePool_sweep 19 = .ok (.aload_n 0, 1) := by decide +kernel
theorem dDecreePool_sweep_20 : decode cDecreePool_sweep 20 = .ok (.invokevirtual 98, 3) := by decide +kernel
theorem dDecreePool_sweep_23 : decode cDecreePool_sweep 23 = .ok (.istore_n 3, 1) := by decide +kernel
theorem dDecreePool_sweep_24 : decode cDecreePool_sweep 24 = .ok (.iload_n 3, 1) := by decide +kernel
theorem dDecreePool_sweep_25 : decode cDecreePool_sweep 25 = .ok (.iconst (-1), 1) := by decide +kernel
theorem dDecreePool_sweep_26 : decode cDecreePool_sweep 26 = .ok (.if_icmp .ne 6, 3) := by decide +kernel
theorem dDecreePool_sweep_29 : decode cDecreePool_sweep 29 = .ok (.goto 15, 3) := by decide +kernel
theorem dDecreePool_sweep_32 : decode cDecreePool_sweep 32 = .ok (.aload_n 0, 1) := by decide +kernel
theorem dDecreePool_sweep_33 : decode cDecreePool_sweep 33 = .ok (.iload_n 3, 1) := by decide +kernel
theorem dDecreePool_sweep_34 : decode cDecreePool_sweep 34 = .ok (.invokevirtual 95, 3) := by decide +kernel
theorem dDecreePool_sweep_37 : decode cDecreePool_sweep 37 = .ok (.pop, 1) := by decide +kernel
theorem dDecreePool_sweep_38 : decode cDecreePool_sweep 38 = .ok (.iinc 2  1, 3) := by decide +kernel
theorem dDecreePool_sweep_41 : decode cDecreePool_sweep 41 = .ok (.goto (-27), 3) := by decide +kernel
theorem dDecreePool_sweep_44 : decode cDecreePool_sweep 44 = .ok (.iload_n 2, 1) := by decide +kernel
theorem dDecreePool_sweep_45 : decode cDecreePool_sweep 45 = .ok (.ireturn, 1) := by decide +kernel
set_option maxRecDepth 100000 in
set_option maxHeartbeats 4000000 in
theorem c_sweep (l : Launch) (D : va_G) (cI cZ : ClassId) (q : Nat → Nat) (n : Nat) (S : Nat) (P : Nat) (x : St) (v : Int32) (hn1 : 1 ≤ n) (hn5 : n ≤ 5) (hS1 : 1 ≤ S) (hS4 : S ≤ 4) (hP5 : 5 ≤ P) (hP64 : P ≤ 64) (hIn : Inv n S x) : MI l D [(cI, .int), (cZ, .boolean)] yDecreePool_sweep wsDecreePool_sweep ({ frames := 5, cells := 0, slots := 0, locals := 127 }) [.ref (q 0), .int v] (wX q cI n S P x) (fun r w => r = (sSweep n P x v).1 ∧ w = (wX q cI n S P (sSweep n P x v).2)) := by
  intro sz
  refine Met.ofW (cc := cDecreePool_sweep) (maxL := 4) (ret := (Option.some .int)) (by decide) rfl ?_
  intro p e s m args below meth c s₁ B hml hv
  obtain ⟨rfl, hsz, hP, hK, hD0, hZ⟩ := hv
  have hx := B.exec
  have hb := B.bytes
  have hr := B.returns
  have hts := atoms_spec (ws := wsDecreePool_sweep) B.pre
  have hown : s.vm.findClass RDecreePool = some m.cls := findClass_of_methodNamed B.named
  have hlocks := B.notSynchronized
  subst hsz
  have hD := hD0.self (sz := s.heap.size)
  generalize hAe : va_A (wX q cI n S P x) s.heap.size = A at hD ⊢
  have hA : ∀ q : Nat, s.heap.size ≤ q → A q := fun q h => by rw [← hAe]; exact Or.inr h
  have hS : va_S A s.heap s.heap [] := va_S.rf
  have hP : va_P D vwCl (wX q cI n S P x) s.heap := hP
  have hl := lv_entry ([.ref (q 0), .int v]) (n := 4) (Nat.le_of_ble_eq_true rfl)
  rw [lg_entry_eq]
  generalize (lg_sl ([.ref (q 0), .int v]) ++ List.replicate (4 - (lg_sl ([.ref (q 0), .int v])).length) Slot.unset).toArray = ls at hl ⊢
  have hl : lv_has ls 4 [(0, .ref (q 0)), (1, .int v)] := hl
  refine lv_iload_n hx hb dDecreePool_sweep_0 rfl (lv_at hl 1 rfl) ?_
  refine lv_iconst (v := nI 0) hx hb dDecreePool_sweep_1 (by decide) ?_
  refine lv_bipush (v := nI 100) hx hb dDecreePool_sweep_2 (by decide) ?_
  have hPc := hP.sub (ws' := ([] : va_W)) [] rfl
  have hDc := hD.sub (ws' := ([] : va_W)) [] (by decide) rfl
  refine kx_i (va_runS (As := [.int v, .int (nI 0), .int (nI 100)]) (rest := []) ⟨hx, hb, hml, hown, hts⟩ ((c_isWithin l D cI cZ v (nI 0) (nI 100)) s.heap.size) (va_cwS 3 hts (gS wd17 wd18 wd1 wd19) rfl rfl rfl (by decide +kernel) ⟨Nat.le_of_ble_eq_true rfl, Nat.le_of_ble_eq_true rfl⟩) ⟨fb_PW, pre_PW hK hPc hDc hZ⟩ rfl rfl hl.1 rfl (lv_room (Nat.le_of_ble_eq_true rfl)) dDecreePool_sweep_4 ⟨Nat.zero_le _, Nat.zero_le _⟩) hP hD hS hA [] [0, 1, 2, 3, 4, 5, 6, 7, 8, 9, 10, 11, 12, 13, 14, 15] rfl rfl (by decide) (by decide) (fun r w1 H locs hw hP hD hS => ?_)
  rcases hw with ⟨rfl, h4, rfl⟩ | ⟨rfl, h4, rfl⟩
  · have hP : va_P D vwCl (wX q cI n S P x) H := hP
    have hD : va_D A (wX q cI n S P x) := hD
    obtain ⟨kk, hkk, rfl⟩ := wi_of (P := 101) (by decide) (by decide) h4
    refine lv_if_ne (tgt := 12) hx hb dDecreePool_sweep_7 (by decide) (fun _ => ?_) (fun h9 => absurd h9 (by decide))
    refine lv_iconst (v := nI 0) hx hb dDecreePool_sweep_12 (by decide) ?_
    refine lv_istore_n hx hb dDecreePool_sweep_13 rfl hl (by decide) rfl (fun ls hl => ?_)
    have hl : lv_has ls 4 [(2, .int (nI 0)), (0, .ref (q 0)), (1, .int (nI kk))] := hl
    have loop14 : ∀ (d14 i : Nat) (y : St) (ls : Array Slot) (H : Heap) (locs : List Loc), i + d14 = kk → Inv n S y → i + (sSw n P d14 y).1 = (sSw n P kk x).1 ∧ (sSw n P d14 y).2 = (sSw n P kk x).2 → lv_has ls 4 [(2, .int (nI i)), (0, .ref (q 0)), (1, .int (nI kk))] → va_P D vwCl (wX q cI n S P y) H → va_D A (wX q cI n S P y) → va_S A s.heap H locs → W p l e (headSpec wsDecreePool_sweep { frames := 5, cells := 0, slots := 0, locals := 127 }).room s m [.ref (q 0), .int (nI kk)].toArray below meth c H locs 0 0 (MQ below (va_Qi (fun r w => r = (sSweep n P x (nI kk)).1 ∧ w = (wX q cI n S P (sSweep n P x (nI kk)).2)) (QW D [(cI, .int), (cZ, .boolean)] A) A) [.ref (q 0), .int (nI kk)].toArray s 0 0 A) (F0 m 14 ls []) := by
      intro d14
      induction d14 with
      | zero =>
        intro i y ls H locs hid14 hInv hR hl hP hD hS
        refine lv_iload_n hx hb dDecreePool_sweep_14 rfl (lv_at hl 0 rfl) ?_
        refine lv_iload_n hx hb dDecreePool_sweep_15 rfl (lv_at hl 2 rfl) ?_
        refine lv_icmp_ge (tgt := 44) hx hb dDecreePool_sweep_16 (by decide) (fun _ => ?_) (fun h9 => absurd (nI_le (by omega) (by omega)) h9)
        refine lv_iload_n hx hb dDecreePool_sweep_44 rfl (lv_at hl 0 rfl) ?_
        have hi1 : i = (sSw n P kk x).1 := hR.1
        have hy1 : y = (sSw n P kk x).2 := hR.2
        have hres : sSweep n P x (nI kk) = (nI (sSw n P kk x).1, (sSw n P kk x).2) := by
          unfold sSweep
          rw [if_pos (show 0 ≤ nI kk ∧ nI kk ≤ nI 100 from h4), ix_nI hkk (by omega)]
        exact W.iret (v := nI i) hx hb hr (fun t9 ht9 hW9 => ⟨⟨nI i, (wX q cI n S P y), rfl, ⟨by rw [hres]; exact congrArg nI hi1, by rw [hres, ← hy1]⟩, by rw [ht9]; exact hP, va_K.moved hW9.alike hK, hD⟩, hS.F ht9⟩) hS.2.2 dDecreePool_sweep_45
      | succ d14 ih14 =>
        intro i y ls H locs hid14 hInv hR hl hP hD hS
        refine lv_iload_n hx hb dDecreePool_sweep_14 rfl (lv_at hl 0 rfl) ?_
        refine lv_iload_n hx hb dDecreePool_sweep_15 rfl (lv_at hl 2 rfl) ?_
        refine lv_icmp_ge (tgt := 44) hx hb dDecreePool_sweep_16 (by decide) (fun h9 => absurd h9 (nI_ge (by omega) (by omega))) (fun _ => ?_)
        refine lv_aload_n hx hb dDecreePool_sweep_19 rfl (lv_at hl 1 rfl) ?_
        have hPc := hP.sub (ws' := (wX q cI n S P y)) [0, 1, 2, 3, 4, 5, 6, 7, 8, 9, 10, 11, 12, 13, 14, 15] rfl
        have hDc := hD.sub (ws' := (wX q cI n S P y)) [0, 1, 2, 3, 4, 5, 6, 7, 8, 9, 10, 11, 12, 13, 14, 15] (by decide) rfl
        refine kx_i (va_runV (As := []) (rest := []) ⟨hx, hb, hml, hown, hts⟩ ((c_leastDeliverable l D cI cZ q n S P y (hn1) (hn5) (hS1) (hS4) (hP5) (hP64) (hInv.1) (hInv.2.2.2.2)) H.size) (cwV 0 hts (gV wd283 wd285 sl_DecreePool_leastDeliverable wd1 wd286) rfl rfl rfl (by decide +kernel) ⟨Nat.le_of_ble_eq_true rfl, Nat.le_of_ble_eq_true rfl⟩) ⟨fb_PW, va_recv (q0 := 0) (ci := 0) hK hPc rfl rfl, pre_PW hK hPc hDc hZ⟩ rfl rfl hl.1 rfl (lv_room (Nat.le_of_ble_eq_true rfl)) dDecreePool_sweep_20 ⟨Nat.zero_le _, Nat.zero_le _⟩) hP hD hS hA [0, 1, 2, 3, 4, 5, 6, 7, 8, 9, 10, 11, 12, 13, 14, 15] [] rfl rfl (by decide) (by decide) (fun r w1 H locs hw hP hD hS => ?_)
        rcases hw with ⟨rfl, h20, rfl⟩ | ⟨rfl, h20, rfl⟩
        · have hP : va_P D vwCl (wX q cI n S P y) H := hP
          have hD : va_D A (wX q cI n S P y) := hD
          have hsp := (ldv_spec n P y P 0).2.2.2 (by omega)
          refine lv_istore_n hx hb dDecreePool_sweep_23 rfl hl (by decide) rfl (fun ls hl => ?_)
          have hl : lv_has ls 4 [(3, .int (nI (ldv n P y P 0))), (2, .int (nI i)), (0, .ref (q 0)), (1, .int (nI kk))] := hl
          refine lv_iload_n hx hb dDecreePool_sweep_24 rfl (lv_at hl 0 rfl) ?_
          refine lv_iconst (v := (-1)) hx hb dDecreePool_sweep_25 (by decide) ?_
          refine lv_icmp_ne (tgt := 32) hx hb dDecreePool_sweep_26 (by decide) (fun _ => ?_) (fun h9 => absurd h9 (nI_nm1 (by omega)))
          refine lv_aload_n hx hb dDecreePool_sweep_32 rfl (lv_at hl 2 rfl) ?_
          refine lv_iload_n hx hb dDecreePool_sweep_33 rfl (lv_at hl 0 rfl) ?_
          have hPc := hP.sub (ws' := (wX q cI n S P y)) [0, 1, 2, 3, 4, 5, 6, 7, 8, 9, 10, 11, 12, 13, 14, 15] rfl
          have hDc := hD.sub (ws' := (wX q cI n S P y)) [0, 1, 2, 3, 4, 5, 6, 7, 8, 9, 10, 11, 12, 13, 14, 15] (by decide) rfl
          refine kx_i (va_runV (As := [.int (nI (ldv n P y P 0))]) (rest := []) ⟨hx, hb, hml, hown, hts⟩ ((c_handOver l D cI cZ q n S P y (ldv n P y P 0) (hn1) (hn5) (hS1) (hS4) (hP5) (hP64) (h20) (hInv.1 _ hsp.1) (hInv.2.2.2.2) (hsp.1) (hsp.2)) H.size) (cwV 1 hts (gV wd224 wd226 sl_DecreePool_handOver wd1 wd227) rfl rfl rfl (by decide +kernel) ⟨Nat.le_of_ble_eq_true rfl, Nat.le_of_ble_eq_true rfl⟩) ⟨fb_PW, va_recv (q0 := 0) (ci := 0) hK hPc rfl rfl, pre_PW hK hPc hDc hZ⟩ rfl rfl hl.1 rfl (lv_room (Nat.le_of_ble_eq_true rfl)) dDecreePool_sweep_34 ⟨Nat.zero_le _, Nat.zero_le _⟩) hP hD hS hA [0, 1, 2, 3, 4, 5, 6, 7, 8, 9, 10, 11, 12, 13, 14, 15] [] rfl rfl (by decide) (by decide) (fun r w1 H locs hw hP hD hS => ?_)
          obtain ⟨rfl, rfl⟩ := hw
          have hP : va_P D vwCl (wX q cI n S P ((sHo n P y (ldv n P y P 0)).2)) H := hP
          have hD : va_D A (wX q cI n S P ((sHo n P y (ldv n P y P 0)).2)) := hD
          refine lv_pop hx hb dDecreePool_sweep_37 rfl ?_
          refine lv_iinc (k := 1) (v := nI (i + 1)) hx hb dDecreePool_sweep_38 hl rfl ((nI_succ _).symm) (by decide) rfl (fun ls hl => ?_)
          have hl : lv_has ls 4 [(2, .int (nI (i + 1))), (3, .int (nI (ldv n P y P 0))), (0, .ref (q 0)), (1, .int (nI kk))] := hl
          refine lv_goto (tgt := 14) hx hb dDecreePool_sweep_41 (by decide) ?_
          exact ih14 (i + 1) ((sHo n P y (ldv n P y P 0)).2) ls H locs (by omega) (Inv_ho hn5 hS4 hInv hsp.1) (by rw [sSw_s (Nat.ne_of_lt h20)] at hR; exact ⟨by have h7 := hR.1; simp only at h7; omega, hR.2⟩) (lv_sub hl [0, 2, 3] rfl) hP hD hS
        · have hP : va_P D vwCl (wX q cI n S P y) H := hP
          have hD : va_D A (wX q cI n S P y) := hD
          refine lv_istore_n hx hb dDecreePool_sweep_23 rfl hl (by decide) rfl (fun ls hl => ?_)
          have hl : lv_has ls 4 [(3, .int (-1)), (2, .int (nI i)), (0, .ref (q 0)), (1, .int (nI kk))] := hl
          refine lv_iload_n hx hb dDecreePool_sweep_24 rfl (lv_at hl 0 rfl) ?_
          refine lv_iconst (v := (-1)) hx hb dDecreePool_sweep_25 (by decide) ?_
          refine lv_icmp_ne (tgt := 32) hx hb dDecreePool_sweep_26 (by decide) (fun h9 => absurd (by decide) h9) (fun _ => ?_)
          refine lv_goto (tgt := 44) hx hb dDecreePool_sweep_29 (by decide) ?_
          refine lv_iload_n hx hb dDecreePool_sweep_44 rfl (lv_at hl 1 rfl) ?_
          rw [sSw_e h20] at hR
          have hi1 : i = (sSw n P kk x).1 := hR.1
          have hy1 : y = (sSw n P kk x).2 := hR.2
          have hres : sSweep n P x (nI kk) = (nI (sSw n P kk x).1, (sSw n P kk x).2) := by
            unfold sSweep
            rw [if_pos (show 0 ≤ nI kk ∧ nI kk ≤ nI 100 from h4), ix_nI hkk (by omega)]
          exact W.iret (v := nI i) hx hb hr (fun t9 ht9 hW9 => ⟨⟨nI i, (wX q cI n S P y), rfl, ⟨by rw [hres]; exact congrArg nI hi1, by rw [hres, ← hy1]⟩, by rw [ht9]; exact hP, va_K.moved hW9.alike hK, hD⟩, hS.F ht9⟩) hS.2.2 dDecreePool_sweep_45
    exact loop14 kk 0 x ls H locs (by omega) (hIn) (⟨Nat.zero_add _, rfl⟩) hl hP hD hS
  · have hP : va_P D vwCl (wX q cI n S P x) H := hP
    have hD : va_D A (wX q cI n S P x) := hD
    refine lv_if_ne (tgt := 12) hx hb dDecreePool_sweep_7 (by decide) (fun h9 => absurd (by decide) h9) (fun _ => ?_)
    refine lv_iconst (v := (-1)) hx hb dDecreePool_sweep_10 (by decide) ?_
    exact W.iret (v := (-1)) hx hb hr (fun t9 ht9 hW9 => ⟨⟨(-1), (wX q cI n S P x), rfl, fin2 (if_neg h4), by rw [ht9]; exact hP, va_K.moved hW9.alike hK, hD⟩, hS.F ht9⟩) hS.2.2 dDecreePool_sweep_11
theorem dDecreePool_applied_0 : decode cDecreePool_applied 0 = .ok (.aload_n 0, 1) := by decide +kernel
theorem dDecreePool_applied_1 : decode cDecreePool_applied 1 = .ok (.iload_n 1, 1) := by decide +kernel
theorem dDecreePool_applied_2 : decode cDecreePool_applied 2 = .ok (.invokevirtual 110, 3) := by decide +kernel
theorem dDecreePool_applied_5 : decode cDecreePool_applied 5 = .ok (.ifCond .ne 5, 3) := by decide +kernel
theorem dDecreePool_applied_8 : decode cDecreePool_applied 8 = .ok (.lconst 0, 1) := by decide +kernel
theorem dDecreePool_applied_9 : decode cDecreePool_applied 9 = .ok (.lreturn, 1) := by decide +kernel
theorem dDecreePool_applied_10 : decode cDecreePool_applied 10 = .ok (.lconst 0, 1) := by decide +kernel
theorem dDecreePool_applied_11 : decode cDecreePool_applied 11 = .ok (.lstore_n 2, 1) := by decide +kernel
theorem dDecreePool_applied_12 : decode cDecreePool_applied 12 = .ok (.aload_n 0, 1) := by decide +kernel
theorem dDecreePool_applied_13 : decode cDecreePool_applied 13 = .ok (.iload_n 1, 1) := by decide +kernel
theorem dDecreePool_applied_14 : decode cDecreePool_applied 14 = .ok (.invokevirtual 155, 3) := by decide +kernel
theorem dDecreePool_applied_17 : decode cDecreePool_applied 17 = .ok (.istore 4, 2) := by decide +kernel
theorem dDecreePool_applied_19 : decode cDecreePool_applied 19 = .ok (.iconst 0, 1) := by decide +kernel
theorem dDecreePool_applied_20 : decode cDecreePool_applied 20 = .ok (.istore 5, 2) := by decide +kernel
theorem dDecreePool_applied_22 : decode cDecreePool_applied 22 = .ok (.iload 5, 2) := by decide +kernel
theorem dDecreePool_applied_24 : decode cDecreePool_applied 24 = .ok (.iload 4, 2) := by decide +kernel
theorem dDecreePool_applied_26 : decode cDecreePool_applied 26 = .ok (.if_icmp .ge 48, 3) := by decide +kernel
theorem dDecreePool_applied_29 : decode cDecreePool_applied 29 = .ok (.aload_n 0, 1) := by decide +kernel
theorem dDecreePool_applied_30 : decode cDecreePool_applied 30 = .ok (.getfield 48, 3) := by decide +kernel
theorem dDecreePool_applied_33 : decode cDecreePool_applied 33 = .ok (.aload_n 0, 1) := by decide +kernel
theorem dDecreePool_applied_34 : decode cDecreePool_applied 34 = .ok (.iload_n 1, 1) := by decide +kernel
theorem dDecreePool_applied_35 : decode cDecreePool_applied 35 = .ok (.iload 5, 2) := by decide +kernel
theorem dDecreePool_applied_37 : decode cDecreePool_applied 37 = .ok (.invokevirtual 69, 3) := by decide +kernel
theorem dDecreePool_applied_40 : decode cDecreePool_applied 40 = .ok (.invokevirtual 122, 3) := by decide +kernel
theorem dDecreePool_applied_43 : decode cDecreePool_applied 43 = .ok (.istore 6, 2) := by decide +kernel
theorem dDecreePool_applied_45 : decode cDecreePool_applied 45 = .ok (.iload 6, 2) := by decide +kernel
theorem dDecreePool_applied_47 : decode cDecreePool_applied 47 = .ok (.iconst 2, 1) := by decide +kernel
theorem dDecreePool_applied_48 : decode cDecreePool_applied 48 = .ok (.irem, 1) := by decide +kernel
theorem dDecreePool_applied_49 : decode cDecreePool_applied 49 = .ok (.ifCond .ne 11, 3) := by decide +kernel
theorem dDecreePool_applied_52 : decode cDecreePool_applied 52 = .ok (.lload_n 2, 1) := by decide +kernel
theorem dDecreePool_applied_53 : decode cDecreePool_applied 53 = .ok (.iload 6, 2) := by decide +kernel
theorem dDecreePool_applied_55 : decode cDecreePool_applied 55 = .ok (.i2l, 1) := by decide +kernel
theorem dDecreePool_applied_56 : decode cDecreePool_applied 56 = .ok (.ladd, 1) := by decide +kernel
theorem dDecreePool_applied_57 : decode cDecreePool_applied 57 = .ok (.goto 10, 3) := by decide +kernel
theorem dDecreePool_applied_60 : decode cDecreePool_applied 60 = .ok (.lload_n 2, 1) := by decide +kernel
theorem dDecreePool_applied_61 : decode cDecreePool_applied 61 = .ok (.iload 6, 2) := by decide +kernel
theorem dDecreePool_applied_63 : decode cDecreePool_applied 63 = .ok (.i2l, 1) := by decide +kernel
theorem dDecreePool_applied_64 : decode cDecreePool_applied 64 = .ok (.lmul, 1) := by decide +kernel
theorem dDecreePool_applied_65 : decode cDecreePool_applied 65 = .ok (.lconst 1, 1) := by decide +kernel
theorem dDecreePool_applied_66 : decode cDecreePool_applied 66 = .ok (.ladd, 1) := by decide +kernel
theorem dDecreePool_applied_67 : decode cDecreePool_applied 67 = .ok (.lstore_n 2, 1) := by decide +kernel
theorem dDecreePool_applied_68 : decode cDecreePool_applied 68 = .ok (.iinc 5  1, 3) := by decide +kernel
theorem dDecreePool_applied_71 : decode cDecreePool_applied 71 = .ok (.goto (-49), 3) := by decide +kernel
theorem dDecreePool_applied_74 : decode cDecreePool_applied 74 = .ok (.lload_n 2, 1) := by decide +kernel
theorem dDecreePool_applied_75 : decode cDecreePool_applied 75 = .ok (.lreturn, 1) := by decide +kernel
set_option maxRecDepth 100000 in
set_option maxHeartbeats 4000000 in
theorem c_applied (l : Launch) (D : va_G) (cI cZ : ClassId) (q : Nat → Nat) (n : Nat) (S : Nat) (P : Nat) (x : St) (nd : Int32) (hn1 : 1 ≤ n) (hn5 : n ≤ 5) (hS1 : 1 ≤ S) (hS4 : S ≤ 4) (hP5 : 5 ≤ P) (hP64 : P ≤ 64) (hIv : Ival x) : ML l D [(cI, .int), (cZ, .boolean)] yDecreePool_applied wsDecreePool_applied ({ frames := 2, cells := 0, slots := 0, locals := 44 }) [.ref (q 0), .int nd] (wX q cI n S P x) (fun r w => r = aApp n S x nd ∧ w = (wX q cI n S P x)) := by
  intro sz
  refine Met.ofW (cc := cDecreePool_applied) (maxL := 7) (ret := (Option.some .long)) (by decide) rfl ?_
  intro p e s m args below meth c s₁ B hml hv
  obtain ⟨rfl, hsz, hP, hK, hD0, hZ⟩ := hv
  have hx := B.exec
  have hb := B.bytes
  have hr := B.returns
  have hts := atoms_spec (ws := wsDecreePool_applied) B.pre
  have hown : s.vm.findClass RDecreePool = some m.cls := findClass_of_methodNamed B.named
  have hlocks := B.notSynchronized
  subst hsz
  have hD := hD0.self (sz := s.heap.size)
  generalize hAe : va_A (wX q cI n S P x) s.heap.size = A at hD ⊢
  have hA : ∀ q : Nat, s.heap.size ≤ q → A q := fun q h => by rw [← hAe]; exact Or.inr h
  have hS : va_S A s.heap s.heap [] := va_S.rf
  have hP : va_P D vwCl (wX q cI n S P x) s.heap := hP
  have hl := lv_entry ([.ref (q 0), .int nd]) (n := 7) (Nat.le_of_ble_eq_true rfl)
  rw [lg_entry_eq]
  generalize (lg_sl ([.ref (q 0), .int nd]) ++ List.replicate (7 - (lg_sl ([.ref (q 0), .int nd])).length) Slot.unset).toArray = ls at hl ⊢
  have hl : lv_has ls 7 [(0, .ref (q 0)), (1, .int nd)] := hl
  refine lv_aload_n hx hb dDecreePool_applied_0 rfl (lv_at hl 0 rfl) ?_
  refine lv_iload_n hx hb dDecreePool_applied_1 rfl (lv_at hl 1 rfl) ?_
  have hPc := hP.sub (ws' := (wX q cI n S P x)) [0, 1, 2, 3, 4, 5, 6, 7, 8, 9, 10, 11, 12, 13, 14, 15] rfl
  have hDc := hD.sub (ws' := (wX q cI n S P x)) [0, 1, 2, 3, 4, 5, 6, 7, 8, 9, 10, 11, 12, 13, 14, 15] (by decide) rfl
  refine kx_i (va_runV (As := [.int nd]) (rest := []) ⟨hx, hb, hml, hown, hts⟩ ((c_hasNode l D cI cZ q n S P x nd (hn1) (hn5) (hS1) (hS4) (hP5) (hP64)) s.heap.size) (cwV 1 hts (gV wd141 wd143 sl_DecreePool_hasNode wd1 wd144) rfl rfl rfl (by decide +kernel) ⟨Nat.le_of_ble_eq_true rfl, Nat.le_of_ble_eq_true rfl⟩) ⟨fb_PW, va_recv (q0 := 0) (ci := 0) hK hPc rfl rfl, pre_PW hK hPc hDc hZ⟩ rfl rfl hl.1 rfl (lv_room (Nat.le_of_ble_eq_true rfl)) dDecreePool_applied_2 ⟨Nat.zero_le _, Nat.zero_le _⟩) hP hD hS hA [0, 1, 2, 3, 4, 5, 6, 7, 8, 9, 10, 11, 12, 13, 14, 15] [] rfl rfl (by decide) (by decide) (fun r w1 H locs hw hP hD hS => ?_)
  rcases hw with ⟨rfl, h2, rfl⟩ | ⟨rfl, h2, rfl⟩
  · have hP : va_P D vwCl (wX q cI n S P x) H := hP
    have hD : va_D A (wX q cI n S P x) := hD
    obtain ⟨a, ha, rfl⟩ := okN_of (show n < 2 ^ 31 by omega) h2
    refine lv_if_ne (tgt := 10) hx hb dDecreePool_applied_5 (by decide) (fun _ => ?_) (fun h9 => absurd h9 (by decide))
    refine lv_lconst (v := 0) hx hb dDecreePool_applied_10 (by decide) ?_
    refine lv_lstore_n hx hb dDecreePool_applied_11 rfl hl (by decide) rfl (fun ls hl => ?_)
    have hl : lv_has ls 7 [(2, .long 0), (0, .ref (q 0)), (1, .int (nI a))] := hl
    refine lv_aload_n hx hb dDecreePool_applied_12 rfl (lv_at hl 1 rfl) ?_
    refine lv_iload_n hx hb dDecreePool_applied_13 rfl (lv_at hl 2 rfl) ?_
    have hPc := hP.sub (ws' := (wX q cI n S P x)) [0, 1, 2, 3, 4, 5, 6, 7, 8, 9, 10, 11, 12, 13, 14, 15] rfl
    have hDc := hD.sub (ws' := (wX q cI n S P x)) [0, 1, 2, 3, 4, 5, 6, 7, 8, 9, 10, 11, 12, 13, 14, 15] (by decide) rfl
    refine kx_i (va_runV (As := [.int (nI a)]) (rest := []) ⟨hx, hb, hml, hown, hts⟩ ((c_pfxLength l D cI cZ q n S P x a (hn1) (hn5) (hS1) (hS4) (hP5) (hP64) (ha)) H.size) (cwV 1 hts (gV wd380 wd382 sl_DecreePool_prefixLength wd1 wd383) rfl rfl rfl (by decide +kernel) ⟨Nat.le_of_ble_eq_true rfl, Nat.le_of_ble_eq_true rfl⟩) ⟨fb_PW, va_recv (q0 := 0) (ci := 0) hK hPc rfl rfl, pre_PW hK hPc hDc hZ⟩ rfl rfl hl.1 rfl (lv_room (Nat.le_of_ble_eq_true rfl)) dDecreePool_applied_14 ⟨Nat.zero_le _, Nat.zero_le _⟩) hP hD hS hA [0, 1, 2, 3, 4, 5, 6, 7, 8, 9, 10, 11, 12, 13, 14, 15] [] rfl rfl (by decide) (by decide) (fun r w1 H locs hw hP hD hS => ?_)
    obtain ⟨rfl, rfl⟩ := hw
    have hP : va_P D vwCl (wX q cI n S P x) H := hP
    have hD : va_D A (wX q cI n S P x) := hD
    refine lv_istore hx hb dDecreePool_applied_17 hl (by decide) rfl (fun ls hl => ?_)
    have hl : lv_has ls 7 [(4, .int (nI (lst (x.1 11 a) S 0))), (2, .long 0), (0, .ref (q 0)), (1, .int (nI a))] := hl
    have hPF : lst (x.1 11 a) S 0 ≤ S := by have h7 := (lst_spec (x.1 11 a) S 0).2.1; omega
    refine lv_iconst (v := nI 0) hx hb dDecreePool_applied_19 (by decide) ?_
    refine lv_istore hx hb dDecreePool_applied_20 hl (by decide) rfl (fun ls hl => ?_)
    have hl : lv_has ls 7 [(5, .int (nI 0)), (4, .int (nI (lst (x.1 11 a) S 0))), (2, .long 0), (0, .ref (q 0)), (1, .int (nI a))] := hl
    have loop22 : ∀ (d22 i : Nat) (ls : Array Slot) (H : Heap) (locs : List Loc), i + d22 = lst (x.1 11 a) S 0 → lv_has ls 7 [(5, .int (nI i)), (4, .int (nI (lst (x.1 11 a) S 0))), (2, .long (appl (x.1 11 a) i)), (0, .ref (q 0)), (1, .int (nI a))] → va_P D vwCl (wX q cI n S P x) H → va_D A (wX q cI n S P x) → va_S A s.heap H locs → W p l e (headSpec wsDecreePool_applied { frames := 2, cells := 0, slots := 0, locals := 44 }).room s m [.ref (q 0), .int (nI a)].toArray below meth c H locs 0 0 (MQ below (va_Ql (fun r w => r = aApp n S x (nI a) ∧ w = (wX q cI n S P x)) (QW D [(cI, .int), (cZ, .boolean)] A) A) [.ref (q 0), .int (nI a)].toArray s 0 0 A) (F0 m 22 ls []) := by
      intro d22
      induction d22 with
      | zero =>
        intro i ls H locs hid22  hl hP hD hS
        refine lv_iload hx hb dDecreePool_applied_22 (lv_at hl 0 rfl) ?_
        refine lv_iload hx hb dDecreePool_applied_24 (lv_at hl 1 rfl) ?_
        refine lv_icmp_ge (tgt := 74) hx hb dDecreePool_applied_26 (by decide) (fun _ => ?_) (fun h9 => absurd (nI_le (by omega) (by omega)) h9)
        refine lv_lload_n hx hb dDecreePool_applied_74 rfl (lv_at hl 2 rfl) ?_
        have hin : i = lst (x.1 11 a) S 0 := by omega
        rw [hin]
        exact W.lret (v := appl (x.1 11 a) (lst (x.1 11 a) S 0)) hx hb hr (fun t9 ht9 hW9 => ⟨⟨appl (x.1 11 a) (lst (x.1 11 a) S 0), (wX q cI n S P x), rfl, ⟨by unfold aApp; rw [if_pos h2, ix_nI ha (by omega)], rfl⟩, by rw [ht9]; exact hP, va_K.moved hW9.alike hK, hD⟩, hS.F ht9⟩) hS.2.2 dDecreePool_applied_75
      | succ d22 ih22 =>
        intro i ls H locs hid22  hl hP hD hS
        refine lv_iload hx hb dDecreePool_applied_22 (lv_at hl 0 rfl) ?_
        refine lv_iload hx hb dDecreePool_applied_24 (lv_at hl 1 rfl) ?_
        refine lv_icmp_ge (tgt := 74) hx hb dDecreePool_applied_26 (by decide) (fun h9 => absurd h9 (nI_ge (by omega) (by omega))) (fun _ => ?_)
        refine lv_aload_n hx hb dDecreePool_applied_29 rfl (lv_at hl 3 rfl) ?_
        refine va_get (D := D) (ci := 0) (v := .ref (q 13)) (C := RDecreePool) (T := TDecreePool) (N := 9) hx hb hts (fun w h => mc (uDecreePool_in w h)) hown hK hP 0 rfl rfl 5 (by decide) (hts _ (mc wd110)) (fun _ h9 => h9) rfl dDecreePool_applied_30 ?_
        refine lv_aload_n hx hb dDecreePool_applied_33 rfl (lv_at hl 3 rfl) ?_
        refine lv_iload_n hx hb dDecreePool_applied_34 rfl (lv_at hl 4 rfl) ?_
        refine lv_iload hx hb dDecreePool_applied_35 (lv_at hl 0 rfl) ?_
        have hPc := hP.sub (ws' := (wX q cI n S P x)) [0, 1, 2, 3, 4, 5, 6, 7, 8, 9, 10, 11, 12, 13, 14, 15] rfl
        have hDc := hD.sub (ws' := (wX q cI n S P x)) [0, 1, 2, 3, 4, 5, 6, 7, 8, 9, 10, 11, 12, 13, 14, 15] (by decide) rfl
        refine kx_i (va_runV (As := [.int (nI a), .int (nI i)]) (rest := [.ref (q 13)]) ⟨hx, hb, hml, hown, hts⟩ ((c_seatOf l D cI cZ q n S P x a i (hn1) (hn5) (hS1) (hS4) (hP5) (hP64)) H.size) (cwV 2 hts (gV wd153 wd155 sl_DecreePool_seatOf wd1 wd156) rfl rfl rfl (by decide +kernel) ⟨Nat.le_of_ble_eq_true rfl, Nat.le_of_ble_eq_true rfl⟩) ⟨fb_PW, va_recv (q0 := 0) (ci := 0) hK hPc rfl rfl, pre_PW hK hPc hDc hZ⟩ rfl rfl hl.1 rfl (lv_room (Nat.le_of_ble_eq_true rfl)) dDecreePool_applied_37 ⟨Nat.zero_le _, Nat.zero_le _⟩) hP hD hS hA [0, 1, 2, 3, 4, 5, 6, 7, 8, 9, 10, 11, 12, 13, 14, 15] [] rfl rfl (by decide) (by decide) (fun r w1 H locs hw hP hD hS => ?_)
        obtain ⟨rfl, rfl⟩ := hw
        have hP : va_P D vwCl (wX q cI n S P x) H := hP
        have hD : va_D A (wX q cI n S P x) := hD
        have hPc := hP.sub (ws' := (wLe q cI n (n * S) (hq n S (x.2 0)) (sq S (x.1 11)))) [13, 14, 15] rfl
        have hDc := hD.sub (ws' := (wLe q cI n (n * S) (hq n S (x.2 0)) (sq S (x.1 11)))) [13, 14, 15] (by decide) rfl
        refine kx_i (va_runV (As := [.int (nI (a * S + i))]) (rest := []) ⟨hx, hb, hml, hown, hts⟩ ((c_decree l D cI cZ q n (n * S) (hq n S (x.2 0)) (sq S (x.1 11)) (a * S + i) (L20 hn5 hS4) (seat_lt ha (by omega))) H.size) (cwV 1 hts (gV wd325 wd326 wd327 wd6 wd328) rfl rfl rfl (by decide +kernel) ⟨Nat.le_of_ble_eq_true rfl, Nat.le_of_ble_eq_true rfl⟩) ⟨fb_PW, va_recv (q0 := 0) (ci := 4) hK hPc rfl rfl, pre_PW hK hPc hDc hZ⟩ rfl rfl hl.1 rfl (lv_room (Nat.le_of_ble_eq_true rfl)) dDecreePool_applied_40 ⟨Nat.zero_le _, Nat.zero_le _⟩) hP hD hS hA [13, 14, 15] [0, 1, 2, 3, 4, 5, 6, 7, 8, 9, 10, 11, 12] rfl rfl (by decide) (by decide) (fun r w1 H locs hw hP hD hS => ?_)
        obtain ⟨rfl, rfl⟩ := hw
        have hP : va_P D vwCl (wX q cI n S P x) H := hP
        have hD : va_D A (wX q cI n S P x) := hD
        refine lv_topi (nm_r (sq_at (by omega)) ?_)
        refine lv_istore hx hb dDecreePool_applied_43 hl (by decide) rfl (fun ls hl => ?_)
        have hl : lv_has ls 7 [(6, .int (x.1 11 a i)), (5, .int (nI i)), (4, .int (nI (lst (x.1 11 a) S 0))), (2, .long (appl (x.1 11 a) i)), (0, .ref (q 0)), (1, .int (nI a))] := hl
        refine lv_iload hx hb dDecreePool_applied_45 (lv_at hl 0 rfl) ?_
        refine lv_iconst (v := nI 2) hx hb dDecreePool_applied_47 (by decide) ?_
        refine lv_irem hx hb dDecreePool_applied_48 (by decide) ?_
        refine lv_if_ne (tgt := 60) hx hb dDecreePool_applied_49 (by decide) (fun c49 => ?_) (fun c49 => ?_)
        · refine lv_lload_n hx hb dDecreePool_applied_60 rfl (lv_at hl 3 rfl) ?_
          refine lv_iload hx hb dDecreePool_applied_61 (lv_at hl 0 rfl) ?_
          refine lv_i2l (v := (x.1 11 a i).toInt64) hx hb dDecreePool_applied_63 rfl ?_
          refine lv_lmul hx hb dDecreePool_applied_64 ?_
          refine lv_lconst (v := 1) hx hb dDecreePool_applied_65 (by decide) ?_
          refine lv_ladd hx hb dDecreePool_applied_66 ?_
          refine lv_topl (nm_r (app_f (f := x.1 11 a) (fun q9 => c49 ((app_i (hIv.2.2.2.2 a i)).mpr q9))) ?_)
          refine lv_lstore_n hx hb dDecreePool_applied_67 rfl hl (by decide) rfl (fun ls hl => ?_)
          have hl : lv_has ls 7 [(2, .long (appl (x.1 11 a) (i + 1))), (6, .int (x.1 11 a i)), (5, .int (nI i)), (4, .int (nI (lst (x.1 11 a) S 0))), (0, .ref (q 0)), (1, .int (nI a))] := hl
          refine lv_iinc (k := 2) (v := nI (i + 1)) hx hb dDecreePool_applied_68 hl rfl ((nI_succ _).symm) (by decide) rfl (fun ls hl => ?_)
          have hl : lv_has ls 7 [(5, .int (nI (i + 1))), (2, .long (appl (x.1 11 a) (i + 1))), (6, .int (x.1 11 a i)), (4, .int (nI (lst (x.1 11 a) S 0))), (0, .ref (q 0)), (1, .int (nI a))] := hl
          refine lv_goto (tgt := 22) hx hb dDecreePool_applied_71 (by decide) ?_
          exact ih22 (i + 1) ls H locs (by omega) (lv_sub hl [0, 3, 1, 4, 5] rfl) hP hD hS
        · refine lv_lload_n hx hb dDecreePool_applied_52 rfl (lv_at hl 3 rfl) ?_
          refine lv_iload hx hb dDecreePool_applied_53 (lv_at hl 0 rfl) ?_
          refine lv_i2l (v := (x.1 11 a i).toInt64) hx hb dDecreePool_applied_55 rfl ?_
          refine lv_ladd hx hb dDecreePool_applied_56 ?_
          refine lv_goto (tgt := 67) hx hb dDecreePool_applied_57 (by decide) ?_
          refine lv_topl (nm_r (app_t (f := x.1 11 a) ((app_i (hIv.2.2.2.2 a i)).mp c49)) ?_)
          refine lv_lstore_n hx hb dDecreePool_applied_67 rfl hl (by decide) rfl (fun ls hl => ?_)
          have hl : lv_has ls 7 [(2, .long (appl (x.1 11 a) (i + 1))), (6, .int (x.1 11 a i)), (5, .int (nI i)), (4, .int (nI (lst (x.1 11 a) S 0))), (0, .ref (q 0)), (1, .int (nI a))] := hl
          refine lv_iinc (k := 2) (v := nI (i + 1)) hx hb dDecreePool_applied_68 hl rfl ((nI_succ _).symm) (by decide) rfl (fun ls hl => ?_)
          have hl : lv_has ls 7 [(5, .int (nI (i + 1))), (2, .long (appl (x.1 11 a) (i + 1))), (6, .int (x.1 11 a i)), (4, .int (nI (lst (x.1 11 a) S 0))), (0, .ref (q 0)), (1, .int (nI a))] := hl
          refine lv_goto (tgt := 22) hx hb dDecreePool_applied_71 (by decide) ?_
          exact ih22 (i + 1) ls H locs (by omega) (lv_sub hl [0, 3, 1, 4, 5] rfl) hP hD hS
    exact loop22 (lst (x.1 11 a) S 0) 0 ls H locs (by omega) hl hP hD hS
  · have hP : va_P D vwCl (wX q cI n S P x) H := hP
    have hD : va_D A (wX q cI n S P x) := hD
    refine lv_if_ne (tgt := 10) hx hb dDecreePool_applied_5 (by decide) (fun h9 => absurd (by decide) h9) (fun _ => ?_)
    refine lv_lconst (v := 0) hx hb dDecreePool_applied_8 (by decide) ?_
    exact W.lret (v := 0) hx hb hr (fun t9 ht9 hW9 => ⟨⟨0, (wX q cI n S P x), rfl, ⟨by unfold aApp; rw [if_neg h2], rfl⟩, by rw [ht9]; exact hP, va_K.moved hW9.alike hK, hD⟩, hS.F ht9⟩) hS.2.2 dDecreePool_applied_9
end
section
abbrev hrm (h : Nat → Nat → Nat → Int32) : Nat → Int32 := hr h
abbrev wR (qm : Nat → Nat) (cI cZ : ClassId) (n S P : Nat) (dn k0 k1 k2 k3 k4 k5 k6 la ph wi pm be bv pd ac av hb hv de : Nat → Int32) (dl lo : Int32) : va_W := [(qm 0, .inr (5, [.int (nI n), .int (nI S), .int (nI P), .ref (qm 1), .ref (qm 2), .ref (qm 3), .ref (qm 4), .ref (qm 5), .ref (qm 6), .ref (qm 7), .ref (qm 8), .ref (qm 9), .ref (qm 10), .ref (qm 11), .ref (qm 12), .ref (qm 13), .ref (qm 14), .ref (qm 15), .ref (qm 16), .ref (qm 17), .ref (qm 18), .ref (qm 19), .ref (qm 20), .int dl, .int lo])), (qm 1, .inl (cZ, 5, .inl dn)), (qm 2, .inl (cI, 64, .inl k0)), (qm 3, .inl (cI, 64, .inl k1)), (qm 4, .inl (cI, 64, .inl k2)), (qm 5, .inl (cI, 64, .inl k3)), (qm 6, .inl (cI, 64, .inl k4)), (qm 7, .inl (cI, 64, .inl k5)), (qm 8, .inl (cI, 64, .inl k6)), (qm 9, .inl (cI, 20, .inl la)), (qm 10, .inl (cI, 20, .inl ph)), (qm 11, .inl (cI, 20, .inl wi)), (qm 12, .inl (cI, 20, .inl pm)), (qm 13, .inl (cI, 20, .inl be)), (qm 14, .inl (cI, 20, .inl bv)), (qm 15, .inl (cI, 20, .inl pd)), (qm 16, .inl (cI, 20, .inl ac)), (qm 17, .inl (cI, 20, .inl av)), (qm 18, .inl (cI, 100, .inl hb)), (qm 19, .inl (cI, 100, .inl hv)), (qm 20, .inl (cI, 20, .inl de))]
abbrev wM (qm : Nat → Nat) (cI cZ : ClassId) (n S P : Nat) (x : St) : va_W := wR qm cI cZ n S P (col (x.1 13) 0) (col (x.1 0) 0) (col (x.1 0) 1) (col (x.1 0) 2) (col (x.1 0) 3) (col (x.1 0) 4) (col (x.1 0) 5) (col (x.1 0) 6) (sq 4 (x.1 2)) (sq 4 (x.1 1)) (sq 4 (x.1 6)) (sq 4 (x.1 3)) (sq 4 (x.1 4)) (sq 4 (x.1 7)) (sq 4 (x.1 8)) (sq 4 (x.1 9)) (sq 4 (x.1 10)) (hrm (x.2 0)) (hrm (x.2 1)) (sq 4 (x.1 11)) (x.1 12 0 0) (x.1 12 0 1)
theorem kpos {n S : Nat} {x : St} {j : Nat} (hM : Imsg n S x) (h : x.1 0 j 0 ≠ 0) : ¬ x.1 0 j 0 ≤ 0 := by
  obtain ⟨k, b, a, t, h1, h2, -, -, -, hk, -⟩ := hM j h
  rw [hk]
  exact nI_nle h1 (by omega)
theorem emp_t {f : Nat → Int32} {i : Nat} (h : ¬ f i = 0) : i - cnt f i = i + 1 - cnt f (i + 1) := by
  show _ = i + 1 - (cnt f i + _)
  rw [if_neg h]; omega
theorem emp_f {f : Nat → Int32} {i : Nat} (h : f i = 0) : i - cnt f i + 1 = i + 1 - cnt f (i + 1) := by
  have := cnt_le f i
  show _ = i + 1 - (cnt f i + _)
  rw [if_pos h]; omega
def popi (k : Nat) : Nat → Nat
  | 0 => 0
  | i + 1 => popi k i + k / 2 ^ i % 2
theorem popi_fin : ∀ k, k < 32 → popi k 5 = popn k := by decide +kernel
theorem up2_id {f : Nat → Nat → Int32} {a s : Nat} : up2 f a s (f a s) = f := by
  funext a' s'
  unfold up2
  by_cases h : a' = a ∧ s' = s
  · rw [if_pos h, h.1, h.2]
  · rw [if_neg h]
theorem up7_col {g : Nat → Nat → Int32} {m : Nat} {k s r sl b v o : Int32} : col (up7 g m k s r sl b v o) 0 = col (up2 g m 0 k) 0 ∧ col (up7 g m k s r sl b v o) 1 = col (up2 g m 1 s) 1 ∧ col (up7 g m k s r sl b v o) 2 = col (up2 g m 2 r) 2 ∧ col (up7 g m k s r sl b v o) 3 = col (up2 g m 3 sl) 3 ∧ col (up7 g m k s r sl b v o) 4 = col (up2 g m 4 b) 4 ∧ col (up7 g m k s r sl b v o) 5 = col (up2 g m 5 v) 5 ∧ col (up7 g m k s r sl b v o) 6 = col (up2 g m 6 o) 6 := by
  refine ⟨?_, ?_, ?_, ?_, ?_, ?_, ?_⟩ <;> (funext i; unfold col up7 up2; by_cases h : i = m <;> simp [h])
theorem wM_send {qm : Nat → Nat} {cI cZ : ClassId} {n S P : Nat} {x : St} {k s r sl b v o : Int32} :
    wR qm cI cZ n S P (col (x.1 13) 0) (col (up2 (x.1 0) (lst (col (x.1 0) 0) P 0) 0 k) 0) (col (up2 (x.1 0) (lst (col (x.1 0) 0) P 0) 1 s) 1) (col (up2 (x.1 0) (lst (col (x.1 0) 0) P 0) 2 r) 2) (col (up2 (x.1 0) (lst (col (x.1 0) 0) P 0) 3 sl) 3) (col (up2 (x.1 0) (lst (col (x.1 0) 0) P 0) 4 b) 4) (col (up2 (x.1 0) (lst (col (x.1 0) 0) P 0) 5 v) 5) (col (up2 (x.1 0) (lst (col (x.1 0) 0) P 0) 6 o) 6)
      (sq 4 (x.1 2)) (sq 4 (x.1 1)) (sq 4 (x.1 6)) (sq 4 (x.1 3)) (sq 4 (x.1 4)) (sq 4 (x.1 7)) (sq 4 (x.1 8)) (sq 4 (x.1 9)) (sq 4 (x.1 10)) (hrm (x.2 0)) (hrm (x.2 1)) (sq 4 (x.1 11)) (x.1 12 0 0) (x.1 12 0 1)
    = wM qm cI cZ n S P (send1 P x k s r sl b v o) := by
  have e0 : (send1 P x k s r sl b v o).1 0 = up7 (x.1 0) (lst (col (x.1 0) 0) P 0) k s r sl b v o := put7_c
  have e : ∀ c, c ≠ 0 → (send1 P x k s r sl b v o).1 c = x.1 c := fun c hc => put7_o hc
  have e2 : (send1 P x k s r sl b v o).2 = x.2 := rfl
  obtain ⟨u0, u1, u2, u3, u4, u5, u6⟩ := up7_col (g := x.1 0) (m := lst (col (x.1 0) 0) P 0) (k := k) (s := s) (r := r) (sl := sl) (b := b) (v := v) (o := o)
  simp only [wM, e0, e2, u0, u1, u2, u3, u4, u5, u6, e 1 (by decide), e 2 (by decide), e 3 (by decide), e 4 (by decide), e 6 (by decide), e 7 (by decide), e 8 (by decide), e 9 (by decide), e 10 (by decide), e 11 (by decide), e 12 (by decide), e 13 (by decide)]
end
section
theorem dModel_isNode_0 : decode cModel_isNode 0 = .ok (.iload_n 1, 1) := by decide +kernel
theorem dModel_isNode_1 : decode cModel_isNode 1 = .ok (.ifCond .lt 15, 3) := by decide +kernel
theorem dModel_isNode_4 : decode cModel_isNode 4 = .ok (.iload_n 1, 1) := by decide +kernel
theorem dModel_isNode_5 : decode cModel_isNode 5 = .ok (.aload_n 0, 1) := by decide +kernel
theorem dModel_isNode_6 : decode cModel_isNode 6 = .ok (.getfield 71, 3) := by decide +kernel
theorem dModel_isNode_9 : decode cModel_isNode 9 = .ok (.if_icmp .ge 7, 3) := by decide +kernel
theorem dModel_isNode_12 : decode cModel_isNode 12 = .ok (.iconst 1, 1) := by decide +kernel
theorem dModel_isNode_13 : decode cModel_isNode 13 = .ok (.goto 4, 3) := by decide +kernel
theorem dModel_isNode_16 : decode cModel_isNode 16 = .ok (.iconst 0, 1) := by decide +kernel
theorem dModel_isNode_17 : decode cModel_isNode 17 = .ok (.ireturn, 1) := by decide +kernel
set_option maxRecDepth 100000 in
set_option maxHeartbeats 4000000 in
theorem m_isNode (l : Launch) (D : va_G) (cI cZ : ClassId) (qm : Nat → Nat) (n : Nat) (S : Nat) (P : Nat) (x : St) (v : Int32) (hn1 : 1 ≤ n) (hn5 : n ≤ 5) (hS1 : 1 ≤ S) (hS4 : S ≤ 4) (hP5 : 5 ≤ P) (hP64 : P ≤ 64) : MI l D [(cI, .int), (cZ, .boolean)] yModel_isNode wsModel_isNode ({ frames := 0, cells := 0, slots := 0, locals := 0 }) [.ref (qm 0), .int v] (wM qm cI cZ n S P x) (fun r w => (r = nI 1 ∧ (okN v n) ∧ w = (wM qm cI cZ n S P x)) ∨ (r = nI 0 ∧ (¬ (okN v n)) ∧ w = (wM qm cI cZ n S P x))) := by
  intro sz
  refine Met.ofW (cc := cModel_isNode) (maxL := 2) (ret := (Option.some .boolean)) (by decide) rfl ?_
  intro p e s m args below meth c s₁ B hml hv
  obtain ⟨rfl, hsz, hP, hK, hD0, hZ⟩ := hv
  have hx := B.exec
  have hb := B.bytes
  have hr := B.returns
  have hts := atoms_spec (ws := wsModel_isNode) B.pre
  have hown : s.vm.findClass RModel = some m.cls := findClass_of_methodNamed B.named
  have hlocks := B.notSynchronized
  subst hsz
  have hD := hD0.self (sz := s.heap.size)
  generalize hAe : va_A (wM qm cI cZ n S P x) s.heap.size = A at hD ⊢
  have hA : ∀ q : Nat, s.heap.size ≤ q → A q := fun q h => by rw [← hAe]; exact Or.inr h
  have hS : va_S A s.heap s.heap [] := va_S.rf
  have hP : va_P D vwCl (wM qm cI cZ n S P x) s.heap := hP
  have hl := lv_entry ([.ref (qm 0), .int v]) (n := 2) (Nat.le_of_ble_eq_true rfl)
  rw [lg_entry_eq]
  generalize (lg_sl ([.ref (qm 0), .int v]) ++ List.replicate (2 - (lg_sl ([.ref (qm 0), .int v])).length) Slot.unset).toArray = ls at hl ⊢
  have hl : lv_has ls 2 [(0, .ref (qm 0)), (1, .int v)] := hl
  refine lv_iload_n hx hb dModel_isNode_0 rfl (lv_at hl 1 rfl) ?_
  refine lv_if_lt (tgt := 16) hx hb dModel_isNode_1 (by decide) (fun c1 => ?_) (fun c1 => ?_)
  · refine lv_iconst (v := nI 0) hx hb dModel_isNode_16 (by decide) ?_
    exact W.zret (v := nI 0) (ty := .boolean) hx hb hr (by decide) (fun t9 ht9 hW9 => ⟨⟨nI 0, (wM qm cI cZ n S P x), rfl, Or.inr ⟨rfl, fun h => absurd h.1 (Int32.not_le.mpr c1), rfl⟩, by rw [ht9]; exact hP, va_K.moved hW9.alike hK, hD⟩, hS.F ht9⟩) hS.2.2 dModel_isNode_17
  · refine lv_iload_n hx hb dModel_isNode_4 rfl (lv_at hl 1 rfl) ?_
    refine lv_aload_n hx hb dModel_isNode_5 rfl (lv_at hl 0 rfl) ?_
    refine va_get (D := D) (ci := 5) (v := .int (nI n)) (C := RModel) (T := TModel) (N := 25) hx hb hts (fun w h => mc (uModel_in w h)) hown hK hP 0 rfl rfl 0 (by decide) (hts _ (mc wd405)) (fun _ h9 => h9) rfl dModel_isNode_6 ?_
    refine lv_icmp_ge (tgt := 16) hx hb dModel_isNode_9 (by decide) (fun c9 => ?_) (fun c9 => ?_)
    · refine lv_iconst (v := nI 0) hx hb dModel_isNode_16 (by decide) ?_
      exact W.zret (v := nI 0) (ty := .boolean) hx hb hr (by decide) (fun t9 ht9 hW9 => ⟨⟨nI 0, (wM qm cI cZ n S P x), rfl, Or.inr ⟨rfl, fun h => absurd h.2 (Int32.not_lt.mpr c9), rfl⟩, by rw [ht9]; exact hP, va_K.moved hW9.alike hK, hD⟩, hS.F ht9⟩) hS.2.2 dModel_isNode_17
    · refine lv_iconst (v := nI 1) hx hb dModel_isNode_12 (by decide) ?_
      refine lv_goto (tgt := 17) hx hb dModel_isNode_13 (by decide) ?_
      exact W.zret (v := nI 1) (ty := .boolean) hx hb hr (by decide) (fun t9 ht9 hW9 => ⟨⟨nI 1, (wM qm cI cZ n S P x), rfl, Or.inl ⟨rfl, ⟨Int32.not_lt.mp c1, Int32.not_le.mp c9⟩, rfl⟩, by rw [ht9]; exact hP, va_K.moved hW9.alike hK, hD⟩, hS.F ht9⟩) hS.2.2 dModel_isNode_17
theorem dModel_isSlot_0 : decode cModel_isSlot 0 = .ok (.iload_n 1, 1) := by decide +kernel
theorem dModel_isSlot_1 : decode cModel_isSlot 1 = .ok (.ifCond .lt 15, 3) := by decide +kernel
theorem dModel_isSlot_4 : decode cModel_isSlot 4 = .ok (.iload_n 1, 1) := by decide +kernel
theorem dModel_isSlot_5 : decode cModel_isSlot 5 = .ok (.aload_n 0, 1) := by decide +kernel
theorem dModel_isSlot_6 : decode cModel_isSlot 6 = .ok (.getfield 75, 3) := by decide +kernel
theorem dModel_isSlot_9 : decode cModel_isSlot 9 = .ok (.if_icmp .ge 7, 3) := by decide +kernel
theorem dModel_isSlot_12 : decode cModel_isSlot 12 = .ok (.iconst 1, 1) := by decide +kernel
theorem dModel_isSlot_13 : decode cModel_isSlot 13 = .ok (.goto 4, 3) := by decide +kernel
theorem dModel_isSlot_16 : decode cModel_isSlot 16 = .ok (.iconst 0, 1) := by decide +kernel
theorem dModel_isSlot_17 : decode cModel_isSlot 17 = .ok (.ireturn, 1) := by decide +kernel
set_option maxRecDepth 100000 in
set_option maxHeartbeats 4000000 in
theorem m_isSlot (l : Launch) (D : va_G) (cI cZ : ClassId) (qm : Nat → Nat) (n : Nat) (S : Nat) (P : Nat) (x : St) (v : Int32) (hn1 : 1 ≤ n) (hn5 : n ≤ 5) (hS1 : 1 ≤ S) (hS4 : S ≤ 4) (hP5 : 5 ≤ P) (hP64 : P ≤ 64) : MI l D [(cI, .int), (cZ, .boolean)] yModel_isSlot wsModel_isSlot ({ frames := 0, cells := 0, slots := 0, locals := 0 }) [.ref (qm 0), .int v] (wM qm cI cZ n S P x) (fun r w => (r = nI 1 ∧ (okN v S) ∧ w = (wM qm cI cZ n S P x)) ∨ (r = nI 0 ∧ (¬ (okN v S)) ∧ w = (wM qm cI cZ n S P x))) := by
  intro sz
  refine Met.ofW (cc := cModel_isSlot) (maxL := 2) (ret := (Option.some .boolean)) (by decide) rfl ?_
  intro p e s m args below meth c s₁ B hml hv
  obtain ⟨rfl, hsz, hP, hK, hD0, hZ⟩ := hv
  have hx := B.exec
  have hb := B.bytes
  have hr := B.returns
  have hts := atoms_spec (ws := wsModel_isSlot) B.pre
  have hown : s.vm.findClass RModel = some m.cls := findClass_of_methodNamed B.named
  have hlocks := B.notSynchronized
  subst hsz
  have hD := hD0.self (sz := s.heap.size)
  generalize hAe : va_A (wM qm cI cZ n S P x) s.heap.size = A at hD ⊢
  have hA : ∀ q : Nat, s.heap.size ≤ q → A q := fun q h => by rw [← hAe]; exact Or.inr h
  have hS : va_S A s.heap s.heap [] := va_S.rf
  have hP : va_P D vwCl (wM qm cI cZ n S P x) s.heap := hP
  have hl := lv_entry ([.ref (qm 0), .int v]) (n := 2) (Nat.le_of_ble_eq_true rfl)
  rw [lg_entry_eq]
  generalize (lg_sl ([.ref (qm 0), .int v]) ++ List.replicate (2 - (lg_sl ([.ref (qm 0), .int v])).length) Slot.unset).toArray = ls at hl ⊢
  have hl : lv_has ls 2 [(0, .ref (qm 0)), (1, .int v)] := hl
  refine lv_iload_n hx hb dModel_isSlot_0 rfl (lv_at hl 1 rfl) ?_
  refine lv_if_lt (tgt := 16) hx hb dModel_isSlot_1 (by decide) (fun c1 => ?_) (fun c1 => ?_)
  · refine lv_iconst (v := nI 0) hx hb dModel_isSlot_16 (by decide) ?_
    exact W.zret (v := nI 0) (ty := .boolean) hx hb hr (by decide) (fun t9 ht9 hW9 => ⟨⟨nI 0, (wM qm cI cZ n S P x), rfl, Or.inr ⟨rfl, fun h => absurd h.1 (Int32.not_le.mpr c1), rfl⟩, by rw [ht9]; exact hP, va_K.moved hW9.alike hK, hD⟩, hS.F ht9⟩) hS.2.2 dModel_isSlot_17
  · refine lv_iload_n hx hb dModel_isSlot_4 rfl (lv_at hl 1 rfl) ?_
    refine lv_aload_n hx hb dModel_isSlot_5 rfl (lv_at hl 0 rfl) ?_
    refine va_get (D := D) (ci := 5) (v := .int (nI S)) (C := RModel) (T := TModel) (N := 25) hx hb hts (fun w h => mc (uModel_in w h)) hown hK hP 0 rfl rfl 1 (by decide) (hts _ (mc wd406)) (fun _ h9 => h9) rfl dModel_isSlot_6 ?_
    refine lv_icmp_ge (tgt := 16) hx hb dModel_isSlot_9 (by decide) (fun c9 => ?_) (fun c9 => ?_)
    · refine lv_iconst (v := nI 0) hx hb dModel_isSlot_16 (by decide) ?_
      exact W.zret (v := nI 0) (ty := .boolean) hx hb hr (by decide) (fun t9 ht9 hW9 => ⟨⟨nI 0, (wM qm cI cZ n S P x), rfl, Or.inr ⟨rfl, fun h => absurd h.2 (Int32.not_lt.mpr c9), rfl⟩, by rw [ht9]; exact hP, va_K.moved hW9.alike hK, hD⟩, hS.F ht9⟩) hS.2.2 dModel_isSlot_17
    · refine lv_iconst (v := nI 1) hx hb dModel_isSlot_12 (by decide) ?_
      refine lv_goto (tgt := 17) hx hb dModel_isSlot_13 (by decide) ?_
      exact W.zret (v := nI 1) (ty := .boolean) hx hb hr (by decide) (fun t9 ht9 hW9 => ⟨⟨nI 1, (wM qm cI cZ n S P x), rfl, Or.inl ⟨rfl, ⟨Int32.not_lt.mp c1, Int32.not_le.mp c9⟩, rfl⟩, by rw [ht9]; exact hP, va_K.moved hW9.alike hK, hD⟩, hS.F ht9⟩) hS.2.2 dModel_isSlot_17
theorem dModel_isMessage_0 : decode cModel_isMessage 0 = .ok (.iload_n 1, 1) := by decide +kernel
theorem dModel_isMessage_1 : decode cModel_isMessage 1 = .ok (.ifCond .lt 24, 3) := by decide +kernel
theorem dModel_isMessage_4 : decode cModel_isMessage 4 = .ok (.iload_n 1, 1) := by decide +kernel
theorem dModel_isMessage_5 : decode cModel_isMessage 5 = .ok (.aload_n 0, 1) := by decide +kernel
theorem dModel_isMessage_6 : decode cModel_isMessage 6 = .ok (.getfield 78, 3) := by decide +kernel
theorem dModel_isMessage_9 : decode cModel_isMessage 9 = .ok (.if_icmp .ge 16, 3) := by decide +kernel
theorem dModel_isMessage_12 : decode cModel_isMessage 12 = .ok (.aload_n 0, 1) := by decide +kernel
theorem dModel_isMessage_13 : decode cModel_isMessage 13 = .ok (.getfield 13, 3) := by decide +kernel
theorem dModel_isMessage_16 : decode cModel_isMessage 16 = .ok (.iload_n 1, 1) := by decide +kernel
theorem dModel_isMessage_17 : decode cModel_isMessage 17 = .ok (.iaload, 1) := by decide +kernel
theorem dModel_isMessage_18 : decode cModel_isMessage 18 = .ok (.ifCond .le 7, 3) := by decide +kernel
theorem dModel_isMessage_21 : decode cModel_isMessage 21 = .ok (.iconst 1, 1) := by decide +kernel
theorem dModel_isMessage_22 : decode cModel_isMessage 22 = .ok (.goto 4, 3) := by decide +kernel
theorem dModel_isMessage_25 : decode cModel_isMessage 25 = .ok (.iconst 0, 1) := by decide +kernel
theorem dModel_isMessage_26 : decode cModel_isMessage 26 = .ok (.ireturn, 1) := by decide +kernel
set_option maxRecDepth 100000 in
set_option maxHeartbeats 4000000 in
theorem m_isMessage (l : Launch) (D : va_G) (cI cZ : ClassId) (qm : Nat → Nat) (n : Nat) (S : Nat) (P : Nat) (x : St) (v : Int32) (hn1 : 1 ≤ n) (hn5 : n ≤ 5) (hS1 : 1 ≤ S) (hS4 : S ≤ 4) (hP5 : 5 ≤ P) (hP64 : P ≤ 64) (hM : Imsg n S x) : MI l D [(cI, .int), (cZ, .boolean)] yModel_isMessage wsModel_isMessage ({ frames := 0, cells := 0, slots := 0, locals := 0 }) [.ref (qm 0), .int v] (wM qm cI cZ n S P x) (fun r w => (r = nI 1 ∧ (isM P x v) ∧ w = (wM qm cI cZ n S P x)) ∨ (r = nI 0 ∧ (¬ (isM P x v)) ∧ w = (wM qm cI cZ n S P x))) := by
  intro sz
  refine Met.ofW (cc := cModel_isMessage) (maxL := 2) (ret := (Option.some .boolean)) (by decide) rfl ?_
  intro p e s m args below meth c s₁ B hml hv
  obtain ⟨rfl, hsz, hP, hK, hD0, hZ⟩ := hv
  have hx := B.exec
  have hb := B.bytes
  have hr := B.returns
  have hts := atoms_spec (ws := wsModel_isMessage) B.pre
  have hown : s.vm.findClass RModel = some m.cls := findClass_of_methodNamed B.named
  have hlocks := B.notSynchronized
  subst hsz
  have hD := hD0.self (sz := s.heap.size)
  generalize hAe : va_A (wM qm cI cZ n S P x) s.heap.size = A at hD ⊢
  have hA : ∀ q : Nat, s.heap.size ≤ q → A q := fun q h => by rw [← hAe]; exact Or.inr h
  have hS : va_S A s.heap s.heap [] := va_S.rf
  have hP : va_P D vwCl (wM qm cI cZ n S P x) s.heap := hP
  have hl := lv_entry ([.ref (qm 0), .int v]) (n := 2) (Nat.le_of_ble_eq_true rfl)
  rw [lg_entry_eq]
  generalize (lg_sl ([.ref (qm 0), .int v]) ++ List.replicate (2 - (lg_sl ([.ref (qm 0), .int v])).length) Slot.unset).toArray = ls at hl ⊢
  have hl : lv_has ls 2 [(0, .ref (qm 0)), (1, .int v)] := hl
  refine lv_iload_n hx hb dModel_isMessage_0 rfl (lv_at hl 1 rfl) ?_
  refine lv_if_lt (tgt := 25) hx hb dModel_isMessage_1 (by decide) (fun c1 => ?_) (fun c1 => ?_)
  · refine lv_iconst (v := nI 0) hx hb dModel_isMessage_25 (by decide) ?_
    exact W.zret (v := nI 0) (ty := .boolean) hx hb hr (by decide) (fun t9 ht9 hW9 => ⟨⟨nI 0, (wM qm cI cZ n S P x), rfl, Or.inr ⟨rfl, fun h => absurd h.1.1 (Int32.not_le.mpr c1), rfl⟩, by rw [ht9]; exact hP, va_K.moved hW9.alike hK, hD⟩, hS.F ht9⟩) hS.2.2 dModel_isMessage_26
  · refine lv_iload_n hx hb dModel_isMessage_4 rfl (lv_at hl 1 rfl) ?_
    refine lv_aload_n hx hb dModel_isMessage_5 rfl (lv_at hl 0 rfl) ?_
    refine va_get (D := D) (ci := 5) (v := .int (nI P)) (C := RModel) (T := TModel) (N := 25) hx hb hts (fun w h => mc (uModel_in w h)) hown hK hP 0 rfl rfl 2 (by decide) (hts _ (mc wd407)) (fun _ h9 => h9) rfl dModel_isMessage_6 ?_
    refine lv_icmp_ge (tgt := 25) hx hb dModel_isMessage_9 (by decide) (fun c9 => ?_) (fun c9 => ?_)
    · refine lv_iconst (v := nI 0) hx hb dModel_isMessage_25 (by decide) ?_
      exact W.zret (v := nI 0) (ty := .boolean) hx hb hr (by decide) (fun t9 ht9 hW9 => ⟨⟨nI 0, (wM qm cI cZ n S P x), rfl, Or.inr ⟨rfl, fun h => absurd h.1.2 (Int32.not_lt.mpr c9), rfl⟩, by rw [ht9]; exact hP, va_K.moved hW9.alike hK, hD⟩, hS.F ht9⟩) hS.2.2 dModel_isMessage_26
    · obtain ⟨j, hj, rfl⟩ := okN_of (show P < 2 ^ 31 by omega) ⟨Int32.not_lt.mp c1, Int32.not_le.mp c9⟩
      refine lv_aload_n hx hb dModel_isMessage_12 rfl (lv_at hl 0 rfl) ?_
      refine va_get (D := D) (ci := 5) (v := .ref (qm 2)) (C := RModel) (T := TModel) (N := 25) hx hb hts (fun w h => mc (uModel_in w h)) hown hK hP 0 rfl rfl 4 (by decide) (hts _ (mc wd409)) (fun _ h9 => h9) rfl dModel_isMessage_13 ?_
      refine lv_iload_n hx hb dModel_isMessage_16 rfl (lv_at hl 1 rfl) ?_
      refine ka_ld (v := x.1 0 j 0) hx hb hK hP 2 0 rfl rfl (by omega) (by omega) rfl dModel_isMessage_17 ?_
      refine lv_if_le (tgt := 25) hx hb dModel_isMessage_18 (by decide) (fun c18 => ?_) (fun c18 => ?_)
      · refine lv_iconst (v := nI 0) hx hb dModel_isMessage_25 (by decide) ?_
        exact W.zret (v := nI 0) (ty := .boolean) hx hb hr (by decide) (fun t9 ht9 hW9 => ⟨⟨nI 0, (wM qm cI cZ n S P x), rfl, Or.inr ⟨rfl, fun h => kpos hM (by have h7 := h.2; rw [ix_nI hj (by omega)] at h7; exact h7) c18, rfl⟩, by rw [ht9]; exact hP, va_K.moved hW9.alike hK, hD⟩, hS.F ht9⟩) hS.2.2 dModel_isMessage_26
      · refine lv_iconst (v := nI 1) hx hb dModel_isMessage_21 (by decide) ?_
        refine lv_goto (tgt := 26) hx hb dModel_isMessage_22 (by decide) ?_
        exact W.zret (v := nI 1) (ty := .boolean) hx hb hr (by decide) (fun t9 ht9 hW9 => ⟨⟨nI 1, (wM qm cI cZ n S P x), rfl, Or.inl ⟨rfl, ⟨okN_nI hj (by omega), by rw [ix_nI hj (by omega)]; exact fun e9 => c18 (by rw [e9]; decide)⟩, rfl⟩, by rw [ht9]; exact hP, va_K.moved hW9.alike hK, hD⟩, hS.F ht9⟩) hS.2.2 dModel_isMessage_26
theorem dModel_isMajority_0 : decode cModel_isMajority 0 = .ok (.iconst 2, 1) := by decide +kernel
theorem dModel_isMajority_1 : decode cModel_isMajority 1 = .ok (.iload_n 1, 1) := by decide +kernel
theorem dModel_isMajority_2 : decode cModel_isMajority 2 = .ok (.imul, 1) := by decide +kernel
theorem dModel_isMajority_3 : decode cModel_isMajority 3 = .ok (.aload_n 0, 1) := by decide +kernel
theorem dModel_isMajority_4 : decode cModel_isMajority 4 = .ok (.getfield 71, 3) := by decide +kernel
theorem dModel_isMajority_7 : decode cModel_isMajority 7 = .ok (.if_icmp .le 7, 3) := by decide +kernel
theorem dModel_isMajority_10 : decode cModel_isMajority 10 = .ok (.iconst 1, 1) := by decide +kernel
theorem dModel_isMajority_11 : decode cModel_isMajority 11 = .ok (.goto 4, 3) := by decide +kernel
theorem dModel_isMajority_14 : decode cModel_isMajority 14 = .ok (.iconst 0, 1) := by decide +kernel
theorem dModel_isMajority_15 : decode cModel_isMajority 15 = .ok (.ireturn, 1) := by decide +kernel
set_option maxRecDepth 100000 in
set_option maxHeartbeats 4000000 in
theorem m_isMajority (l : Launch) (D : va_G) (cI cZ : ClassId) (qm : Nat → Nat) (n : Nat) (S : Nat) (P : Nat) (x : St) (k : Nat) (hn1 : 1 ≤ n) (hn5 : n ≤ 5) (hS1 : 1 ≤ S) (hS4 : S ≤ 4) (hP5 : 5 ≤ P) (hP64 : P ≤ 64) (hk5 : k ≤ 5) : MI l D [(cI, .int), (cZ, .boolean)] yModel_isMajority wsModel_isMajority ({ frames := 0, cells := 0, slots := 0, locals := 0 }) [.ref (qm 0), .int (nI k)] (wM qm cI cZ n S P x) (fun r w => (r = nI 1 ∧ (n < 2 * k) ∧ w = (wM qm cI cZ n S P x)) ∨ (r = nI 0 ∧ (¬ (n < 2 * k)) ∧ w = (wM qm cI cZ n S P x))) := by
  intro sz
  refine Met.ofW (cc := cModel_isMajority) (maxL := 2) (ret := (Option.some .boolean)) (by decide) rfl ?_
  intro p e s m args below meth c s₁ B hml hv
  obtain ⟨rfl, hsz, hP, hK, hD0, hZ⟩ := hv
  have hx := B.exec
  have hb := B.bytes
  have hr := B.returns
  have hts := atoms_spec (ws := wsModel_isMajority) B.pre
  have hown : s.vm.findClass RModel = some m.cls := findClass_of_methodNamed B.named
  have hlocks := B.notSynchronized
  subst hsz
  have hD := hD0.self (sz := s.heap.size)
  generalize hAe : va_A (wM qm cI cZ n S P x) s.heap.size = A at hD ⊢
  have hA : ∀ q : Nat, s.heap.size ≤ q → A q := fun q h => by rw [← hAe]; exact Or.inr h
  have hS : va_S A s.heap s.heap [] := va_S.rf
  have hP : va_P D vwCl (wM qm cI cZ n S P x) s.heap := hP
  have hl := lv_entry ([.ref (qm 0), .int (nI k)]) (n := 2) (Nat.le_of_ble_eq_true rfl)
  rw [lg_entry_eq]
  generalize (lg_sl ([.ref (qm 0), .int (nI k)]) ++ List.replicate (2 - (lg_sl ([.ref (qm 0), .int (nI k)])).length) Slot.unset).toArray = ls at hl ⊢
  have hl : lv_has ls 2 [(0, .ref (qm 0)), (1, .int (nI k))] := hl
  refine lv_iconst (v := nI 2) hx hb dModel_isMajority_0 (by decide) ?_
  refine lv_iload_n hx hb dModel_isMajority_1 rfl (lv_at hl 1 rfl) ?_
  refine lv_imul hx hb dModel_isMajority_2 ?_
  refine lv_topi (nm_r (pk_mul _ _) ?_)
  refine lv_aload_n hx hb dModel_isMajority_3 rfl (lv_at hl 0 rfl) ?_
  refine va_get (D := D) (ci := 5) (v := .int (nI n)) (C := RModel) (T := TModel) (N := 25) hx hb hts (fun w h => mc (uModel_in w h)) hown hK hP 0 rfl rfl 0 (by decide) (hts _ (mc wd405)) (fun _ h9 => h9) rfl dModel_isMajority_4 ?_
  refine lv_icmp_le (tgt := 14) hx hb dModel_isMajority_7 (by decide) (fun c7 => ?_) (fun c7 => ?_)
  · refine lv_iconst (v := nI 0) hx hb dModel_isMajority_14 (by decide) ?_
    exact W.zret (v := nI 0) (ty := .boolean) hx hb hr (by decide) (fun t9 ht9 hW9 => ⟨⟨nI 0, (wM qm cI cZ n S P x), rfl, Or.inr ⟨rfl, fun h => absurd c7 (nI_ge h (by omega)), rfl⟩, by rw [ht9]; exact hP, va_K.moved hW9.alike hK, hD⟩, hS.F ht9⟩) hS.2.2 dModel_isMajority_15
  · refine lv_iconst (v := nI 1) hx hb dModel_isMajority_10 (by decide) ?_
    refine lv_goto (tgt := 15) hx hb dModel_isMajority_11 (by decide) ?_
    exact W.zret (v := nI 1) (ty := .boolean) hx hb hr (by decide) (fun t9 ht9 hW9 => ⟨⟨nI 1, (wM qm cI cZ n S P x), rfl, Or.inl ⟨rfl, Nat.lt_of_not_le (fun q => c7 (nI_le q (by omega))), rfl⟩, by rw [ht9]; exact hP, va_K.moved hW9.alike hK, hD⟩, hS.F ht9⟩) hS.2.2 dModel_isMajority_15
theorem dModel_empty_0 : decode cModel_empty 0 = .ok (.iconst 0, 1) := by decide +kernel
theorem dModel_empty_1 : decode cModel_empty 1 = .ok (.istore_n 1, 1) := by decide +kernel
theorem dModel_empty_2 : decode cModel_empty 2 = .ok (.iconst 0, 1) := by decide +kernel
theorem dModel_empty_3 : decode cModel_empty 3 = .ok (.istore_n 2, 1) := by decide +kernel
theorem dModel_empty_4 : decode cModel_empty 4 = .ok (.iload_n 2, 1) := by decide +kernel
theorem dModel_empty_5 : decode cModel_empty 5 = .ok (.aload_n 0, 1) := by decide +kernel
theorem dModel_empty_6 : decode cModel_empty 6 = .ok (.getfield 78, 3) := by decide +kernel
theorem dModel_empty_9 : decode cModel_empty 9 = .ok (.if_icmp .ge 26, 3) := by decide +kernel
theorem dModel_empty_12 : decode cModel_empty 12 = .ok (.aload_n 0, 1) := by decide +kernel
theorem dModel_empty_13 : decode cModel_empty 13 = .ok (.getfield 13, 3) := by decide +kernel
theorem dModel_empty_16 : decode cModel_empty 16 = .ok (.iload_n 2, 1) := by decide +kernel
theorem dModel_empty_17 : decode cModel_empty 17 = .ok (.iaload, 1) := by decide +kernel
theorem dModel_empty_18 : decode cModel_empty 18 = .ok (.ifCond .ne 9, 3) := by decide +kernel
theorem dModel_empty_21 : decode cModel_empty 21 = .ok (.iload_n 1, 1) := by decide +kernel
theorem dModel_empty_22 : decode cModel_empty 22 = .ok (.iconst 1, 1) := by decide +kernel
theorem dModel_empty_23 : decode cModel_empty 23 = .ok (.iadd, 1) := by decide +kernel
theorem dModel_empty_24 : decode cModel_empty 24 = .ok (.goto 4, 3) := by decide +kernel
theorem dModel_empty_27 : decode cModel_empty 27 = .ok (.iload_n 1, 1) := by decide +kernel
theorem dModel_empty_28 : decode cModel_empty 28 = .ok (.istore_n 1, 1) := by decide +kernel
theorem dModel_empty_29 : decode cModel_empty 29 = .ok (.iinc 2  1, 3) := by decide +kernel
theorem dModel_empty_32 : decode cModel_empty 32 = .ok (.goto (-28), 3) := by decide +kernel
theorem dModel_empty_35 : decode cModel_empty 35 = .ok (.iload_n 1, 1) := by decide +kernel
theorem dModel_empty_36 : decode cModel_empty 36 = .ok (.ireturn, 1) := by decide +kernel
set_option maxRecDepth 100000 in
set_option maxHeartbeats 4000000 in
theorem m_empty (l : Launch) (D : va_G) (cI cZ : ClassId) (qm : Nat → Nat) (n : Nat) (S : Nat) (P : Nat) (x : St) (hn1 : 1 ≤ n) (hn5 : n ≤ 5) (hS1 : 1 ≤ S) (hS4 : S ≤ 4) (hP5 : 5 ≤ P) (hP64 : P ≤ 64) : MI l D [(cI, .int), (cZ, .boolean)] yModel_empty wsModel_empty ({ frames := 0, cells := 0, slots := 0, locals := 0 }) [.ref (qm 0)] (wM qm cI cZ n S P x) (fun r w => r = nI (P - cntx P x) ∧ w = (wM qm cI cZ n S P x)) := by
  intro sz
  refine Met.ofW (cc := cModel_empty) (maxL := 3) (ret := (Option.some .int)) (by decide) rfl ?_
  intro p e s m args below meth c s₁ B hml hv
  obtain ⟨rfl, hsz, hP, hK, hD0, hZ⟩ := hv
  have hx := B.exec
  have hb := B.bytes
  have hr := B.returns
  have hts := atoms_spec (ws := wsModel_empty) B.pre
  have hown : s.vm.findClass RModel = some m.cls := findClass_of_methodNamed B.named
  have hlocks := B.notSynchronized
  subst hsz
  have hD := hD0.self (sz := s.heap.size)
  generalize hAe : va_A (wM qm cI cZ n S P x) s.heap.size = A at hD ⊢
  have hA : ∀ q : Nat, s.heap.size ≤ q → A q := fun q h => by rw [← hAe]; exact Or.inr h
  have hS : va_S A s.heap s.heap [] := va_S.rf
  have hP : va_P D vwCl (wM qm cI cZ n S P x) s.heap := hP
  have hl := lv_entry ([.ref (qm 0)]) (n := 3) (Nat.le_of_ble_eq_true rfl)
  rw [lg_entry_eq]
  generalize (lg_sl ([.ref (qm 0)]) ++ List.replicate (3 - (lg_sl ([.ref (qm 0)])).length) Slot.unset).toArray = ls at hl ⊢
  have hl : lv_has ls 3 [(0, .ref (qm 0))] := hl
  refine lv_iconst (v := nI 0) hx hb dModel_empty_0 (by decide) ?_
  refine lv_istore_n hx hb dModel_empty_1 rfl hl (by decide) rfl (fun ls hl => ?_)
  have hl : lv_has ls 3 [(1, .int (nI 0)), (0, .ref (qm 0))] := hl
  refine lv_iconst (v := nI 0) hx hb dModel_empty_2 (by decide) ?_
  refine lv_istore_n hx hb dModel_empty_3 rfl hl (by decide) rfl (fun ls hl => ?_)
  have hl : lv_has ls 3 [(2, .int (nI 0)), (1, .int (nI 0)), (0, .ref (qm 0))] := hl
  have loop4 : ∀ (d4 i : Nat) (ls : Array Slot) (H : Heap) (locs : List Loc), i + d4 = P → lv_has ls 3 [(2, .int (nI i)), (1, .int (nI (i - cnt (col (x.1 0) 0) i))), (0, .ref (qm 0))] → va_P D vwCl (wM qm cI cZ n S P x) H → va_D A (wM qm cI cZ n S P x) → va_S A s.heap H locs → W p l e (headSpec wsModel_empty { frames := 0, cells := 0, slots := 0, locals := 0 }).room s m [.ref (qm 0)].toArray below meth c H locs 0 0 (MQ below (va_Qi (fun r w => r = nI (P - cntx P x) ∧ w = (wM qm cI cZ n S P x)) (QW D [(cI, .int), (cZ, .boolean)] A) A) [.ref (qm 0)].toArray s 0 0 A) (F0 m 4 ls []) := by
    intro d4
    induction d4 with
    | zero =>
      intro i ls H locs hid4  hl hP hD hS
      refine lv_iload_n hx hb dModel_empty_4 rfl (lv_at hl 0 rfl) ?_
      refine lv_aload_n hx hb dModel_empty_5 rfl (lv_at hl 2 rfl) ?_
      refine va_get (D := D) (ci := 5) (v := .int (nI P)) (C := RModel) (T := TModel) (N := 25) hx hb hts (fun w h => mc (uModel_in w h)) hown hK hP 0 rfl rfl 2 (by decide) (hts _ (mc wd407)) (fun _ h9 => h9) rfl dModel_empty_6 ?_
      refine lv_icmp_ge (tgt := 35) hx hb dModel_empty_9 (by decide) (fun _ => ?_) (fun h9 => absurd (nI_le (by omega) (by omega)) h9)
      refine lv_iload_n hx hb dModel_empty_35 rfl (lv_at hl 1 rfl) ?_
      have hin : P = i := by omega
      subst hin
      exact W.iret (v := nI (P - cntx P x)) hx hb hr (fun t9 ht9 hW9 => ⟨⟨nI (P - cntx P x), (wM qm cI cZ n S P x), rfl, ⟨rfl, rfl⟩, by rw [ht9]; exact hP, va_K.moved hW9.alike hK, hD⟩, hS.F ht9⟩) hS.2.2 dModel_empty_36
    | succ d4 ih4 =>
      intro i ls H locs hid4  hl hP hD hS
      refine lv_iload_n hx hb dModel_empty_4 rfl (lv_at hl 0 rfl) ?_
      refine lv_aload_n hx hb dModel_empty_5 rfl (lv_at hl 2 rfl) ?_
      refine va_get (D := D) (ci := 5) (v := .int (nI P)) (C := RModel) (T := TModel) (N := 25) hx hb hts (fun w h => mc (uModel_in w h)) hown hK hP 0 rfl rfl 2 (by decide) (hts _ (mc wd407)) (fun _ h9 => h9) rfl dModel_empty_6 ?_
      refine lv_icmp_ge (tgt := 35) hx hb dModel_empty_9 (by decide) (fun h9 => absurd h9 (nI_ge (by omega) (by omega))) (fun _ => ?_)
      refine lv_aload_n hx hb dModel_empty_12 rfl (lv_at hl 2 rfl) ?_
      refine va_get (D := D) (ci := 5) (v := .ref (qm 2)) (C := RModel) (T := TModel) (N := 25) hx hb hts (fun w h => mc (uModel_in w h)) hown hK hP 0 rfl rfl 4 (by decide) (hts _ (mc wd409)) (fun _ h9 => h9) rfl dModel_empty_13 ?_
      refine lv_iload_n hx hb dModel_empty_16 rfl (lv_at hl 0 rfl) ?_
      refine ka_ld (v := x.1 0 i 0) hx hb hK hP 2 0 rfl rfl (by omega) (by omega) rfl dModel_empty_17 ?_
      refine lv_if_ne (tgt := 27) hx hb dModel_empty_18 (by decide) (fun c18 => ?_) (fun c18 => ?_)
      · refine lv_iload_n hx hb dModel_empty_27 rfl (lv_at hl 1 rfl) ?_
        refine lv_topi (nm_r (show nI (i - cnt (col (x.1 0) 0) i) = nI (i + 1 - cnt (col (x.1 0) 0) (i + 1)) from congrArg nI (emp_t c18)) ?_)
        refine lv_istore_n hx hb dModel_empty_28 rfl hl (by decide) rfl (fun ls hl => ?_)
        have hl : lv_has ls 3 [(1, .int (nI (i + 1 - cnt (col (x.1 0) 0) (i + 1)))), (2, .int (nI i)), (0, .ref (qm 0))] := hl
        refine lv_iinc (k := 1) (v := nI (i + 1)) hx hb dModel_empty_29 hl rfl ((nI_succ _).symm) (by decide) rfl (fun ls hl => ?_)
        have hl : lv_has ls 3 [(2, .int (nI (i + 1))), (1, .int (nI (i + 1 - cnt (col (x.1 0) 0) (i + 1)))), (0, .ref (qm 0))] := hl
        refine lv_goto (tgt := 4) hx hb dModel_empty_32 (by decide) ?_
        exact ih4 (i + 1) ls H locs (by omega) hl hP hD hS
      · refine lv_iload_n hx hb dModel_empty_21 rfl (lv_at hl 1 rfl) ?_
        refine lv_iconst (v := nI 1) hx hb dModel_empty_22 (by decide) ?_
        refine lv_iadd hx hb dModel_empty_23 ?_
        refine lv_topi (nm_r (nI_add _ _) ?_)
        refine lv_goto (tgt := 28) hx hb dModel_empty_24 (by decide) ?_
        refine lv_topi (nm_r (show nI (i - cnt (col (x.1 0) 0) i + 1) = nI (i + 1 - cnt (col (x.1 0) 0) (i + 1)) from congrArg nI (emp_f c18)) ?_)
        refine lv_istore_n hx hb dModel_empty_28 rfl hl (by decide) rfl (fun ls hl => ?_)
        have hl : lv_has ls 3 [(1, .int (nI (i + 1 - cnt (col (x.1 0) 0) (i + 1)))), (2, .int (nI i)), (0, .ref (qm 0))] := hl
        refine lv_iinc (k := 1) (v := nI (i + 1)) hx hb dModel_empty_29 hl rfl ((nI_succ _).symm) (by decide) rfl (fun ls hl => ?_)
        have hl : lv_has ls 3 [(2, .int (nI (i + 1))), (1, .int (nI (i + 1 - cnt (col (x.1 0) 0) (i + 1)))), (0, .ref (qm 0))] := hl
        refine lv_goto (tgt := 4) hx hb dModel_empty_32 (by decide) ?_
        exact ih4 (i + 1) ls H locs (by omega) hl hP hD hS
  exact loop4 P 0 ls s.heap [] (by omega) hl hP hD hS
theorem dModel_send_0 : decode cModel_send 0 = .ok (.iconst 0, 1) := by decide +kernel
theorem dModel_send_1 : decode cModel_send 1 = .ok (.istore 8, 2) := by decide +kernel
theorem dModel_send_3 : decode cModel_send 3 = .ok (.aload_n 0, 1) := by decide +kernel
theorem dModel_send_4 : decode cModel_send 4 = .ok (.getfield 13, 3) := by decide +kernel
theorem dModel_send_7 : decode cModel_send 7 = .ok (.iload 8, 2) := by decide +kernel
theorem dModel_send_9 : decode cModel_send 9 = .ok (.iaload, 1) := by decide +kernel
theorem dModel_send_10 : decode cModel_send 10 = .ok (.ifCond .le 9, 3) := by decide +kernel
theorem dModel_send_13 : decode cModel_send 13 = .ok (.iinc 8  1, 3) := by decide +kernel
theorem dModel_send_16 : decode cModel_send 16 = .ok (.goto (-13), 3) := by decide +kernel
theorem dModel_send_19 : decode cModel_send 19 = .ok (.aload_n 0, 1) := by decide +kernel
theorem dModel_send_20 : decode cModel_send 20 = .ok (.getfield 13, 3) := by decide +kernel
theorem dModel_send_23 : decode cModel_send 23 = .ok (.iload 8, 2) := by decide +kernel
theorem dModel_send_25 : decode cModel_send 25 = .ok (.iload_n 1, 1) := by decide +kernel
theorem dModel_send_26 : decode cModel_send 26 = .ok (.iastore, 1) := by decide +kernel
theorem dModel_send_27 : decode cModel_send 27 = .ok (.aload_n 0, 1) := by decide +kernel
theorem dModel_send_28 : decode cModel_send 28 = .ok (.getfield 17, 3) := by decide +kernel
theorem dModel_send_31 : decode cModel_send 31 = .ok (.iload 8, 2) := by decide +kernel
theorem dModel_send_33 : decode cModel_send 33 = .ok (.iload_n 2, 1) := by decide +kernel
theorem dModel_send_34 : decode cModel_send 34 = .ok (.iastore, 1) := by decide +kernel
theorem dModel_send_35 : decode cModel_send 35 = .ok (.aload_n 0, 1) := by decide +kernel
theorem dModel_send_36 : decode cModel_send 36 = .ok (.getfield 20, 3) := by decide +kernel
theorem dModel_send_39 : decode cModel_send 39 = .ok (.iload 8, 2) := by decide +kernel
theorem dModel_send_41 : decode cModel_send 41 = .ok (.iload_n 3, 1) := by decide +kernel
theorem dModel_send_42 : decode cModel_send 42 = .ok (.iastore, 1) := by decide +kernel
theorem dModel_send_43 : decode cModel_send 43 = .ok (.aload_n 0, 1) := by decide +kernel
theorem dModel_send_44 : decode cModel_send 44 = .ok (.getfield 23, 3) := by decide +kernel
theorem dModel_send_47 : decode cModel_send 47 = .ok (.iload 8, 2) := by decide +kernel
theorem dModel_send_49 : decode cModel_send 49 = .ok (.iload 4, 2) := by decide +kernel
theorem dModel_send_51 : decode cModel_send 51 = .ok (.iastore, 1) := by decide +kernel
theorem dModel_send_52 : decode cModel_send 52 = .ok (.aload_n 0, 1) := by decide +kernel
theorem dModel_send_53 : decode cModel_send 53 = .ok (.getfield 26, 3) := by decide +kernel
theorem dModel_send_56 : decode cModel_send 56 = .ok (.iload 8, 2) := by decide +kernel
theorem dModel_send_58 : decode cModel_send 58 = .ok (.iload 5, 2) := by decide +kernel
theorem dModel_send_60 : decode cModel_send 60 = .ok (.iastore, 1) := by decide +kernel
theorem dModel_send_61 : decode cModel_send 61 = .ok (.aload_n 0, 1) := by decide +kernel
theorem dModel_send_62 : decode cModel_send 62 = .ok (.getfield 29, 3) := by decide +kernel
theorem dModel_send_65 : decode cModel_send 65 = .ok (.iload 8, 2) := by decide +kernel
theorem dModel_send_67 : decode cModel_send 67 = .ok (.iload 6, 2) := by decide +kernel
theorem dModel_send_69 : decode cModel_send 69 = .ok (.iastore, 1) := by decide +kernel
theorem dModel_send_70 : decode cModel_send 70 = .ok (.aload_n 0, 1) := by decide +kernel
theorem dModel_send_71 : decode cModel_send 71 = .ok (.getfield 32, 3) := by decide +kernel
theorem dModel_send_74 : decode cModel_send 74 = .ok (.iload 8, 2) := by decide +kernel
theorem dModel_send_76 : decode cModel_send 76 = .ok (.iload 7, 2) := by decide +kernel
theorem dModel_send_78 : decode cModel_send 78 = .ok (.iastore, 1) := by decide +kernel
theorem dModel_send_79 : decode cModel_send 79 = .ok (.iload 8, 2) := by decide +kernel
theorem dModel_send_81 : decode cModel_send 81 = .ok (.ireturn, 1) := by decide +kernel
set_option maxRecDepth 100000 in
set_option maxHeartbeats 4000000 in
theorem m_send (l : Launch) (D : va_G) (cI cZ : ClassId) (qm : Nat → Nat) (n : Nat) (S : Nat) (P : Nat) (x : St) (k : Int32) (s1 : Int32) (r1 : Int32) (sl : Int32) (b : Int32) (v : Int32) (o : Int32) (hn1 : 1 ≤ n) (hn5 : n ≤ 5) (hS1 : 1 ≤ S) (hS4 : S ≤ 4) (hP5 : 5 ≤ P) (hP64 : P ≤ 64) (hM : Imsg n S x) (hroom : cntx P x < P) : MI l D [(cI, .int), (cZ, .boolean)] yModel_send wsModel_send ({ frames := 0, cells := 0, slots := 0, locals := 0 }) [.ref (qm 0), .int k, .int s1, .int r1, .int sl, .int b, .int v, .int o] (wM qm cI cZ n S P x) (fun r w => r = nI (lst (col (x.1 0) 0) P 0) ∧ w = (wM qm cI cZ n S P (send1 P x k s1 r1 sl b v o))) := by
  intro sz
  have hlt : lst (col (x.1 0) 0) P 0 < P := lst_lt hroom
  refine Met.ofW (cc := cModel_send) (maxL := 9) (ret := (Option.some .int)) (by decide) rfl ?_
  intro p e s m args below meth c s₁ B hml hv
  obtain ⟨rfl, hsz, hP, hK, hD0, hZ⟩ := hv
  have hx := B.exec
  have hb := B.bytes
  have hr := B.returns
  have hts := atoms_spec (ws := wsModel_send) B.pre
  have hown : s.vm.findClass RModel = some m.cls := findClass_of_methodNamed B.named
  have hlocks := B.notSynchronized
  subst hsz
  have hD := hD0.self (sz := s.heap.size)
  generalize hAe : va_A (wM qm cI cZ n S P x) s.heap.size = A at hD ⊢
  have hA : ∀ q : Nat, s.heap.size ≤ q → A q := fun q h => by rw [← hAe]; exact Or.inr h
  have hS : va_S A s.heap s.heap [] := va_S.rf
  have hP : va_P D vwCl (wM qm cI cZ n S P x) s.heap := hP
  have hl := lv_entry ([.ref (qm 0), .int k, .int s1, .int r1, .int sl, .int b, .int v, .int o]) (n := 9) (Nat.le_of_ble_eq_true rfl)
  rw [lg_entry_eq]
  generalize (lg_sl ([.ref (qm 0), .int k, .int s1, .int r1, .int sl, .int b, .int v, .int o]) ++ List.replicate (9 - (lg_sl ([.ref (qm 0), .int k, .int s1, .int r1, .int sl, .int b, .int v, .int o])).length) Slot.unset).toArray = ls at hl ⊢
  have hl : lv_has ls 9 [(0, .ref (qm 0)), (1, .int k), (2, .int s1), (3, .int r1), (4, .int sl), (5, .int b), (6, .int v), (7, .int o)] := hl
  refine lv_iconst (v := nI 0) hx hb dModel_send_0 (by decide) ?_
  refine lv_istore hx hb dModel_send_1 hl (by decide) rfl (fun ls hl => ?_)
  have hl : lv_has ls 9 [(8, .int (nI 0)), (0, .ref (qm 0)), (1, .int k), (2, .int s1), (3, .int r1), (4, .int sl), (5, .int b), (6, .int v), (7, .int o)] := hl
  have loop3 : ∀ (d3 i : Nat) (ls : Array Slot) (H : Heap) (locs : List Loc), i + d3 = lst (col (x.1 0) 0) P 0 → lv_has ls 9 [(8, .int (nI i)), (0, .ref (qm 0)), (1, .int k), (2, .int s1), (3, .int r1), (4, .int sl), (5, .int b), (6, .int v), (7, .int o)] → va_P D vwCl (wM qm cI cZ n S P x) H → va_D A (wM qm cI cZ n S P x) → va_S A s.heap H locs → W p l e (headSpec wsModel_send { frames := 0, cells := 0, slots := 0, locals := 0 }).room s m [.ref (qm 0), .int k, .int s1, .int r1, .int sl, .int b, .int v, .int o].toArray below meth c H locs 0 0 (MQ below (va_Qi (fun r w => r = nI (lst (col (x.1 0) 0) P 0) ∧ w = (wM qm cI cZ n S P (send1 P x k s1 r1 sl b v o))) (QW D [(cI, .int), (cZ, .boolean)] A) A) [.ref (qm 0), .int k, .int s1, .int r1, .int sl, .int b, .int v, .int o].toArray s 0 0 A) (F0 m 3 ls []) := by
    intro d3
    induction d3 with
    | zero =>
      intro i ls H locs hid3  hl hP hD hS
      refine lv_aload_n hx hb dModel_send_3 rfl (lv_at hl 1 rfl) ?_
      refine va_get (D := D) (ci := 5) (v := .ref (qm 2)) (C := RModel) (T := TModel) (N := 25) hx hb hts (fun w h => mc (uModel_in w h)) hown hK hP 0 rfl rfl 4 (by decide) (hts _ (mc wd409)) (fun _ h9 => h9) rfl dModel_send_4 ?_
      refine lv_iload hx hb dModel_send_7 (lv_at hl 0 rfl) ?_
      refine ka_ld (v := x.1 0 i 0) hx hb hK hP 2 0 rfl rfl (by omega) (by omega) rfl dModel_send_9 ?_
      have hin : i = lst (col (x.1 0) 0) P 0 := by omega
      subst hin
      have hz0 : x.1 0 (lst (col (x.1 0) 0) P 0) 0 = 0 := (lst_spec (col (x.1 0) 0) P 0).2.2.2 (by omega)
      refine lv_if_le (tgt := 19) hx hb dModel_send_10 (by decide) (fun _ => ?_) (fun h9 => absurd (show x.1 0 (lst (col (x.1 0) 0) P 0) 0 ≤ 0 by rw [hz0]; decide) h9)
      refine lv_aload_n hx hb dModel_send_19 rfl (lv_at hl 1 rfl) ?_
      refine va_get (D := D) (ci := 5) (v := .ref (qm 2)) (C := RModel) (T := TModel) (N := 25) hx hb hts (fun w h => mc (uModel_in w h)) hown hK hP 0 rfl rfl 4 (by decide) (hts _ (mc wd409)) (fun _ h9 => h9) rfl dModel_send_20 ?_
      refine lv_iload hx hb dModel_send_23 (lv_at hl 0 rfl) ?_
      refine lv_iload_n hx hb dModel_send_25 rfl (lv_at hl 2 rfl) ?_
      refine ka_st (f' := col (up2 (x.1 0) (lst (col (x.1 0) 0) P 0) 0 k) 0) hx hb hK hP hD hS 2 0 rfl rfl (by omega) (by omega) col_up dModel_send_26 (fun H locs hP hD hS => ?_)
      have hP : va_P D vwCl (wR qm cI cZ n S P (col (x.1 13) 0) (col (up2 (x.1 0) (lst (col (x.1 0) 0) P 0) 0 k) 0) (col (x.1 0) 1) (col (x.1 0) 2) (col (x.1 0) 3) (col (x.1 0) 4) (col (x.1 0) 5) (col (x.1 0) 6) (sq 4 (x.1 2)) (sq 4 (x.1 1)) (sq 4 (x.1 6)) (sq 4 (x.1 3)) (sq 4 (x.1 4)) (sq 4 (x.1 7)) (sq 4 (x.1 8)) (sq 4 (x.1 9)) (sq 4 (x.1 10)) (hrm (x.2 0)) (hrm (x.2 1)) (sq 4 (x.1 11)) (x.1 12 0 0) (x.1 12 0 1)) H := hP
      have hD : va_D A (wR qm cI cZ n S P (col (x.1 13) 0) (col (up2 (x.1 0) (lst (col (x.1 0) 0) P 0) 0 k) 0) (col (x.1 0) 1) (col (x.1 0) 2) (col (x.1 0) 3) (col (x.1 0) 4) (col (x.1 0) 5) (col (x.1 0) 6) (sq 4 (x.1 2)) (sq 4 (x.1 1)) (sq 4 (x.1 6)) (sq 4 (x.1 3)) (sq 4 (x.1 4)) (sq 4 (x.1 7)) (sq 4 (x.1 8)) (sq 4 (x.1 9)) (sq 4 (x.1 10)) (hrm (x.2 0)) (hrm (x.2 1)) (sq 4 (x.1 11)) (x.1 12 0 0) (x.1 12 0 1)) := hD
      refine lv_aload_n hx hb dModel_send_27 rfl (lv_at hl 1 rfl) ?_
      refine va_get (D := D) (ci := 5) (v := .ref (qm 3)) (C := RModel) (T := TModel) (N := 25) hx hb hts (fun w h => mc (uModel_in w h)) hown hK hP 0 rfl rfl 5 (by decide) (hts _ (mc wd410)) (fun _ h9 => h9) rfl dModel_send_28 ?_
      refine lv_iload hx hb dModel_send_31 (lv_at hl 0 rfl) ?_
      refine lv_iload_n hx hb dModel_send_33 rfl (lv_at hl 3 rfl) ?_
      refine ka_st (f' := col (up2 (x.1 0) (lst (col (x.1 0) 0) P 0) 1 s1) 1) hx hb hK hP hD hS 3 0 rfl rfl (by omega) (by omega) col_up dModel_send_34 (fun H locs hP hD hS => ?_)
      have hP : va_P D vwCl (wR qm cI cZ n S P (col (x.1 13) 0) (col (up2 (x.1 0) (lst (col (x.1 0) 0) P 0) 0 k) 0) (col (up2 (x.1 0) (lst (col (x.1 0) 0) P 0) 1 s1) 1) (col (x.1 0) 2) (col (x.1 0) 3) (col (x.1 0) 4) (col (x.1 0) 5) (col (x.1 0) 6) (sq 4 (x.1 2)) (sq 4 (x.1 1)) (sq 4 (x.1 6)) (sq 4 (x.1 3)) (sq 4 (x.1 4)) (sq 4 (x.1 7)) (sq 4 (x.1 8)) (sq 4 (x.1 9)) (sq 4 (x.1 10)) (hrm (x.2 0)) (hrm (x.2 1)) (sq 4 (x.1 11)) (x.1 12 0 0) (x.1 12 0 1)) H := hP
      have hD : va_D A (wR qm cI cZ n S P (col (x.1 13) 0) (col (up2 (x.1 0) (lst (col (x.1 0) 0) P 0) 0 k) 0) (col (up2 (x.1 0) (lst (col (x.1 0) 0) P 0) 1 s1) 1) (col (x.1 0) 2) (col (x.1 0) 3) (col (x.1 0) 4) (col (x.1 0) 5) (col (x.1 0) 6) (sq 4 (x.1 2)) (sq 4 (x.1 1)) (sq 4 (x.1 6)) (sq 4 (x.1 3)) (sq 4 (x.1 4)) (sq 4 (x.1 7)) (sq 4 (x.1 8)) (sq 4 (x.1 9)) (sq 4 (x.1 10)) (hrm (x.2 0)) (hrm (x.2 1)) (sq 4 (x.1 11)) (x.1 12 0 0) (x.1 12 0 1)) := hD
      refine lv_aload_n hx hb dModel_send_35 rfl (lv_at hl 1 rfl) ?_
      refine va_get (D := D) (ci := 5) (v := .ref (qm 4)) (C := RModel) (T := TModel) (N := 25) hx hb hts (fun w h => mc (uModel_in w h)) hown hK hP 0 rfl rfl 6 (by decide) (hts _ (mc wd411)) (fun _ h9 => h9) rfl dModel_send_36 ?_
      refine lv_iload hx hb dModel_send_39 (lv_at hl 0 rfl) ?_
      refine lv_iload_n hx hb dModel_send_41 rfl (lv_at hl 4 rfl) ?_
      refine ka_st (f' := col (up2 (x.1 0) (lst (col (x.1 0) 0) P 0) 2 r1) 2) hx hb hK hP hD hS 4 0 rfl rfl (by omega) (by omega) col_up dModel_send_42 (fun H locs hP hD hS => ?_)
      have hP : va_P D vwCl (wR qm cI cZ n S P (col (x.1 13) 0) (col (up2 (x.1 0) (lst (col (x.1 0) 0) P 0) 0 k) 0) (col (up2 (x.1 0) (lst (col (x.1 0) 0) P 0) 1 s1) 1) (col (up2 (x.1 0) (lst (col (x.1 0) 0) P 0) 2 r1) 2) (col (x.1 0) 3) (col (x.1 0) 4) (col (x.1 0) 5) (col (x.1 0) 6) (sq 4 (x.1 2)) (sq 4 (x.1 1)) (sq 4 (x.1 6)) (sq 4 (x.1 3)) (sq 4 (x.1 4)) (sq 4 (x.1 7)) (sq 4 (x.1 8)) (sq 4 (x.1 9)) (sq 4 (x.1 10)) (hrm (x.2 0)) (hrm (x.2 1)) (sq 4 (x.1 11)) (x.1 12 0 0) (x.1 12 0 1)) H := hP
      have hD : va_D A (wR qm cI cZ n S P (col (x.1 13) 0) (col (up2 (x.1 0) (lst (col (x.1 0) 0) P 0) 0 k) 0) (col (up2 (x.1 0) (lst (col (x.1 0) 0) P 0) 1 s1) 1) (col (up2 (x.1 0) (lst (col (x.1 0) 0) P 0) 2 r1) 2) (col (x.1 0) 3) (col (x.1 0) 4) (col (x.1 0) 5) (col (x.1 0) 6) (sq 4 (x.1 2)) (sq 4 (x.1 1)) (sq 4 (x.1 6)) (sq 4 (x.1 3)) (sq 4 (x.1 4)) (sq 4 (x.1 7)) (sq 4 (x.1 8)) (sq 4 (x.1 9)) (sq 4 (x.1 10)) (hrm (x.2 0)) (hrm (x.2 1)) (sq 4 (x.1 11)) (x.1 12 0 0) (x.1 12 0 1)) := hD
      refine lv_aload_n hx hb dModel_send_43 rfl (lv_at hl 1 rfl) ?_
      refine va_get (D := D) (ci := 5) (v := .ref (qm 5)) (C := RModel) (T := TModel) (N := 25) hx hb hts (fun w h => mc (uModel_in w h)) hown hK hP 0 rfl rfl 7 (by decide) (hts _ (mc wd412)) (fun _ h9 => h9) rfl dModel_send_44 ?_
      refine lv_iload hx hb dModel_send_47 (lv_at hl 0 rfl) ?_
      refine lv_iload hx hb dModel_send_49 (lv_at hl 5 rfl) ?_
      refine ka_st (f' := col (up2 (x.1 0) (lst (col (x.1 0) 0) P 0) 3 sl) 3) hx hb hK hP hD hS 5 0 rfl rfl (by omega) (by omega) col_up dModel_send_51 (fun H locs hP hD hS => ?_)
      have hP : va_P D vwCl (wR qm cI cZ n S P (col (x.1 13) 0) (col (up2 (x.1 0) (lst (col (x.1 0) 0) P 0) 0 k) 0) (col (up2 (x.1 0) (lst (col (x.1 0) 0) P 0) 1 s1) 1) (col (up2 (x.1 0) (lst (col (x.1 0) 0) P 0) 2 r1) 2) (col (up2 (x.1 0) (lst (col (x.1 0) 0) P 0) 3 sl) 3) (col (x.1 0) 4) (col (x.1 0) 5) (col (x.1 0) 6) (sq 4 (x.1 2)) (sq 4 (x.1 1)) (sq 4 (x.1 6)) (sq 4 (x.1 3)) (sq 4 (x.1 4)) (sq 4 (x.1 7)) (sq 4 (x.1 8)) (sq 4 (x.1 9)) (sq 4 (x.1 10)) (hrm (x.2 0)) (hrm (x.2 1)) (sq 4 (x.1 11)) (x.1 12 0 0) (x.1 12 0 1)) H := hP
      have hD : va_D A (wR qm cI cZ n S P (col (x.1 13) 0) (col (up2 (x.1 0) (lst (col (x.1 0) 0) P 0) 0 k) 0) (col (up2 (x.1 0) (lst (col (x.1 0) 0) P 0) 1 s1) 1) (col (up2 (x.1 0) (lst (col (x.1 0) 0) P 0) 2 r1) 2) (col (up2 (x.1 0) (lst (col (x.1 0) 0) P 0) 3 sl) 3) (col (x.1 0) 4) (col (x.1 0) 5) (col (x.1 0) 6) (sq 4 (x.1 2)) (sq 4 (x.1 1)) (sq 4 (x.1 6)) (sq 4 (x.1 3)) (sq 4 (x.1 4)) (sq 4 (x.1 7)) (sq 4 (x.1 8)) (sq 4 (x.1 9)) (sq 4 (x.1 10)) (hrm (x.2 0)) (hrm (x.2 1)) (sq 4 (x.1 11)) (x.1 12 0 0) (x.1 12 0 1)) := hD
      refine lv_aload_n hx hb dModel_send_52 rfl (lv_at hl 1 rfl) ?_
      refine va_get (D := D) (ci := 5) (v := .ref (qm 6)) (C := RModel) (T := TModel) (N := 25) hx hb hts (fun w h => mc (uModel_in w h)) hown hK hP 0 rfl rfl 8 (by decide) (hts _ (mc wd413)) (fun _ h9 => h9) rfl dModel_send_53 ?_
      refine lv_iload hx hb dModel_send_56 (lv_at hl 0 rfl) ?_
      refine lv_iload hx hb dModel_send_58 (lv_at hl 6 rfl) ?_
      refine ka_st (f' := col (up2 (x.1 0) (lst (col (x.1 0) 0) P 0) 4 b) 4) hx hb hK hP hD hS 6 0 rfl rfl (by omega) (by omega) col_up dModel_send_60 (fun H locs hP hD hS => ?_)
      have hP : va_P D vwCl (wR qm cI cZ n S P (col (x.1 13) 0) (col (up2 (x.1 0) (lst (col (x.1 0) 0) P 0) 0 k) 0) (col (up2 (x.1 0) (lst (col (x.1 0) 0) P 0) 1 s1) 1) (col (up2 (x.1 0) (lst (col (x.1 0) 0) P 0) 2 r1) 2) (col (up2 (x.1 0) (lst (col (x.1 0) 0) P 0) 3 sl) 3) (col (up2 (x.1 0) (lst (col (x.1 0) 0) P 0) 4 b) 4) (col (x.1 0) 5) (col (x.1 0) 6) (sq 4 (x.1 2)) (sq 4 (x.1 1)) (sq 4 (x.1 6)) (sq 4 (x.1 3)) (sq 4 (x.1 4)) (sq 4 (x.1 7)) (sq 4 (x.1 8)) (sq 4 (x.1 9)) (sq 4 (x.1 10)) (hrm (x.2 0)) (hrm (x.2 1)) (sq 4 (x.1 11)) (x.1 12 0 0) (x.1 12 0 1)) H := hP
      have hD : va_D A (wR qm cI cZ n S P (col (x.1 13) 0) (col (up2 (x.1 0) (lst (col (x.1 0) 0) P 0) 0 k) 0) (col (up2 (x.1 0) (lst (col (x.1 0) 0) P 0) 1 s1) 1) (col (up2 (x.1 0) (lst (col (x.1 0) 0) P 0) 2 r1) 2) (col (up2 (x.1 0) (lst (col (x.1 0) 0) P 0) 3 sl) 3) (col (up2 (x.1 0) (lst (col (x.1 0) 0) P 0) 4 b) 4) (col (x.1 0) 5) (col (x.1 0) 6) (sq 4 (x.1 2)) (sq 4 (x.1 1)) (sq 4 (x.1 6)) (sq 4 (x.1 3)) (sq 4 (x.1 4)) (sq 4 (x.1 7)) (sq 4 (x.1 8)) (sq 4 (x.1 9)) (sq 4 (x.1 10)) (hrm (x.2 0)) (hrm (x.2 1)) (sq 4 (x.1 11)) (x.1 12 0 0) (x.1 12 0 1)) := hD
      refine lv_aload_n hx hb dModel_send_61 rfl (lv_at hl 1 rfl) ?_
      refine va_get (D := D) (ci := 5) (v := .ref (qm 7)) (C := RModel) (T := TModel) (N := 25) hx hb hts (fun w h => mc (uModel_in w h)) hown hK hP 0 rfl rfl 9 (by decide) (hts _ (mc wd414)) (fun _ h9 => h9) rfl dModel_send_62 ?_
      refine lv_iload hx hb dModel_send_65 (lv_at hl 0 rfl) ?_
      refine lv_iload hx hb dModel_send_67 (lv_at hl 7 rfl) ?_
      refine ka_st (f' := col (up2 (x.1 0) (lst (col (x.1 0) 0) P 0) 5 v) 5) hx hb hK hP hD hS 7 0 rfl rfl (by omega) (by omega) col_up dModel_send_69 (fun H locs hP hD hS => ?_)
      have hP : va_P D vwCl (wR qm cI cZ n S P (col (x.1 13) 0) (col (up2 (x.1 0) (lst (col (x.1 0) 0) P 0) 0 k) 0) (col (up2 (x.1 0) (lst (col (x.1 0) 0) P 0) 1 s1) 1) (col (up2 (x.1 0) (lst (col (x.1 0) 0) P 0) 2 r1) 2) (col (up2 (x.1 0) (lst (col (x.1 0) 0) P 0) 3 sl) 3) (col (up2 (x.1 0) (lst (col (x.1 0) 0) P 0) 4 b) 4) (col (up2 (x.1 0) (lst (col (x.1 0) 0) P 0) 5 v) 5) (col (x.1 0) 6) (sq 4 (x.1 2)) (sq 4 (x.1 1)) (sq 4 (x.1 6)) (sq 4 (x.1 3)) (sq 4 (x.1 4)) (sq 4 (x.1 7)) (sq 4 (x.1 8)) (sq 4 (x.1 9)) (sq 4 (x.1 10)) (hrm (x.2 0)) (hrm (x.2 1)) (sq 4 (x.1 11)) (x.1 12 0 0) (x.1 12 0 1)) H := hP
      have hD : va_D A (wR qm cI cZ n S P (col (x.1 13) 0) (col (up2 (x.1 0) (lst (col (x.1 0) 0) P 0) 0 k) 0) (col (up2 (x.1 0) (lst (col (x.1 0) 0) P 0) 1 s1) 1) (col (up2 (x.1 0) (lst (col (x.1 0) 0) P 0) 2 r1) 2) (col (up2 (x.1 0) (lst (col (x.1 0) 0) P 0) 3 sl) 3) (col (up2 (x.1 0) (lst (col (x.1 0) 0) P 0) 4 b) 4) (col (up2 (x.1 0) (lst (col (x.1 0) 0) P 0) 5 v) 5) (col (x.1 0) 6) (sq 4 (x.1 2)) (sq 4 (x.1 1)) (sq 4 (x.1 6)) (sq 4 (x.1 3)) (sq 4 (x.1 4)) (sq 4 (x.1 7)) (sq 4 (x.1 8)) (sq 4 (x.1 9)) (sq 4 (x.1 10)) (hrm (x.2 0)) (hrm (x.2 1)) (sq 4 (x.1 11)) (x.1 12 0 0) (x.1 12 0 1)) := hD
      refine lv_aload_n hx hb dModel_send_70 rfl (lv_at hl 1 rfl) ?_
      refine va_get (D := D) (ci := 5) (v := .ref (qm 8)) (C := RModel) (T := TModel) (N := 25) hx hb hts (fun w h => mc (uModel_in w h)) hown hK hP 0 rfl rfl 10 (by decide) (hts _ (mc wd415)) (fun _ h9 => h9) rfl dModel_send_71 ?_
      refine lv_iload hx hb dModel_send_74 (lv_at hl 0 rfl) ?_
      refine lv_iload hx hb dModel_send_76 (lv_at hl 8 rfl) ?_
      refine ka_st (f' := col (up2 (x.1 0) (lst (col (x.1 0) 0) P 0) 6 o) 6) hx hb hK hP hD hS 8 0 rfl rfl (by omega) (by omega) col_up dModel_send_78 (fun H locs hP hD hS => ?_)
      have hP : va_P D vwCl (wR qm cI cZ n S P (col (x.1 13) 0) (col (up2 (x.1 0) (lst (col (x.1 0) 0) P 0) 0 k) 0) (col (up2 (x.1 0) (lst (col (x.1 0) 0) P 0) 1 s1) 1) (col (up2 (x.1 0) (lst (col (x.1 0) 0) P 0) 2 r1) 2) (col (up2 (x.1 0) (lst (col (x.1 0) 0) P 0) 3 sl) 3) (col (up2 (x.1 0) (lst (col (x.1 0) 0) P 0) 4 b) 4) (col (up2 (x.1 0) (lst (col (x.1 0) 0) P 0) 5 v) 5) (col (up2 (x.1 0) (lst (col (x.1 0) 0) P 0) 6 o) 6) (sq 4 (x.1 2)) (sq 4 (x.1 1)) (sq 4 (x.1 6)) (sq 4 (x.1 3)) (sq 4 (x.1 4)) (sq 4 (x.1 7)) (sq 4 (x.1 8)) (sq 4 (x.1 9)) (sq 4 (x.1 10)) (hrm (x.2 0)) (hrm (x.2 1)) (sq 4 (x.1 11)) (x.1 12 0 0) (x.1 12 0 1)) H := hP
      have hD : va_D A (wR qm cI cZ n S P (col (x.1 13) 0) (col (up2 (x.1 0) (lst (col (x.1 0) 0) P 0) 0 k) 0) (col (up2 (x.1 0) (lst (col (x.1 0) 0) P 0) 1 s1) 1) (col (up2 (x.1 0) (lst (col (x.1 0) 0) P 0) 2 r1) 2) (col (up2 (x.1 0) (lst (col (x.1 0) 0) P 0) 3 sl) 3) (col (up2 (x.1 0) (lst (col (x.1 0) 0) P 0) 4 b) 4) (col (up2 (x.1 0) (lst (col (x.1 0) 0) P 0) 5 v) 5) (col (up2 (x.1 0) (lst (col (x.1 0) 0) P 0) 6 o) 6) (sq 4 (x.1 2)) (sq 4 (x.1 1)) (sq 4 (x.1 6)) (sq 4 (x.1 3)) (sq 4 (x.1 4)) (sq 4 (x.1 7)) (sq 4 (x.1 8)) (sq 4 (x.1 9)) (sq 4 (x.1 10)) (hrm (x.2 0)) (hrm (x.2 1)) (sq 4 (x.1 11)) (x.1 12 0 0) (x.1 12 0 1)) := hD
      have hW1 : (wR qm cI cZ n S P (col (x.1 13) 0) (col (up2 (x.1 0) (lst (col (x.1 0) 0) P 0) 0 k) 0) (col (up2 (x.1 0) (lst (col (x.1 0) 0) P 0) 1 s1) 1) (col (up2 (x.1 0) (lst (col (x.1 0) 0) P 0) 2 r1) 2) (col (up2 (x.1 0) (lst (col (x.1 0) 0) P 0) 3 sl) 3) (col (up2 (x.1 0) (lst (col (x.1 0) 0) P 0) 4 b) 4) (col (up2 (x.1 0) (lst (col (x.1 0) 0) P 0) 5 v) 5) (col (up2 (x.1 0) (lst (col (x.1 0) 0) P 0) 6 o) 6) (sq 4 (x.1 2)) (sq 4 (x.1 1)) (sq 4 (x.1 6)) (sq 4 (x.1 3)) (sq 4 (x.1 4)) (sq 4 (x.1 7)) (sq 4 (x.1 8)) (sq 4 (x.1 9)) (sq 4 (x.1 10)) (hrm (x.2 0)) (hrm (x.2 1)) (sq 4 (x.1 11)) (x.1 12 0 0) (x.1 12 0 1)) = (wM qm cI cZ n S P (send1 P x k s1 r1 sl b v o)) := wM_send
      rw [hW1] at hP hD
      refine lv_iload hx hb dModel_send_79 (lv_at hl 0 rfl) ?_
      exact W.iret (v := nI (lst (col (x.1 0) 0) P 0)) hx hb hr (fun t9 ht9 hW9 => ⟨⟨nI (lst (col (x.1 0) 0) P 0), (wM qm cI cZ n S P (send1 P x k s1 r1 sl b v o)), rfl, ⟨rfl, rfl⟩, by rw [ht9]; exact hP, va_K.moved hW9.alike hK, hD⟩, hS.F ht9⟩) hS.2.2 dModel_send_81
    | succ d3 ih3 =>
      intro i ls H locs hid3  hl hP hD hS
      refine lv_aload_n hx hb dModel_send_3 rfl (lv_at hl 1 rfl) ?_
      refine va_get (D := D) (ci := 5) (v := .ref (qm 2)) (C := RModel) (T := TModel) (N := 25) hx hb hts (fun w h => mc (uModel_in w h)) hown hK hP 0 rfl rfl 4 (by decide) (hts _ (mc wd409)) (fun _ h9 => h9) rfl dModel_send_4 ?_
      refine lv_iload hx hb dModel_send_7 (lv_at hl 0 rfl) ?_
      refine ka_ld (v := x.1 0 i 0) hx hb hK hP 2 0 rfl rfl (by omega) (by omega) rfl dModel_send_9 ?_
      refine lv_if_le (tgt := 19) hx hb dModel_send_10 (by decide) (fun h9 => absurd h9 (kpos hM (show x.1 0 i 0 ≠ 0 from (lst_spec (col (x.1 0) 0) P 0).2.2.1 i (by omega) (by omega)))) (fun _ => ?_)
      refine lv_iinc (k := 0) (v := nI (i + 1)) hx hb dModel_send_13 hl rfl ((nI_succ _).symm) (by decide) rfl (fun ls hl => ?_)
      have hl : lv_has ls 9 [(8, .int (nI (i + 1))), (0, .ref (qm 0)), (1, .int k), (2, .int s1), (3, .int r1), (4, .int sl), (5, .int b), (6, .int v), (7, .int o)] := hl
      refine lv_goto (tgt := 3) hx hb dModel_send_16 (by decide) ?_
      exact ih3 (i + 1) ls H locs (by omega) hl hP hD hS
  exact loop3 (lst (col (x.1 0) 0) P 0) 0 ls s.heap [] (by omega) hl hP hD hS
theorem dModel_sendAll_0 : decode cModel_sendAll 0 = .ok (.iconst 0, 1) := by decide +kernel
theorem dModel_sendAll_1 : decode cModel_sendAll 1 = .ok (.istore 6, 2) := by decide +kernel
theorem dModel_sendAll_3 : decode cModel_sendAll 3 = .ok (.iload 6, 2) := by decide +kernel
theorem dModel_sendAll_5 : decode cModel_sendAll 5 = .ok (.aload_n 0, 1) := by decide +kernel
theorem dModel_sendAll_6 : decode cModel_sendAll 6 = .ok (.getfield 71, 3) := by decide +kernel
theorem dModel_sendAll_9 : decode cModel_sendAll 9 = .ok (.if_icmp .ge 25, 3) := by decide +kernel
theorem dModel_sendAll_12 : decode cModel_sendAll 12 = .ok (.aload_n 0, 1) := by decide +kernel
theorem dModel_sendAll_13 : decode cModel_sendAll 13 = .ok (.iload_n 1, 1) := by decide +kernel
theorem dModel_sendAll_14 : decode cModel_sendAll 14 = .ok (.iload_n 2, 1) := by decide +kernel
theorem dModel_sendAll_15 : decode cModel_sendAll 15 = .ok (.iload 6, 2) := by decide +kernel
theorem dModel_sendAll_17 : decode cModel_sendAll 17 = .ok (.iload_n 3, 1) := by decide +kernel
theorem dModel_sendAll_18 : decode cModel_sendAll 18 = .ok (.iload 4, 2) := by decide +kernel
theorem dModel_sendAll_20 : decode cModel_sendAll 20 = .ok (.iload 5, 2) := by decide +kernel
theorem dModel_sendAll_22 : decode cModel_sendAll 22 = .ok (.iconst (-1), 1) := by decide +kernel
theorem dModel_sendAll_23 : decode cModel_sendAll 23 = .ok (.invokevirtual 81, 3) := by decide +kernel
theorem dModel_sendAll_26 : decode cModel_sendAll 26 = .ok (.istore 7, 2) := by decide +kernel
theorem dModel_sendAll_28 : decode cModel_sendAll 28 = .ok (.iinc 6  1, 3) := by decide +kernel
theorem dModel_sendAll_31 : decode cModel_sendAll 31 = .ok (.goto (-28), 3) := by decide +kernel
theorem dModel_sendAll_34 : decode cModel_sendAll 34 = .ok (.return_, 1) := by decide +kernel
set_option maxRecDepth 100000 in
set_option maxHeartbeats 4000000 in
theorem m_sendAll (l : Launch) (D : va_G) (cI cZ : ClassId) (qm : Nat → Nat) (n : Nat) (S : Nat) (P : Nat) (x : St) (k : Int32) (s1 : Int32) (sl : Int32) (b : Int32) (v : Int32) (hn1 : 1 ≤ n) (hn5 : n ≤ 5) (hS1 : 1 ≤ S) (hS4 : S ≤ 4) (hP5 : 5 ≤ P) (hP64 : P ≤ 64) (hM : Imsg n S x) (hVs : ∀ j, j < n → vmsg n S k s1 (nI j) sl v) (hroom : cntx P x + n ≤ P) : MV l D [(cI, .int), (cZ, .boolean)] yModel_sendAll wsModel_sendAll ({ frames := 1, cells := 0, slots := 0, locals := 28 }) [.ref (qm 0), .int k, .int s1, .int sl, .int b, .int v] (wM qm cI cZ n S P x) (fun w => w = (wM qm cI cZ n S P (sendA P x k s1 sl b v n))) := by
  intro sz
  have hk0 : k ≠ 0 := vmsg_nz (hVs 0 (by omega))
  refine Met.ofW (cc := cModel_sendAll) (maxL := 8) (ret := (Option.none : Option ClassFile.FieldType)) (by decide) rfl ?_
  intro p e s m args below meth c s₁ B hml hv
  obtain ⟨rfl, hsz, hP, hK, hD0, hZ⟩ := hv
  have hx := B.exec
  have hb := B.bytes
  have hr := B.returns
  have hts := atoms_spec (ws := wsModel_sendAll) B.pre
  have hown : s.vm.findClass RModel = some m.cls := findClass_of_methodNamed B.named
  have hlocks := B.notSynchronized
  subst hsz
  have hD := hD0.self (sz := s.heap.size)
  generalize hAe : va_A (wM qm cI cZ n S P x) s.heap.size = A at hD ⊢
  have hA : ∀ q : Nat, s.heap.size ≤ q → A q := fun q h => by rw [← hAe]; exact Or.inr h
  have hS : va_S A s.heap s.heap [] := va_S.rf
  have hP : va_P D vwCl (wM qm cI cZ n S P x) s.heap := hP
  have hl := lv_entry ([.ref (qm 0), .int k, .int s1, .int sl, .int b, .int v]) (n := 8) (Nat.le_of_ble_eq_true rfl)
  rw [lg_entry_eq]
  generalize (lg_sl ([.ref (qm 0), .int k, .int s1, .int sl, .int b, .int v]) ++ List.replicate (8 - (lg_sl ([.ref (qm 0), .int k, .int s1, .int sl, .int b, .int v])).length) Slot.unset).toArray = ls at hl ⊢
  have hl : lv_has ls 8 [(0, .ref (qm 0)), (1, .int k), (2, .int s1), (3, .int sl), (4, .int b), (5, .int v)] := hl
  refine lv_iconst (v := nI 0) hx hb dModel_sendAll_0 (by decide) ?_
  refine lv_istore hx hb dModel_sendAll_1 hl (by decide) rfl (fun ls hl => ?_)
  have hl : lv_has ls 8 [(6, .int (nI 0)), (0, .ref (qm 0)), (1, .int k), (2, .int s1), (3, .int sl), (4, .int b), (5, .int v)] := hl
  have loop3 : ∀ (d3 i : Nat) (ls : Array Slot) (H : Heap) (locs : List Loc), i + d3 = n → lv_has ls 8 [(6, .int (nI i)), (0, .ref (qm 0)), (1, .int k), (2, .int s1), (3, .int sl), (4, .int b), (5, .int v)] → va_P D vwCl (wM qm cI cZ n S P (sendA P x k s1 sl b v i)) H → va_D A (wM qm cI cZ n S P (sendA P x k s1 sl b v i)) → va_S A s.heap H locs → W p l e (headSpec wsModel_sendAll { frames := 1, cells := 0, slots := 0, locals := 28 }).room s m [.ref (qm 0), .int k, .int s1, .int sl, .int b, .int v].toArray below meth c H locs 0 0 (MQ below (va_Qv (fun w => w = (wM qm cI cZ n S P (sendA P x k s1 sl b v n))) (QW D [(cI, .int), (cZ, .boolean)] A) A) [.ref (qm 0), .int k, .int s1, .int sl, .int b, .int v].toArray s 0 0 A) (F0 m 3 ls []) := by
    intro d3
    induction d3 with
    | zero =>
      intro i ls H locs hid3  hl hP hD hS
      refine lv_iload hx hb dModel_sendAll_3 (lv_at hl 0 rfl) ?_
      refine lv_aload_n hx hb dModel_sendAll_5 rfl (lv_at hl 1 rfl) ?_
      refine va_get (D := D) (ci := 5) (v := .int (nI n)) (C := RModel) (T := TModel) (N := 25) hx hb hts (fun w h => mc (uModel_in w h)) hown hK hP 0 rfl rfl 0 (by decide) (hts _ (mc wd405)) (fun _ h9 => h9) rfl dModel_sendAll_6 ?_
      refine lv_icmp_ge (tgt := 34) hx hb dModel_sendAll_9 (by decide) (fun _ => ?_) (fun h9 => absurd (nI_le (by omega) (by omega)) h9)
      have hin : n = i := by omega
      subst hin
      exact W.vret hx hb hr (fun t9 ht9 hW9 => ⟨⟨(wM qm cI cZ n S P (sendA P x k s1 sl b v n)), rfl, rfl, by rw [ht9]; exact hP, va_K.moved hW9.alike hK, hD⟩, hS.F ht9⟩) hS.2.2 dModel_sendAll_34
    | succ d3 ih3 =>
      intro i ls H locs hid3  hl hP hD hS
      refine lv_iload hx hb dModel_sendAll_3 (lv_at hl 0 rfl) ?_
      refine lv_aload_n hx hb dModel_sendAll_5 rfl (lv_at hl 1 rfl) ?_
      refine va_get (D := D) (ci := 5) (v := .int (nI n)) (C := RModel) (T := TModel) (N := 25) hx hb hts (fun w h => mc (uModel_in w h)) hown hK hP 0 rfl rfl 0 (by decide) (hts _ (mc wd405)) (fun _ h9 => h9) rfl dModel_sendAll_6 ?_
      refine lv_icmp_ge (tgt := 34) hx hb dModel_sendAll_9 (by decide) (fun h9 => absurd h9 (nI_ge (by omega) (by omega))) (fun _ => ?_)
      have hci : cntx P (sendA P x k s1 sl b v i) < P := by rw [cnt_sendA hk0 i (by omega)]; omega
      refine lv_aload_n hx hb dModel_sendAll_12 rfl (lv_at hl 1 rfl) ?_
      refine lv_iload_n hx hb dModel_sendAll_13 rfl (lv_at hl 2 rfl) ?_
      refine lv_iload_n hx hb dModel_sendAll_14 rfl (lv_at hl 3 rfl) ?_
      refine lv_iload hx hb dModel_sendAll_15 (lv_at hl 0 rfl) ?_
      refine lv_iload_n hx hb dModel_sendAll_17 rfl (lv_at hl 4 rfl) ?_
      refine lv_iload hx hb dModel_sendAll_18 (lv_at hl 5 rfl) ?_
      refine lv_iload hx hb dModel_sendAll_20 (lv_at hl 6 rfl) ?_
      refine lv_iconst (v := (-1)) hx hb dModel_sendAll_22 (by decide) ?_
      have hPc := hP.sub (ws' := (wM qm cI cZ n S P (sendA P x k s1 sl b v i))) [0, 1, 2, 3, 4, 5, 6, 7, 8, 9, 10, 11, 12, 13, 14, 15, 16, 17, 18, 19, 20] rfl
      have hDc := hD.sub (ws' := (wM qm cI cZ n S P (sendA P x k s1 sl b v i))) [0, 1, 2, 3, 4, 5, 6, 7, 8, 9, 10, 11, 12, 13, 14, 15, 16, 17, 18, 19, 20] (by decide) rfl
      refine kx_i (va_runV (As := [.int k, .int s1, .int (nI i), .int sl, .int b, .int v, .int (-1)]) (rest := []) ⟨hx, hb, hml, hown, hts⟩ ((m_send l D cI cZ qm n S P (sendA P x k s1 sl b v i) k s1 (nI i) sl b v (-1) (hn1) (hn5) (hS1) (hS4) (hP5) (hP64) (Imsg_A hM i (fun j hj => hVs j (by omega))) (hci)) H.size) (cwV 7 hts (gV wd502 wd504 sl_Model_send wd7 wd505) rfl rfl rfl (by decide +kernel) ⟨Nat.le_of_ble_eq_true rfl, Nat.le_of_ble_eq_true rfl⟩) ⟨fb_PW, va_recv (q0 := 0) (ci := 5) hK hPc rfl rfl, pre_PW hK hPc hDc hZ⟩ rfl rfl hl.1 rfl (lv_room (Nat.le_of_ble_eq_true rfl)) dModel_sendAll_23 ⟨Nat.zero_le _, Nat.zero_le _⟩) hP hD hS hA [0, 1, 2, 3, 4, 5, 6, 7, 8, 9, 10, 11, 12, 13, 14, 15, 16, 17, 18, 19, 20] [] rfl rfl (by decide) (by decide) (fun r w1 H locs hw hP hD hS => ?_)
      obtain ⟨rfl, rfl⟩ := hw
      have hP : va_P D vwCl (wM qm cI cZ n S P (send1 P (sendA P x k s1 sl b v i) k s1 (nI i) sl b v (-1))) H := hP
      have hD : va_D A (wM qm cI cZ n S P (send1 P (sendA P x k s1 sl b v i) k s1 (nI i) sl b v (-1))) := hD
      have hP : va_P D vwCl (wM qm cI cZ n S P (sendA P x k s1 sl b v (i + 1))) H := hP
      have hD : va_D A (wM qm cI cZ n S P (sendA P x k s1 sl b v (i + 1))) := hD
      refine lv_istore hx hb dModel_sendAll_26 hl (by decide) rfl (fun ls hl => ?_)
      have hl : lv_has ls 8 [(7, .int (nI (lst (col ((sendA P x k s1 sl b v i).1 0) 0) P 0))), (6, .int (nI i)), (0, .ref (qm 0)), (1, .int k), (2, .int s1), (3, .int sl), (4, .int b), (5, .int v)] := hl
      refine lv_iinc (k := 1) (v := nI (i + 1)) hx hb dModel_sendAll_28 hl rfl ((nI_succ _).symm) (by decide) rfl (fun ls hl => ?_)
      have hl : lv_has ls 8 [(6, .int (nI (i + 1))), (7, .int (nI (lst (col ((sendA P x k s1 sl b v i).1 0) 0) P 0))), (0, .ref (qm 0)), (1, .int k), (2, .int s1), (3, .int sl), (4, .int b), (5, .int v)] := hl
      refine lv_goto (tgt := 3) hx hb dModel_sendAll_31 (by decide) ?_
      exact ih3 (i + 1) ls H locs (by omega) (lv_sub hl [0, 2, 3, 4, 5, 6, 7] rfl) hP hD hS
  exact loop3 n 0 ls s.heap [] (by omega) hl hP hD hS
theorem dModel_bits_0 : decode cModel_bits 0 = .ok (.iconst 0, 1) := by decide +kernel
theorem dModel_bits_1 : decode cModel_bits 1 = .ok (.istore_n 1, 1) := by decide +kernel
theorem dModel_bits_2 : decode cModel_bits 2 = .ok (.iconst 0, 1) := by decide +kernel
theorem dModel_bits_3 : decode cModel_bits 3 = .ok (.istore_n 2, 1) := by decide +kernel
theorem dModel_bits_4 : decode cModel_bits 4 = .ok (.iload_n 2, 1) := by decide +kernel
theorem dModel_bits_5 : decode cModel_bits 5 = .ok (.iconst 5, 1) := by decide +kernel
theorem dModel_bits_6 : decode cModel_bits 6 = .ok (.if_icmp .ge 17, 3) := by decide +kernel
theorem dModel_bits_9 : decode cModel_bits 9 = .ok (.iload_n 1, 1) := by decide +kernel
theorem dModel_bits_10 : decode cModel_bits 10 = .ok (.iload_n 0, 1) := by decide +kernel
theorem dModel_bits_11 : decode cModel_bits 11 = .ok (.iload_n 2, 1) := by decide +kernel
theorem dModel_bits_12 : decode cModel_bits 12 = .ok (.ishr, 1) := by decide +kernel
theorem dModel_bits_13 : decode cModel_bits 13 = .ok (.iconst 1, 1) := by decide +kernel
theorem dModel_bits_14 : decode cModel_bits 14 = .ok (.iand, 1) := by decide +kernel
theorem dModel_bits_15 : decode cModel_bits 15 = .ok (.iadd, 1) := by decide +kernel
theorem dModel_bits_16 : decode cModel_bits 16 = .ok (.istore_n 1, 1) := by decide +kernel
theorem dModel_bits_17 : decode cModel_bits 17 = .ok (.iinc 2  1, 3) := by decide +kernel
theorem dModel_bits_20 : decode cModel_bits 20 = .ok (.goto (-16), 3) := by decide +kernel
theorem dModel_bits_23 : decode cModel_bits 23 = .ok (.iload_n 1, 1) := by decide +kernel
theorem dModel_bits_24 : decode cModel_bits 24 = .ok (.ireturn, 1) := by decide +kernel
set_option maxRecDepth 100000 in
set_option maxHeartbeats 4000000 in
theorem m_bits (l : Launch) (D : va_G) (cI cZ : ClassId) (k : Nat) (hk32 : k < 32) : MI l D [(cI, .int), (cZ, .boolean)] yModel_bits wsModel_bits ({ frames := 0, cells := 0, slots := 0, locals := 0 }) [.int (nI k)] ([] : va_W) (fun r w => r = nI (popn k) ∧ w = ([] : va_W)) := by
  intro sz
  refine Met.ofW (cc := cModel_bits) (maxL := 3) (ret := (Option.some .int)) (by decide) rfl ?_
  intro p e s m args below meth c s₁ B hml hv
  obtain ⟨rfl, hsz, hP, hK, hD0, hZ⟩ := hv
  have hx := B.exec
  have hb := B.bytes
  have hr := B.returns
  have hts := atoms_spec (ws := wsModel_bits) B.pre
  have hown : s.vm.findClass RModel = some m.cls := findClass_of_methodNamed B.named
  have hlocks := B.notSynchronized
  subst hsz
  have hD := hD0.self (sz := s.heap.size)
  generalize hAe : va_A ([] : va_W) s.heap.size = A at hD ⊢
  have hA : ∀ q : Nat, s.heap.size ≤ q → A q := fun q h => by rw [← hAe]; exact Or.inr h
  have hS : va_S A s.heap s.heap [] := va_S.rf
  have hP : va_P D vwCl ([] : va_W) s.heap := hP
  have hl := lv_entry ([.int (nI k)]) (n := 3) (Nat.le_of_ble_eq_true rfl)
  rw [lg_entry_eq]
  generalize (lg_sl ([.int (nI k)]) ++ List.replicate (3 - (lg_sl ([.int (nI k)])).length) Slot.unset).toArray = ls at hl ⊢
  have hl : lv_has ls 3 [(0, .int (nI k))] := hl
  refine lv_iconst (v := nI 0) hx hb dModel_bits_0 (by decide) ?_
  refine lv_istore_n hx hb dModel_bits_1 rfl hl (by decide) rfl (fun ls hl => ?_)
  have hl : lv_has ls 3 [(1, .int (nI 0)), (0, .int (nI k))] := hl
  refine lv_iconst (v := nI 0) hx hb dModel_bits_2 (by decide) ?_
  refine lv_istore_n hx hb dModel_bits_3 rfl hl (by decide) rfl (fun ls hl => ?_)
  have hl : lv_has ls 3 [(2, .int (nI 0)), (1, .int (nI 0)), (0, .int (nI k))] := hl
  have loop4 : ∀ (d4 i : Nat) (ls : Array Slot) (H : Heap) (locs : List Loc), i + d4 = 5 → lv_has ls 3 [(2, .int (nI i)), (1, .int (nI (popi k i))), (0, .int (nI k))] → va_P D vwCl ([] : va_W) H → va_D A ([] : va_W) → va_S A s.heap H locs → W p l e (headSpec wsModel_bits { frames := 0, cells := 0, slots := 0, locals := 0 }).room s m [.int (nI k)].toArray below meth c H locs 0 0 (MQ below (va_Qi (fun r w => r = nI (popn k) ∧ w = ([] : va_W)) (QW D [(cI, .int), (cZ, .boolean)] A) A) [.int (nI k)].toArray s 0 0 A) (F0 m 4 ls []) := by
    intro d4
    induction d4 with
    | zero =>
      intro i ls H locs hid4  hl hP hD hS
      refine lv_iload_n hx hb dModel_bits_4 rfl (lv_at hl 0 rfl) ?_
      refine lv_iconst (v := nI 5) hx hb dModel_bits_5 (by decide) ?_
      refine lv_icmp_ge (tgt := 23) hx hb dModel_bits_6 (by decide) (fun _ => ?_) (fun h9 => absurd (nI_le (by omega) (by omega)) h9)
      refine lv_iload_n hx hb dModel_bits_23 rfl (lv_at hl 1 rfl) ?_
      have hin : i = 5 := by omega
      rw [hin, popi_fin k hk32]
      exact W.iret (v := nI (popn k)) hx hb hr (fun t9 ht9 hW9 => ⟨⟨nI (popn k), ([] : va_W), rfl, ⟨rfl, rfl⟩, by rw [ht9]; exact hP, va_K.moved hW9.alike hK, hD⟩, hS.F ht9⟩) hS.2.2 dModel_bits_24
    | succ d4 ih4 =>
      intro i ls H locs hid4  hl hP hD hS
      refine lv_iload_n hx hb dModel_bits_4 rfl (lv_at hl 0 rfl) ?_
      refine lv_iconst (v := nI 5) hx hb dModel_bits_5 (by decide) ?_
      refine lv_icmp_ge (tgt := 23) hx hb dModel_bits_6 (by decide) (fun h9 => absurd h9 (nI_ge (by omega) (by omega))) (fun _ => ?_)
      refine lv_iload_n hx hb dModel_bits_9 rfl (lv_at hl 1 rfl) ?_
      refine lv_iload_n hx hb dModel_bits_10 rfl (lv_at hl 2 rfl) ?_
      refine lv_iload_n hx hb dModel_bits_11 rfl (lv_at hl 0 rfl) ?_
      refine lv_ishr hx hb dModel_bits_12 ?_
      refine lv_iconst (v := nI 1) hx hb dModel_bits_13 (by decide) ?_
      refine lv_iand hx hb dModel_bits_14 ?_
      refine lv_topi (nm_r (bit_fin k hk32 i (by omega)) ?_)
      refine lv_iadd hx hb dModel_bits_15 ?_
      refine lv_topi (nm_r (nI_add _ _) ?_)
      refine lv_istore_n hx hb dModel_bits_16 rfl hl (by decide) rfl (fun ls hl => ?_)
      have hl : lv_has ls 3 [(1, .int (nI (popi k (i + 1)))), (2, .int (nI i)), (0, .int (nI k))] := hl
      refine lv_iinc (k := 1) (v := nI (i + 1)) hx hb dModel_bits_17 hl rfl ((nI_succ _).symm) (by decide) rfl (fun ls hl => ?_)
      have hl : lv_has ls 3 [(2, .int (nI (i + 1))), (1, .int (nI (popi k (i + 1)))), (0, .int (nI k))] := hl
      refine lv_goto (tgt := 4) hx hb dModel_bits_20 (by decide) ?_
      exact ih4 (i + 1) ls H locs (by omega) hl hP hD hS
  exact loop4 5 0 ls s.heap [] (by omega) hl hP hD hS
theorem dModel_isAwaited_0 : decode cModel_isAwaited 0 = .ok (.iconst 4, 1) := by decide +kernel
theorem dModel_isAwaited_1 : decode cModel_isAwaited 1 = .ok (.aload_n 0, 1) := by decide +kernel
theorem dModel_isAwaited_2 : decode cModel_isAwaited 2 = .ok (.getfield 20, 3) := by decide +kernel
theorem dModel_isAwaited_5 : decode cModel_isAwaited 5 = .ok (.iload_n 1, 1) := by decide +kernel
theorem dModel_isAwaited_6 : decode cModel_isAwaited 6 = .ok (.iaload, 1) := by decide +kernel
theorem dModel_isAwaited_7 : decode cModel_isAwaited 7 = .ok (.imul, 1) := by decide +kernel
theorem dModel_isAwaited_8 : decode cModel_isAwaited 8 = .ok (.aload_n 0, 1) := by decide +kernel
theorem dModel_isAwaited_9 : decode cModel_isAwaited 9 = .ok (.getfield 23, 3) := by decide +kernel
theorem dModel_isAwaited_12 : decode cModel_isAwaited 12 = .ok (.iload_n 1, 1) := by decide +kernel
theorem dModel_isAwaited_13 : decode cModel_isAwaited 13 = .ok (.iaload, 1) := by decide +kernel
theorem dModel_isAwaited_14 : decode cModel_isAwaited 14 = .ok (.iadd, 1) := by decide +kernel
theorem dModel_isAwaited_15 : decode cModel_isAwaited 15 = .ok (.istore_n 2, 1) := by decide +kernel
theorem dModel_isAwaited_16 : decode cModel_isAwaited 16 = .ok (.aload_n 0, 1) := by decide +kernel
theorem dModel_isAwaited_17 : decode cModel_isAwaited 17 = .ok (.getfield 38, 3) := by decide +kernel
theorem dModel_isAwaited_20 : decode cModel_isAwaited 20 = .ok (.iload_n 2, 1) := by decide +kernel
theorem dModel_isAwaited_21 : decode cModel_isAwaited 21 = .ok (.iaload, 1) := by decide +kernel
theorem dModel_isAwaited_22 : decode cModel_isAwaited 22 = .ok (.iconst 1, 1) := by decide +kernel
theorem dModel_isAwaited_23 : decode cModel_isAwaited 23 = .ok (.if_icmp .ne 22, 3) := by decide +kernel
theorem dModel_isAwaited_26 : decode cModel_isAwaited 26 = .ok (.aload_n 0, 1) := by decide +kernel
theorem dModel_isAwaited_27 : decode cModel_isAwaited 27 = .ok (.getfield 26, 3) := by decide +kernel
theorem dModel_isAwaited_30 : decode cModel_isAwaited 30 = .ok (.iload_n 1, 1) := by decide +kernel
theorem dModel_isAwaited_31 : decode cModel_isAwaited 31 = .ok (.iaload, 1) := by decide +kernel
theorem dModel_isAwaited_32 : decode cModel_isAwaited 32 = .ok (.aload_n 0, 1) := by decide +kernel
theorem dModel_isAwaited_33 : decode cModel_isAwaited 33 = .ok (.getfield 35, 3) := by decide +kernel
theorem dModel_isAwaited_36 : decode cModel_isAwaited 36 = .ok (.iload_n 2, 1) := by decide +kernel
theorem dModel_isAwaited_37 : decode cModel_isAwaited 37 = .ok (.iaload, 1) := by decide +kernel
theorem dModel_isAwaited_38 : decode cModel_isAwaited 38 = .ok (.if_icmp .ne 7, 3) := by decide +kernel
theorem dModel_isAwaited_41 : decode cModel_isAwaited 41 = .ok (.iconst 1, 1) := by decide +kernel
theorem dModel_isAwaited_42 : decode cModel_isAwaited 42 = .ok (.goto 4, 3) := by decide +kernel
theorem dModel_isAwaited_45 : decode cModel_isAwaited 45 = .ok (.iconst 0, 1) := by decide +kernel
theorem dModel_isAwaited_46 : decode cModel_isAwaited 46 = .ok (.ireturn, 1) := by decide +kernel
set_option maxRecDepth 100000 in
set_option maxHeartbeats 4000000 in
theorem m_isAwaited (l : Launch) (D : va_G) (cI cZ : ClassId) (qm : Nat → Nat) (n : Nat) (S : Nat) (P : Nat) (x : St) (j : Nat) (a : Nat) (t : Nat) (hn1 : 1 ≤ n) (hn5 : n ≤ 5) (hS1 : 1 ≤ S) (hS4 : S ≤ 4) (hP5 : 5 ≤ P) (hP64 : P ≤ 64) (hj : j < 64) (ha : a < n) (ht : t < S) (hrc : x.1 0 j 2 = nI a) (hsl : x.1 0 j 3 = nI t) : MI l D [(cI, .int), (cZ, .boolean)] yModel_isAwaited wsModel_isAwaited ({ frames := 0, cells := 0, slots := 0, locals := 0 }) [.ref (qm 0), .int (nI j)] (wM qm cI cZ n S P x) (fun r w => (r = nI 1 ∧ (x.1 1 a t = nI 1 ∧ x.1 2 a t = x.1 0 j 4) ∧ w = (wM qm cI cZ n S P x)) ∨ (r = nI 0 ∧ (¬ (x.1 1 a t = nI 1 ∧ x.1 2 a t = x.1 0 j 4)) ∧ w = (wM qm cI cZ n S P x))) := by
  intro sz
  refine Met.ofW (cc := cModel_isAwaited) (maxL := 3) (ret := (Option.some .boolean)) (by decide) rfl ?_
  intro p e s m args below meth c s₁ B hml hv
  obtain ⟨rfl, hsz, hP, hK, hD0, hZ⟩ := hv
  have hx := B.exec
  have hb := B.bytes
  have hr := B.returns
  have hts := atoms_spec (ws := wsModel_isAwaited) B.pre
  have hown : s.vm.findClass RModel = some m.cls := findClass_of_methodNamed B.named
  have hlocks := B.notSynchronized
  subst hsz
  have hD := hD0.self (sz := s.heap.size)
  generalize hAe : va_A (wM qm cI cZ n S P x) s.heap.size = A at hD ⊢
  have hA : ∀ q : Nat, s.heap.size ≤ q → A q := fun q h => by rw [← hAe]; exact Or.inr h
  have hS : va_S A s.heap s.heap [] := va_S.rf
  have hP : va_P D vwCl (wM qm cI cZ n S P x) s.heap := hP
  have hl := lv_entry ([.ref (qm 0), .int (nI j)]) (n := 3) (Nat.le_of_ble_eq_true rfl)
  rw [lg_entry_eq]
  generalize (lg_sl ([.ref (qm 0), .int (nI j)]) ++ List.replicate (3 - (lg_sl ([.ref (qm 0), .int (nI j)])).length) Slot.unset).toArray = ls at hl ⊢
  have hl : lv_has ls 3 [(0, .ref (qm 0)), (1, .int (nI j))] := hl
  refine lv_iconst (v := nI 4) hx hb dModel_isAwaited_0 (by decide) ?_
  refine lv_aload_n hx hb dModel_isAwaited_1 rfl (lv_at hl 0 rfl) ?_
  refine va_get (D := D) (ci := 5) (v := .ref (qm 4)) (C := RModel) (T := TModel) (N := 25) hx hb hts (fun w h => mc (uModel_in w h)) hown hK hP 0 rfl rfl 6 (by decide) (hts _ (mc wd411)) (fun _ h9 => h9) rfl dModel_isAwaited_2 ?_
  refine lv_iload_n hx hb dModel_isAwaited_5 rfl (lv_at hl 1 rfl) ?_
  refine ka_ld (v := nI a) hx hb hK hP 4 0 rfl rfl (by omega) (by omega) hrc dModel_isAwaited_6 ?_
  refine lv_imul hx hb dModel_isAwaited_7 ?_
  refine lv_topi (nm_r ((pk_mul _ _).trans (congrArg nI (Nat.mul_comm _ _))) ?_)
  refine lv_aload_n hx hb dModel_isAwaited_8 rfl (lv_at hl 0 rfl) ?_
  refine va_get (D := D) (ci := 5) (v := .ref (qm 5)) (C := RModel) (T := TModel) (N := 25) hx hb hts (fun w h => mc (uModel_in w h)) hown hK hP 0 rfl rfl 7 (by decide) (hts _ (mc wd412)) (fun _ h9 => h9) rfl dModel_isAwaited_9 ?_
  refine lv_iload_n hx hb dModel_isAwaited_12 rfl (lv_at hl 1 rfl) ?_
  refine ka_ld (v := nI t) hx hb hK hP 5 0 rfl rfl (by omega) (by omega) hsl dModel_isAwaited_13 ?_
  refine lv_iadd hx hb dModel_isAwaited_14 ?_
  refine lv_topi (nm_r (nI_add _ _) ?_)
  refine lv_istore_n hx hb dModel_isAwaited_15 rfl hl (by decide) rfl (fun ls hl => ?_)
  have hl : lv_has ls 3 [(2, .int (nI (a * 4 + t))), (0, .ref (qm 0)), (1, .int (nI j))] := hl
  refine lv_aload_n hx hb dModel_isAwaited_16 rfl (lv_at hl 1 rfl) ?_
  refine va_get (D := D) (ci := 5) (v := .ref (qm 10)) (C := RModel) (T := TModel) (N := 25) hx hb hts (fun w h => mc (uModel_in w h)) hown hK hP 0 rfl rfl 12 (by decide) (hts _ (mc wd417)) (fun _ h9 => h9) rfl dModel_isAwaited_17 ?_
  refine lv_iload_n hx hb dModel_isAwaited_20 rfl (lv_at hl 0 rfl) ?_
  refine ka_ld (v := x.1 1 a t) hx hb hK hP 10 0 rfl rfl (by omega) (by omega) (sq_at (by omega)) dModel_isAwaited_21 ?_
  refine lv_iconst (v := nI 1) hx hb dModel_isAwaited_22 (by decide) ?_
  refine lv_icmp_ne (tgt := 45) hx hb dModel_isAwaited_23 (by decide) (fun c23 => ?_) (fun c23 => ?_)
  · refine lv_iconst (v := nI 0) hx hb dModel_isAwaited_45 (by decide) ?_
    exact W.zret (v := nI 0) (ty := .boolean) hx hb hr (by decide) (fun t9 ht9 hW9 => ⟨⟨nI 0, (wM qm cI cZ n S P x), rfl, Or.inr ⟨rfl, fun h => c23 h.1, rfl⟩, by rw [ht9]; exact hP, va_K.moved hW9.alike hK, hD⟩, hS.F ht9⟩) hS.2.2 dModel_isAwaited_46
  · refine lv_aload_n hx hb dModel_isAwaited_26 rfl (lv_at hl 1 rfl) ?_
    refine va_get (D := D) (ci := 5) (v := .ref (qm 6)) (C := RModel) (T := TModel) (N := 25) hx hb hts (fun w h => mc (uModel_in w h)) hown hK hP 0 rfl rfl 8 (by decide) (hts _ (mc wd413)) (fun _ h9 => h9) rfl dModel_isAwaited_27 ?_
    refine lv_iload_n hx hb dModel_isAwaited_30 rfl (lv_at hl 2 rfl) ?_
    refine ka_ld (v := x.1 0 j 4) hx hb hK hP 6 0 rfl rfl (by omega) (by omega) rfl dModel_isAwaited_31 ?_
    refine lv_aload_n hx hb dModel_isAwaited_32 rfl (lv_at hl 1 rfl) ?_
    refine va_get (D := D) (ci := 5) (v := .ref (qm 9)) (C := RModel) (T := TModel) (N := 25) hx hb hts (fun w h => mc (uModel_in w h)) hown hK hP 0 rfl rfl 11 (by decide) (hts _ (mc wd416)) (fun _ h9 => h9) rfl dModel_isAwaited_33 ?_
    refine lv_iload_n hx hb dModel_isAwaited_36 rfl (lv_at hl 0 rfl) ?_
    refine ka_ld (v := x.1 2 a t) hx hb hK hP 9 0 rfl rfl (by omega) (by omega) (sq_at (by omega)) dModel_isAwaited_37 ?_
    refine lv_icmp_ne (tgt := 45) hx hb dModel_isAwaited_38 (by decide) (fun c38 => ?_) (fun c38 => ?_)
    · refine lv_iconst (v := nI 0) hx hb dModel_isAwaited_45 (by decide) ?_
      exact W.zret (v := nI 0) (ty := .boolean) hx hb hr (by decide) (fun t9 ht9 hW9 => ⟨⟨nI 0, (wM qm cI cZ n S P x), rfl, Or.inr ⟨rfl, fun h => c38 h.2.symm, rfl⟩, by rw [ht9]; exact hP, va_K.moved hW9.alike hK, hD⟩, hS.F ht9⟩) hS.2.2 dModel_isAwaited_46
    · refine lv_iconst (v := nI 1) hx hb dModel_isAwaited_41 (by decide) ?_
      refine lv_goto (tgt := 46) hx hb dModel_isAwaited_42 (by decide) ?_
      exact W.zret (v := nI 1) (ty := .boolean) hx hb hr (by decide) (fun t9 ht9 hW9 => ⟨⟨nI 1, (wM qm cI cZ n S P x), rfl, Or.inl ⟨rfl, ⟨c23, c38.symm⟩, rfl⟩, by rw [ht9]; exact hP, va_K.moved hW9.alike hK, hD⟩, hS.F ht9⟩) hS.2.2 dModel_isAwaited_46
theorem dModel_withPromise_0 : decode cModel_withPromise 0 = .ok (.aload_n 0, 1) := by decide +kernel
theorem dModel_withPromise_1 : decode cModel_withPromise 1 = .ok (.getfield 44, 3) := by decide +kernel
theorem dModel_withPromise_4 : decode cModel_withPromise 4 = .ok (.iconst 4, 1) := by decide +kernel
theorem dModel_withPromise_5 : decode cModel_withPromise 5 = .ok (.aload_n 0, 1) := by decide +kernel
theorem dModel_withPromise_6 : decode cModel_withPromise 6 = .ok (.getfield 20, 3) := by decide +kernel
theorem dModel_withPromise_9 : decode cModel_withPromise 9 = .ok (.iload_n 1, 1) := by decide +kernel
theorem dModel_withPromise_10 : decode cModel_withPromise 10 = .ok (.iaload, 1) := by decide +kernel
theorem dModel_withPromise_11 : decode cModel_withPromise 11 = .ok (.imul, 1) := by decide +kernel
theorem dModel_withPromise_12 : decode cModel_withPromise 12 = .ok (.aload_n 0, 1) := by decide +kernel
theorem dModel_withPromise_13 : decode cModel_withPromise 13 = .ok (.getfield 23, 3) := by decide +kernel
theorem dModel_withPromise_16 : decode cModel_withPromise 16 = .ok (.iload_n 1, 1) := by decide +kernel
theorem dModel_withPromise_17 : decode cModel_withPromise 17 = .ok (.iaload, 1) := by decide +kernel
theorem dModel_withPromise_18 : decode cModel_withPromise 18 = .ok (.iadd, 1) := by decide +kernel
theorem dModel_withPromise_19 : decode cModel_withPromise 19 = .ok (.iaload, 1) := by decide +kernel
theorem dModel_withPromise_20 : decode cModel_withPromise 20 = .ok (.iconst 1, 1) := by decide +kernel
theorem dModel_withPromise_21 : decode cModel_withPromise 21 = .ok (.aload_n 0, 1) := by decide +kernel
theorem dModel_withPromise_22 : decode cModel_withPromise 22 = .ok (.getfield 17, 3) := by decide +kernel
theorem dModel_withPromise_25 : decode cModel_withPromise 25 = .ok (.iload_n 1, 1) := by decide +kernel
theorem dModel_withPromise_26 : decode cModel_withPromise 26 = .ok (.iaload, 1) := by decide +kernel
theorem dModel_withPromise_27 : decode cModel_withPromise 27 = .ok (.ishl, 1) := by decide +kernel
theorem dModel_withPromise_28 : decode cModel_withPromise 28 = .ok (.ior, 1) := by decide +kernel
theorem dModel_withPromise_29 : decode cModel_withPromise 29 = .ok (.ireturn, 1) := by decide +kernel
set_option maxRecDepth 100000 in
set_option maxHeartbeats 4000000 in
theorem m_withPromise (l : Launch) (D : va_G) (cI cZ : ClassId) (qm : Nat → Nat) (n : Nat) (S : Nat) (P : Nat) (x : St) (j : Nat) (a : Nat) (t : Nat) (hn1 : 1 ≤ n) (hn5 : n ≤ 5) (hS1 : 1 ≤ S) (hS4 : S ≤ 4) (hP5 : 5 ≤ P) (hP64 : P ≤ 64) (hj : j < 64) (ha : a < n) (ht : t < S) (hrc : x.1 0 j 2 = nI a) (hsl : x.1 0 j 3 = nI t) : MI l D [(cI, .int), (cZ, .boolean)] yModel_withPromise wsModel_withPromise ({ frames := 0, cells := 0, slots := 0, locals := 0 }) [.ref (qm 0), .int (nI j)] (wM qm cI cZ n S P x) (fun r w => r = orb (x.1 3 a t) (x.1 0 j 1) ∧ w = (wM qm cI cZ n S P x)) := by
  intro sz
  refine Met.ofW (cc := cModel_withPromise) (maxL := 2) (ret := (Option.some .int)) (by decide) rfl ?_
  intro p e s m args below meth c s₁ B hml hv
  obtain ⟨rfl, hsz, hP, hK, hD0, hZ⟩ := hv
  have hx := B.exec
  have hb := B.bytes
  have hr := B.returns
  have hts := atoms_spec (ws := wsModel_withPromise) B.pre
  have hown : s.vm.findClass RModel = some m.cls := findClass_of_methodNamed B.named
  have hlocks := B.notSynchronized
  subst hsz
  have hD := hD0.self (sz := s.heap.size)
  generalize hAe : va_A (wM qm cI cZ n S P x) s.heap.size = A at hD ⊢
  have hA : ∀ q : Nat, s.heap.size ≤ q → A q := fun q h => by rw [← hAe]; exact Or.inr h
  have hS : va_S A s.heap s.heap [] := va_S.rf
  have hP : va_P D vwCl (wM qm cI cZ n S P x) s.heap := hP
  have hl := lv_entry ([.ref (qm 0), .int (nI j)]) (n := 2) (Nat.le_of_ble_eq_true rfl)
  rw [lg_entry_eq]
  generalize (lg_sl ([.ref (qm 0), .int (nI j)]) ++ List.replicate (2 - (lg_sl ([.ref (qm 0), .int (nI j)])).length) Slot.unset).toArray = ls at hl ⊢
  have hl : lv_has ls 2 [(0, .ref (qm 0)), (1, .int (nI j))] := hl
  refine lv_aload_n hx hb dModel_withPromise_0 rfl (lv_at hl 0 rfl) ?_
  refine va_get (D := D) (ci := 5) (v := .ref (qm 12)) (C := RModel) (T := TModel) (N := 25) hx hb hts (fun w h => mc (uModel_in w h)) hown hK hP 0 rfl rfl 14 (by decide) (hts _ (mc wd419)) (fun _ h9 => h9) rfl dModel_withPromise_1 ?_
  refine lv_iconst (v := nI 4) hx hb dModel_withPromise_4 (by decide) ?_
  refine lv_aload_n hx hb dModel_withPromise_5 rfl (lv_at hl 0 rfl) ?_
  refine va_get (D := D) (ci := 5) (v := .ref (qm 4)) (C := RModel) (T := TModel) (N := 25) hx hb hts (fun w h => mc (uModel_in w h)) hown hK hP 0 rfl rfl 6 (by decide) (hts _ (mc wd411)) (fun _ h9 => h9) rfl dModel_withPromise_6 ?_
  refine lv_iload_n hx hb dModel_withPromise_9 rfl (lv_at hl 1 rfl) ?_
  refine ka_ld (v := nI a) hx hb hK hP 4 0 rfl rfl (by omega) (by omega) hrc dModel_withPromise_10 ?_
  refine lv_imul hx hb dModel_withPromise_11 ?_
  refine lv_topi (nm_r ((pk_mul _ _).trans (congrArg nI (Nat.mul_comm _ _))) ?_)
  refine lv_aload_n hx hb dModel_withPromise_12 rfl (lv_at hl 0 rfl) ?_
  refine va_get (D := D) (ci := 5) (v := .ref (qm 5)) (C := RModel) (T := TModel) (N := 25) hx hb hts (fun w h => mc (uModel_in w h)) hown hK hP 0 rfl rfl 7 (by decide) (hts _ (mc wd412)) (fun _ h9 => h9) rfl dModel_withPromise_13 ?_
  refine lv_iload_n hx hb dModel_withPromise_16 rfl (lv_at hl 1 rfl) ?_
  refine ka_ld (v := nI t) hx hb hK hP 5 0 rfl rfl (by omega) (by omega) hsl dModel_withPromise_17 ?_
  refine lv_iadd hx hb dModel_withPromise_18 ?_
  refine lv_topi (nm_r (nI_add _ _) ?_)
  refine ka_ld (v := x.1 3 a t) hx hb hK hP 12 0 rfl rfl (by omega) (by omega) (sq_at (by omega)) dModel_withPromise_19 ?_
  refine lv_iconst (v := nI 1) hx hb dModel_withPromise_20 (by decide) ?_
  refine lv_aload_n hx hb dModel_withPromise_21 rfl (lv_at hl 0 rfl) ?_
  refine va_get (D := D) (ci := 5) (v := .ref (qm 3)) (C := RModel) (T := TModel) (N := 25) hx hb hts (fun w h => mc (uModel_in w h)) hown hK hP 0 rfl rfl 5 (by decide) (hts _ (mc wd410)) (fun _ h9 => h9) rfl dModel_withPromise_22 ?_
  refine lv_iload_n hx hb dModel_withPromise_25 rfl (lv_at hl 1 rfl) ?_
  refine ka_ld (v := x.1 0 j 1) hx hb hK hP 3 0 rfl rfl (by omega) (by omega) rfl dModel_withPromise_26 ?_
  refine lv_ishl hx hb dModel_withPromise_27 ?_
  refine lv_ior hx hb dModel_withPromise_28 ?_
  refine lv_topi (nm_r (rfl) ?_)
  exact W.iret (v := orb (x.1 3 a t) (x.1 0 j 1)) hx hb hr (fun t9 ht9 hW9 => ⟨⟨orb (x.1 3 a t) (x.1 0 j 1), (wM qm cI cZ n S P x), rfl, ⟨rfl, rfl⟩, by rw [ht9]; exact hP, va_K.moved hW9.alike hK, hD⟩, hS.F ht9⟩) hS.2.2 dModel_withPromise_29
theorem dModel_learn_0 : decode cModel_learn 0 = .ok (.iconst 4, 1) := by decide +kernel
theorem dModel_learn_1 : decode cModel_learn 1 = .ok (.iload_n 1, 1) := by decide +kernel
theorem dModel_learn_2 : decode cModel_learn 2 = .ok (.imul, 1) := by decide +kernel
theorem dModel_learn_3 : decode cModel_learn 3 = .ok (.iload_n 2, 1) := by decide +kernel
theorem dModel_learn_4 : decode cModel_learn 4 = .ok (.iadd, 1) := by decide +kernel
theorem dModel_learn_5 : decode cModel_learn 5 = .ok (.istore 4, 2) := by decide +kernel
theorem dModel_learn_7 : decode cModel_learn 7 = .ok (.aload_n 0, 1) := by decide +kernel
theorem dModel_learn_8 : decode cModel_learn 8 = .ok (.getfield 68, 3) := by decide +kernel
theorem dModel_learn_11 : decode cModel_learn 11 = .ok (.iload 4, 2) := by decide +kernel
theorem dModel_learn_13 : decode cModel_learn 13 = .ok (.aload_n 0, 1) := by decide +kernel
theorem dModel_learn_14 : decode cModel_learn 14 = .ok (.getfield 68, 3) := by decide +kernel
theorem dModel_learn_17 : decode cModel_learn 17 = .ok (.iload 4, 2) := by decide +kernel
theorem dModel_learn_19 : decode cModel_learn 19 = .ok (.iaload, 1) := by decide +kernel
theorem dModel_learn_20 : decode cModel_learn 20 = .ok (.ifCond .ne 7, 3) := by decide +kernel
theorem dModel_learn_23 : decode cModel_learn 23 = .ok (.iload_n 3, 1) := by decide +kernel
theorem dModel_learn_24 : decode cModel_learn 24 = .ok (.goto 10, 3) := by decide +kernel
theorem dModel_learn_27 : decode cModel_learn 27 = .ok (.aload_n 0, 1) := by decide +kernel
theorem dModel_learn_28 : decode cModel_learn 28 = .ok (.getfield 68, 3) := by decide +kernel
theorem dModel_learn_31 : decode cModel_learn 31 = .ok (.iload 4, 2) := by decide +kernel
theorem dModel_learn_33 : decode cModel_learn 33 = .ok (.iaload, 1) := by decide +kernel
theorem dModel_learn_34 : decode cModel_learn 34 = .ok (.iastore, 1) := by decide +kernel
theorem dModel_learn_35 : decode cModel_learn 35 = .ok (.return_, 1) := by decide +kernel
set_option maxRecDepth 100000 in
set_option maxHeartbeats 4000000 in
theorem m_learn (l : Launch) (D : va_G) (cI cZ : ClassId) (qm : Nat → Nat) (n : Nat) (S : Nat) (P : Nat) (x : St) (a : Nat) (t : Nat) (v : Int32) (hn1 : 1 ≤ n) (hn5 : n ≤ 5) (hS1 : 1 ≤ S) (hS4 : S ≤ 4) (hP5 : 5 ≤ P) (hP64 : P ≤ 64) (ha : a < n) (ht : t < S) : MV l D [(cI, .int), (cZ, .boolean)] yModel_learn wsModel_learn ({ frames := 0, cells := 0, slots := 0, locals := 0 }) [.ref (qm 0), .int (nI a), .int (nI t), .int v] (wM qm cI cZ n S P x) (fun w => w = (wM qm cI cZ n S P (sLearn x a t v))) := by
  intro sz
  refine Met.ofW (cc := cModel_learn) (maxL := 5) (ret := (Option.none : Option ClassFile.FieldType)) (by decide) rfl ?_
  intro p e s m args below meth c s₁ B hml hv
  obtain ⟨rfl, hsz, hP, hK, hD0, hZ⟩ := hv
  have hx := B.exec
  have hb := B.bytes
  have hr := B.returns
  have hts := atoms_spec (ws := wsModel_learn) B.pre
  have hown : s.vm.findClass RModel = some m.cls := findClass_of_methodNamed B.named
  have hlocks := B.notSynchronized
  subst hsz
  have hD := hD0.self (sz := s.heap.size)
  generalize hAe : va_A (wM qm cI cZ n S P x) s.heap.size = A at hD ⊢
  have hA : ∀ q : Nat, s.heap.size ≤ q → A q := fun q h => by rw [← hAe]; exact Or.inr h
  have hS : va_S A s.heap s.heap [] := va_S.rf
  have hP : va_P D vwCl (wM qm cI cZ n S P x) s.heap := hP
  have hl := lv_entry ([.ref (qm 0), .int (nI a), .int (nI t), .int v]) (n := 5) (Nat.le_of_ble_eq_true rfl)
  rw [lg_entry_eq]
  generalize (lg_sl ([.ref (qm 0), .int (nI a), .int (nI t), .int v]) ++ List.replicate (5 - (lg_sl ([.ref (qm 0), .int (nI a), .int (nI t), .int v])).length) Slot.unset).toArray = ls at hl ⊢
  have hl : lv_has ls 5 [(0, .ref (qm 0)), (1, .int (nI a)), (2, .int (nI t)), (3, .int v)] := hl
  refine lv_iconst (v := nI 4) hx hb dModel_learn_0 (by decide) ?_
  refine lv_iload_n hx hb dModel_learn_1 rfl (lv_at hl 1 rfl) ?_
  refine lv_imul hx hb dModel_learn_2 ?_
  refine lv_topi (nm_r ((pk_mul _ _).trans (congrArg nI (Nat.mul_comm _ _))) ?_)
  refine lv_iload_n hx hb dModel_learn_3 rfl (lv_at hl 2 rfl) ?_
  refine lv_iadd hx hb dModel_learn_4 ?_
  refine lv_topi (nm_r (nI_add _ _) ?_)
  refine lv_istore hx hb dModel_learn_5 hl (by decide) rfl (fun ls hl => ?_)
  have hl : lv_has ls 5 [(4, .int (nI (a * 4 + t))), (0, .ref (qm 0)), (1, .int (nI a)), (2, .int (nI t)), (3, .int v)] := hl
  refine lv_aload_n hx hb dModel_learn_7 rfl (lv_at hl 1 rfl) ?_
  refine va_get (D := D) (ci := 5) (v := .ref (qm 20)) (C := RModel) (T := TModel) (N := 25) hx hb hts (fun w h => mc (uModel_in w h)) hown hK hP 0 rfl rfl 22 (by decide) (hts _ (mc wd427)) (fun _ h9 => h9) rfl dModel_learn_8 ?_
  refine lv_iload hx hb dModel_learn_11 (lv_at hl 0 rfl) ?_
  refine lv_aload_n hx hb dModel_learn_13 rfl (lv_at hl 1 rfl) ?_
  refine va_get (D := D) (ci := 5) (v := .ref (qm 20)) (C := RModel) (T := TModel) (N := 25) hx hb hts (fun w h => mc (uModel_in w h)) hown hK hP 0 rfl rfl 22 (by decide) (hts _ (mc wd427)) (fun _ h9 => h9) rfl dModel_learn_14 ?_
  refine lv_iload hx hb dModel_learn_17 (lv_at hl 0 rfl) ?_
  refine ka_ld (v := x.1 11 a t) hx hb hK hP 20 0 rfl rfl (by omega) (by omega) (sq_at (by omega)) dModel_learn_19 ?_
  refine lv_if_ne (tgt := 27) hx hb dModel_learn_20 (by decide) (fun c20 => ?_) (fun c20 => ?_)
  · refine lv_aload_n hx hb dModel_learn_27 rfl (lv_at hl 1 rfl) ?_
    refine va_get (D := D) (ci := 5) (v := .ref (qm 20)) (C := RModel) (T := TModel) (N := 25) hx hb hts (fun w h => mc (uModel_in w h)) hown hK hP 0 rfl rfl 22 (by decide) (hts _ (mc wd427)) (fun _ h9 => h9) rfl dModel_learn_28 ?_
    refine lv_iload hx hb dModel_learn_31 (lv_at hl 0 rfl) ?_
    refine ka_ld (v := x.1 11 a t) hx hb hK hP 20 0 rfl rfl (by omega) (by omega) (sq_at (by omega)) dModel_learn_33 ?_
    refine ka_st (f' := sq 4 (up2 (x.1 11) a t (x.1 11 a t))) hx hb hK hP hD hS 20 0 rfl rfl (by omega) (by omega) (sq_up (by omega)) dModel_learn_34 (fun H locs hP hD hS => ?_)
    have hP : va_P D vwCl (wR qm cI cZ n S P (col (x.1 13) 0) (col (x.1 0) 0) (col (x.1 0) 1) (col (x.1 0) 2) (col (x.1 0) 3) (col (x.1 0) 4) (col (x.1 0) 5) (col (x.1 0) 6) (sq 4 (x.1 2)) (sq 4 (x.1 1)) (sq 4 (x.1 6)) (sq 4 (x.1 3)) (sq 4 (x.1 4)) (sq 4 (x.1 7)) (sq 4 (x.1 8)) (sq 4 (x.1 9)) (sq 4 (x.1 10)) (hrm (x.2 0)) (hrm (x.2 1)) (sq 4 (up2 (x.1 11) a t (x.1 11 a t))) (x.1 12 0 0) (x.1 12 0 1)) H := hP
    have hD : va_D A (wR qm cI cZ n S P (col (x.1 13) 0) (col (x.1 0) 0) (col (x.1 0) 1) (col (x.1 0) 2) (col (x.1 0) 3) (col (x.1 0) 4) (col (x.1 0) 5) (col (x.1 0) 6) (sq 4 (x.1 2)) (sq 4 (x.1 1)) (sq 4 (x.1 6)) (sq 4 (x.1 3)) (sq 4 (x.1 4)) (sq 4 (x.1 7)) (sq 4 (x.1 8)) (sq 4 (x.1 9)) (sq 4 (x.1 10)) (hrm (x.2 0)) (hrm (x.2 1)) (sq 4 (up2 (x.1 11) a t (x.1 11 a t))) (x.1 12 0 0) (x.1 12 0 1)) := hD
    have hW1 : (wR qm cI cZ n S P (col (x.1 13) 0) (col (x.1 0) 0) (col (x.1 0) 1) (col (x.1 0) 2) (col (x.1 0) 3) (col (x.1 0) 4) (col (x.1 0) 5) (col (x.1 0) 6) (sq 4 (x.1 2)) (sq 4 (x.1 1)) (sq 4 (x.1 6)) (sq 4 (x.1 3)) (sq 4 (x.1 4)) (sq 4 (x.1 7)) (sq 4 (x.1 8)) (sq 4 (x.1 9)) (sq 4 (x.1 10)) (hrm (x.2 0)) (hrm (x.2 1)) (sq 4 (up2 (x.1 11) a t (x.1 11 a t))) (x.1 12 0 0) (x.1 12 0 1)) = (wM qm cI cZ n S P (sLearn x a t v)) := by unfold sLearn; rw [if_neg c20, up2_id]
    rw [hW1] at hP hD
    exact W.vret hx hb hr (fun t9 ht9 hW9 => ⟨⟨(wM qm cI cZ n S P (sLearn x a t v)), rfl, rfl, by rw [ht9]; exact hP, va_K.moved hW9.alike hK, hD⟩, hS.F ht9⟩) hS.2.2 dModel_learn_35
  · refine lv_iload_n hx hb dModel_learn_23 rfl (lv_at hl 4 rfl) ?_
    refine lv_goto (tgt := 34) hx hb dModel_learn_24 (by decide) ?_
    refine ka_st (f' := sq 4 (up2 (x.1 11) a t v)) hx hb hK hP hD hS 20 0 rfl rfl (by omega) (by omega) (sq_up (by omega)) dModel_learn_34 (fun H locs hP hD hS => ?_)
    have hP : va_P D vwCl (wR qm cI cZ n S P (col (x.1 13) 0) (col (x.1 0) 0) (col (x.1 0) 1) (col (x.1 0) 2) (col (x.1 0) 3) (col (x.1 0) 4) (col (x.1 0) 5) (col (x.1 0) 6) (sq 4 (x.1 2)) (sq 4 (x.1 1)) (sq 4 (x.1 6)) (sq 4 (x.1 3)) (sq 4 (x.1 4)) (sq 4 (x.1 7)) (sq 4 (x.1 8)) (sq 4 (x.1 9)) (sq 4 (x.1 10)) (hrm (x.2 0)) (hrm (x.2 1)) (sq 4 (up2 (x.1 11) a t v)) (x.1 12 0 0) (x.1 12 0 1)) H := hP
    have hD : va_D A (wR qm cI cZ n S P (col (x.1 13) 0) (col (x.1 0) 0) (col (x.1 0) 1) (col (x.1 0) 2) (col (x.1 0) 3) (col (x.1 0) 4) (col (x.1 0) 5) (col (x.1 0) 6) (sq 4 (x.1 2)) (sq 4 (x.1 1)) (sq 4 (x.1 6)) (sq 4 (x.1 3)) (sq 4 (x.1 4)) (sq 4 (x.1 7)) (sq 4 (x.1 8)) (sq 4 (x.1 9)) (sq 4 (x.1 10)) (hrm (x.2 0)) (hrm (x.2 1)) (sq 4 (up2 (x.1 11) a t v)) (x.1 12 0 0) (x.1 12 0 1)) := hD
    have hW2 : (wR qm cI cZ n S P (col (x.1 13) 0) (col (x.1 0) 0) (col (x.1 0) 1) (col (x.1 0) 2) (col (x.1 0) 3) (col (x.1 0) 4) (col (x.1 0) 5) (col (x.1 0) 6) (sq 4 (x.1 2)) (sq 4 (x.1 1)) (sq 4 (x.1 6)) (sq 4 (x.1 3)) (sq 4 (x.1 4)) (sq 4 (x.1 7)) (sq 4 (x.1 8)) (sq 4 (x.1 9)) (sq 4 (x.1 10)) (hrm (x.2 0)) (hrm (x.2 1)) (sq 4 (up2 (x.1 11) a t v)) (x.1 12 0 0) (x.1 12 0 1)) = (wM qm cI cZ n S P (sLearn x a t v)) := by unfold sLearn; rw [if_pos c20]; rfl
    rw [hW2] at hP hD
    exact W.vret hx hb hr (fun t9 ht9 hW9 => ⟨⟨(wM qm cI cZ n S P (sLearn x a t v)), rfl, rfl, by rw [ht9]; exact hP, va_K.moved hW9.alike hK, hD⟩, hS.F ht9⟩) hS.2.2 dModel_learn_35
end
