-- ===== PART A: goes FIRST, ahead of the names: the tables' words, and 'selects' of the private methods out of them =====
/-- a private method of a class that the tables say can be made, by its rows of tables_1 -/
def lw_okq (q : MethodName × Nat) : Prop := (q.1.cls ≠ "java/lang/invoke/MethodHandle" ∧ q.1.cls ≠ "java/lang/invoke/VarHandle") ∧ Cond.instantiable q.1.cls q.2 ∈ tables_1 ∧ Cond.privateMethod q.1 ∈ tables_1 ∧ Cond.instanceMethod q.1 ∈ tables_1
theorem lw_p0 : lw_okq (⟨"DecreePool", "hasSeat", "(II)Z"⟩, 9) := ⟨⟨by decide +kernel, by decide +kernel⟩, List.mem_of_getElem? (i := 10) (by decide +kernel), List.mem_of_getElem? (i := 138) (by decide +kernel), List.mem_of_getElem? (i := 139) (by decide +kernel)⟩
theorem lw_p1 : lw_okq (⟨"DecreePool", "hasNode", "(I)Z"⟩, 9) := ⟨⟨by decide +kernel, by decide +kernel⟩, List.mem_of_getElem? (i := 10) (by decide +kernel), List.mem_of_getElem? (i := 142) (by decide +kernel), List.mem_of_getElem? (i := 143) (by decide +kernel)⟩
theorem lw_p2 : lw_okq (⟨"DecreePool", "hasSlot", "(I)Z"⟩, 9) := ⟨⟨by decide +kernel, by decide +kernel⟩, List.mem_of_getElem? (i := 10) (by decide +kernel), List.mem_of_getElem? (i := 146) (by decide +kernel), List.mem_of_getElem? (i := 147) (by decide +kernel)⟩
theorem lw_p3 : lw_okq (⟨"DecreePool", "isUp", "(I)Z"⟩, 9) := ⟨⟨by decide +kernel, by decide +kernel⟩, List.mem_of_getElem? (i := 10) (by decide +kernel), List.mem_of_getElem? (i := 150) (by decide +kernel), List.mem_of_getElem? (i := 151) (by decide +kernel)⟩
theorem lw_p4 : lw_okq (⟨"DecreePool", "seatOf", "(II)I"⟩, 9) := ⟨⟨by decide +kernel, by decide +kernel⟩, List.mem_of_getElem? (i := 10) (by decide +kernel), List.mem_of_getElem? (i := 154) (by decide +kernel), List.mem_of_getElem? (i := 155) (by decide +kernel)⟩
theorem lw_p5 : lw_okq (⟨"DecreePool", "sendToAll", "(IIIII)V"⟩, 9) := ⟨⟨by decide +kernel, by decide +kernel⟩, List.mem_of_getElem? (i := 10) (by decide +kernel), List.mem_of_getElem? (i := 170) (by decide +kernel), List.mem_of_getElem? (i := 171) (by decide +kernel)⟩
theorem lw_p6 : lw_okq (⟨"DecreePool$Pool", "leastEmpty", "()I"⟩, 3) := ⟨⟨by decide +kernel, by decide +kernel⟩, List.mem_of_getElem? (i := 21) (by decide +kernel), List.mem_of_getElem? (i := 178) (by decide +kernel), List.mem_of_getElem? (i := 179) (by decide +kernel)⟩
theorem lw_p7 : lw_okq (⟨"DecreePool", "isDeliverable", "(I)Z"⟩, 9) := ⟨⟨by decide +kernel, by decide +kernel⟩, List.mem_of_getElem? (i := 10) (by decide +kernel), List.mem_of_getElem? (i := 195) (by decide +kernel), List.mem_of_getElem? (i := 196) (by decide +kernel)⟩
theorem lw_p8 : lw_okq (⟨"DecreePool", "isAnsweredToAll", "(I)Z"⟩, 9) := ⟨⟨by decide +kernel, by decide +kernel⟩, List.mem_of_getElem? (i := 10) (by decide +kernel), List.mem_of_getElem? (i := 199) (by decide +kernel), List.mem_of_getElem? (i := 200) (by decide +kernel)⟩
theorem lw_p9 : lw_okq (⟨"DecreePool$Proposers", "awaits", "(II)Z"⟩, 6) := ⟨⟨by decide +kernel, by decide +kernel⟩, List.mem_of_getElem? (i := 38) (by decide +kernel), List.mem_of_getElem? (i := 208) (by decide +kernel), List.mem_of_getElem? (i := 209) (by decide +kernel)⟩
theorem lw_p10 : lw_okq (⟨"DecreePool", "handOver", "(I)I"⟩, 9) := ⟨⟨by decide +kernel, by decide +kernel⟩, List.mem_of_getElem? (i := 10) (by decide +kernel), List.mem_of_getElem? (i := 225) (by decide +kernel), List.mem_of_getElem? (i := 226) (by decide +kernel)⟩
theorem lw_p11 : lw_okq (⟨"DecreePool$Learners", "nodesHeardWith", "(II)I"⟩, 3) := ⟨⟨by decide +kernel, by decide +kernel⟩, List.mem_of_getElem? (i := 89) (by decide +kernel), List.mem_of_getElem? (i := 270) (by decide +kernel), List.mem_of_getElem? (i := 271) (by decide +kernel)⟩
theorem lw_p12 : lw_okq (⟨"DecreePool", "leastDeliverable", "()I"⟩, 9) := ⟨⟨by decide +kernel, by decide +kernel⟩, List.mem_of_getElem? (i := 10) (by decide +kernel), List.mem_of_getElem? (i := 284) (by decide +kernel), List.mem_of_getElem? (i := 285) (by decide +kernel)⟩
theorem lw_p13 : lw_okq (⟨"DecreePool$Acceptors", "acceptorsOf", "(II)I"⟩, 5) := ⟨⟨by decide +kernel, by decide +kernel⟩, List.mem_of_getElem? (i := 66) (by decide +kernel), List.mem_of_getElem? (i := 372) (by decide +kernel), List.mem_of_getElem? (i := 373) (by decide +kernel)⟩
theorem lw_p14 : lw_okq (⟨"DecreePool", "prefixLength", "(I)I"⟩, 9) := ⟨⟨by decide +kernel, by decide +kernel⟩, List.mem_of_getElem? (i := 10) (by decide +kernel), List.mem_of_getElem? (i := 381) (by decide +kernel), List.mem_of_getElem? (i := 382) (by decide +kernel)⟩
theorem lw_p15 : lw_okq (⟨"DecreePoolModel", "isNode", "(I)Z"⟩, 25) := ⟨⟨by decide +kernel, by decide +kernel⟩, List.mem_of_getElem? (i := 400) (by decide +kernel), List.mem_of_getElem? (i := 487) (by decide +kernel), List.mem_of_getElem? (i := 488) (by decide +kernel)⟩
def lw_privs_1 : List (MethodName × Nat) := [(⟨"DecreePool", "hasSeat", "(II)Z"⟩, 9), (⟨"DecreePool", "hasNode", "(I)Z"⟩, 9), (⟨"DecreePool", "hasSlot", "(I)Z"⟩, 9), (⟨"DecreePool", "isUp", "(I)Z"⟩, 9), (⟨"DecreePool", "seatOf", "(II)I"⟩, 9), (⟨"DecreePool", "sendToAll", "(IIIII)V"⟩, 9), (⟨"DecreePool$Pool", "leastEmpty", "()I"⟩, 3), (⟨"DecreePool", "isDeliverable", "(I)Z"⟩, 9), (⟨"DecreePool", "isAnsweredToAll", "(I)Z"⟩, 9), (⟨"DecreePool$Proposers", "awaits", "(II)Z"⟩, 6), (⟨"DecreePool", "handOver", "(I)I"⟩, 9), (⟨"DecreePool$Learners", "nodesHeardWith", "(II)I"⟩, 3), (⟨"DecreePool", "leastDeliverable", "()I"⟩, 9), (⟨"DecreePool$Acceptors", "acceptorsOf", "(II)I"⟩, 5), (⟨"DecreePool", "prefixLength", "(I)I"⟩, 9), (⟨"DecreePoolModel", "isNode", "(I)Z"⟩, 25)]
theorem lw_r1 : ∀ q ∈ lw_privs_1, lw_okq q := List.forall_mem_cons.mpr ⟨lw_p0, List.forall_mem_cons.mpr ⟨lw_p1, List.forall_mem_cons.mpr ⟨lw_p2, List.forall_mem_cons.mpr ⟨lw_p3, List.forall_mem_cons.mpr ⟨lw_p4, List.forall_mem_cons.mpr ⟨lw_p5, List.forall_mem_cons.mpr ⟨lw_p6, List.forall_mem_cons.mpr ⟨lw_p7, List.forall_mem_cons.mpr ⟨lw_p8, List.forall_mem_cons.mpr ⟨lw_p9, List.forall_mem_cons.mpr ⟨lw_p10, List.forall_mem_cons.mpr ⟨lw_p11, List.forall_mem_cons.mpr ⟨lw_p12, List.forall_mem_cons.mpr ⟨lw_p13, List.forall_mem_cons.mpr ⟨lw_p14, List.forall_mem_cons.mpr ⟨lw_p15, fun _ h => absurd h List.not_mem_nil⟩⟩⟩⟩⟩⟩⟩⟩⟩⟩⟩⟩⟩⟩⟩⟩
theorem lw_p16 : lw_okq (⟨"DecreePoolModel", "isSlot", "(I)Z"⟩, 25) := ⟨⟨by decide +kernel, by decide +kernel⟩, List.mem_of_getElem? (i := 400) (by decide +kernel), List.mem_of_getElem? (i := 491) (by decide +kernel), List.mem_of_getElem? (i := 492) (by decide +kernel)⟩
theorem lw_p17 : lw_okq (⟨"DecreePoolModel", "empty", "()I"⟩, 25) := ⟨⟨by decide +kernel, by decide +kernel⟩, List.mem_of_getElem? (i := 400) (by decide +kernel), List.mem_of_getElem? (i := 495) (by decide +kernel), List.mem_of_getElem? (i := 496) (by decide +kernel)⟩
theorem lw_p18 : lw_okq (⟨"DecreePoolModel", "sendAll", "(IIIII)V"⟩, 25) := ⟨⟨by decide +kernel, by decide +kernel⟩, List.mem_of_getElem? (i := 400) (by decide +kernel), List.mem_of_getElem? (i := 499) (by decide +kernel), List.mem_of_getElem? (i := 500) (by decide +kernel)⟩
theorem lw_p19 : lw_okq (⟨"DecreePoolModel", "send", "(IIIIIII)I"⟩, 25) := ⟨⟨by decide +kernel, by decide +kernel⟩, List.mem_of_getElem? (i := 400) (by decide +kernel), List.mem_of_getElem? (i := 503) (by decide +kernel), List.mem_of_getElem? (i := 504) (by decide +kernel)⟩
theorem lw_p20 : lw_okq (⟨"DecreePoolModel", "isMessage", "(I)Z"⟩, 25) := ⟨⟨by decide +kernel, by decide +kernel⟩, List.mem_of_getElem? (i := 400) (by decide +kernel), List.mem_of_getElem? (i := 511) (by decide +kernel), List.mem_of_getElem? (i := 512) (by decide +kernel)⟩
theorem lw_p21 : lw_okq (⟨"DecreePoolModel", "sends", "(I)I"⟩, 25) := ⟨⟨by decide +kernel, by decide +kernel⟩, List.mem_of_getElem? (i := 400) (by decide +kernel), List.mem_of_getElem? (i := 515) (by decide +kernel), List.mem_of_getElem? (i := 516) (by decide +kernel)⟩
theorem lw_p22 : lw_okq (⟨"DecreePoolModel", "isAwaited", "(I)Z"⟩, 25) := ⟨⟨by decide +kernel, by decide +kernel⟩, List.mem_of_getElem? (i := 400) (by decide +kernel), List.mem_of_getElem? (i := 519) (by decide +kernel), List.mem_of_getElem? (i := 520) (by decide +kernel)⟩
theorem lw_p23 : lw_okq (⟨"DecreePoolModel", "withPromise", "(I)I"⟩, 25) := ⟨⟨by decide +kernel, by decide +kernel⟩, List.mem_of_getElem? (i := 400) (by decide +kernel), List.mem_of_getElem? (i := 523) (by decide +kernel), List.mem_of_getElem? (i := 524) (by decide +kernel)⟩
theorem lw_p24 : lw_okq (⟨"DecreePoolModel", "isMajority", "(I)Z"⟩, 25) := ⟨⟨by decide +kernel, by decide +kernel⟩, List.mem_of_getElem? (i := 400) (by decide +kernel), List.mem_of_getElem? (i := 530) (by decide +kernel), List.mem_of_getElem? (i := 531) (by decide +kernel)⟩
theorem lw_p25 : lw_okq (⟨"DecreePoolModel", "take", "(II)V"⟩, 25) := ⟨⟨by decide +kernel, by decide +kernel⟩, List.mem_of_getElem? (i := 400) (by decide +kernel), List.mem_of_getElem? (i := 534) (by decide +kernel), List.mem_of_getElem? (i := 535) (by decide +kernel)⟩
theorem lw_p26 : lw_okq (⟨"DecreePoolModel", "promise", "(I)V"⟩, 25) := ⟨⟨by decide +kernel, by decide +kernel⟩, List.mem_of_getElem? (i := 400) (by decide +kernel), List.mem_of_getElem? (i := 538) (by decide +kernel), List.mem_of_getElem? (i := 539) (by decide +kernel)⟩
theorem lw_p27 : lw_okq (⟨"DecreePoolModel", "hear", "(I)V"⟩, 25) := ⟨⟨by decide +kernel, by decide +kernel⟩, List.mem_of_getElem? (i := 400) (by decide +kernel), List.mem_of_getElem? (i := 542) (by decide +kernel), List.mem_of_getElem? (i := 543) (by decide +kernel)⟩
theorem lw_p28 : lw_okq (⟨"DecreePoolModel", "learn", "(III)V"⟩, 25) := ⟨⟨by decide +kernel, by decide +kernel⟩, List.mem_of_getElem? (i := 400) (by decide +kernel), List.mem_of_getElem? (i := 546) (by decide +kernel), List.mem_of_getElem? (i := 547) (by decide +kernel)⟩
theorem lw_p29 : lw_okq (⟨"DecreePoolModel", "up", "()I"⟩, 25) := ⟨⟨by decide +kernel, by decide +kernel⟩, List.mem_of_getElem? (i := 400) (by decide +kernel), List.mem_of_getElem? (i := 567) (by decide +kernel), List.mem_of_getElem? (i := 568) (by decide +kernel)⟩
def lw_privs_2 : List (MethodName × Nat) := [(⟨"DecreePoolModel", "isSlot", "(I)Z"⟩, 25), (⟨"DecreePoolModel", "empty", "()I"⟩, 25), (⟨"DecreePoolModel", "sendAll", "(IIIII)V"⟩, 25), (⟨"DecreePoolModel", "send", "(IIIIIII)I"⟩, 25), (⟨"DecreePoolModel", "isMessage", "(I)Z"⟩, 25), (⟨"DecreePoolModel", "sends", "(I)I"⟩, 25), (⟨"DecreePoolModel", "isAwaited", "(I)Z"⟩, 25), (⟨"DecreePoolModel", "withPromise", "(I)I"⟩, 25), (⟨"DecreePoolModel", "isMajority", "(I)Z"⟩, 25), (⟨"DecreePoolModel", "take", "(II)V"⟩, 25), (⟨"DecreePoolModel", "promise", "(I)V"⟩, 25), (⟨"DecreePoolModel", "hear", "(I)V"⟩, 25), (⟨"DecreePoolModel", "learn", "(III)V"⟩, 25), (⟨"DecreePoolModel", "up", "()I"⟩, 25)]
theorem lw_r2 : ∀ q ∈ lw_privs_2, lw_okq q := List.forall_mem_cons.mpr ⟨lw_p16, List.forall_mem_cons.mpr ⟨lw_p17, List.forall_mem_cons.mpr ⟨lw_p18, List.forall_mem_cons.mpr ⟨lw_p19, List.forall_mem_cons.mpr ⟨lw_p20, List.forall_mem_cons.mpr ⟨lw_p21, List.forall_mem_cons.mpr ⟨lw_p22, List.forall_mem_cons.mpr ⟨lw_p23, List.forall_mem_cons.mpr ⟨lw_p24, List.forall_mem_cons.mpr ⟨lw_p25, List.forall_mem_cons.mpr ⟨lw_p26, List.forall_mem_cons.mpr ⟨lw_p27, List.forall_mem_cons.mpr ⟨lw_p28, List.forall_mem_cons.mpr ⟨lw_p29, fun _ h => absurd h List.not_mem_nil⟩⟩⟩⟩⟩⟩⟩⟩⟩⟩⟩⟩⟩⟩
def lw_privs : List (MethodName × Nat) := lw_privs_1 ++ (lw_privs_2)
def lw_tbl : List Cond := k2_sels lw_privs ++ tables_1
theorem lw_privs_ok : ∀ q ∈ lw_privs, lw_okq q := by
  show ∀ q ∈ lw_privs_1 ++ (lw_privs_2), lw_okq q
  exact List.forall_mem_append.mpr ⟨lw_r1, lw_r2⟩

abbrev RDecreePool : String := "DecreePool"
abbrev RPool : String := "DecreePool$Pool"
abbrev RProposers : String := "DecreePool$Proposers"
abbrev RAcceptors : String := "DecreePool$Acceptors"
abbrev RLearners : String := "DecreePool$Learners"
abbrev RModel : String := "DecreePoolModel"
abbrev RLaw : String := "DecreePoolLaw"
abbrev RInteger : String := "java/lang/Integer"
abbrev RArrays : String := "java/util/Arrays"
def TDecreePool : u_T := fun k => match k with
  | 0 => ("DecreePool", "nodes", "I", true)
  | 1 => ("DecreePool", "slots", "I", true)
  | 2 => ("DecreePool", "pool", "LDecreePool$Pool;", true)
  | 3 => ("DecreePool", "proposers", "LDecreePool$Proposers;", true)
  | 4 => ("DecreePool", "acceptors", "LDecreePool$Acceptors;", true)
  | 5 => ("DecreePool", "learners", "LDecreePool$Learners;", true)
  | 6 => ("DecreePool", "upBits", "I", false)
  | 7 => ("DecreePool", "deliveries", "I", false)
  | _ => ("DecreePool", "lost", "I", false)
def tyDecreePool : Nat → FieldType := fun k => match k with
  | 0 => .int
  | 1 => .int
  | 2 => .object "DecreePool$Pool"
  | 3 => .object "DecreePool$Proposers"
  | 4 => .object "DecreePool$Acceptors"
  | 5 => .object "DecreePool$Learners"
  | 6 => .int
  | 7 => .int
  | _ => .int
theorem nmDecreePool : ∀ a, a < 9 → ∀ b, b < 9 → a ≠ b → (TDecreePool a).2.1 ≠ (TDecreePool b).2.1 := by decide +kernel
theorem tyDecreePool_ok : ∀ k, k < 9 → parseFieldDescriptor (TDecreePool k).2.2.1 = some (tyDecreePool k) := by decide +kernel
def TPool : u_T := fun k => match k with
  | 0 => ("DecreePool$Pool", "places", "I", true)
  | 1 => ("DecreePool$Pool", "rows", "[I", true)
  | _ => ("DecreePool$Pool", "messages", "I", false)
def tyPool : Nat → FieldType := fun k => match k with
  | 0 => .int
  | 1 => .array .int
  | _ => .int
theorem nmPool : ∀ a, a < 3 → ∀ b, b < 3 → a ≠ b → (TPool a).2.1 ≠ (TPool b).2.1 := by decide +kernel
theorem tyPool_ok : ∀ k, k < 3 → parseFieldDescriptor (TPool k).2.2.1 = some (tyPool k) := by decide +kernel
def TProposers : u_T := fun k => match k with
  | 0 => ("DecreePool$Proposers", "nodes", "I", true)
  | 1 => ("DecreePool$Proposers", "phase", "[I", true)
  | 2 => ("DecreePool$Proposers", "lastBallot", "[I", true)
  | 3 => ("DecreePool$Proposers", "promisedBits", "[I", true)
  | 4 => ("DecreePool$Proposers", "bestBallot", "[I", true)
  | _ => ("DecreePool$Proposers", "value", "[I", true)
def tyProposers : Nat → FieldType := fun k => match k with
  | 0 => .int
  | 1 => .array .int
  | 2 => .array .int
  | 3 => .array .int
  | 4 => .array .int
  | _ => .array .int
theorem nmProposers : ∀ a, a < 6 → ∀ b, b < 6 → a ≠ b → (TProposers a).2.1 ≠ (TProposers b).2.1 := by decide +kernel
theorem tyProposers_ok : ∀ k, k < 6 → parseFieldDescriptor (TProposers k).2.2.1 = some (tyProposers k) := by decide +kernel
def TAcceptors : u_T := fun k => match k with
  | 0 => ("DecreePool$Acceptors", "nodes", "I", true)
  | 1 => ("DecreePool$Acceptors", "slots", "I", true)
  | 2 => ("DecreePool$Acceptors", "promisedBallot", "[I", true)
  | 3 => ("DecreePool$Acceptors", "acceptedBallot", "[I", true)
  | _ => ("DecreePool$Acceptors", "acceptedValue", "[I", true)
def tyAcceptors : Nat → FieldType := fun k => match k with
  | 0 => .int
  | 1 => .int
  | 2 => .array .int
  | 3 => .array .int
  | _ => .array .int
theorem nmAcceptors : ∀ a, a < 5 → ∀ b, b < 5 → a ≠ b → (TAcceptors a).2.1 ≠ (TAcceptors b).2.1 := by decide +kernel
theorem tyAcceptors_ok : ∀ k, k < 5 → parseFieldDescriptor (TAcceptors k).2.2.1 = some (tyAcceptors k) := by decide +kernel
def TLearners : u_T := fun k => match k with
  | 0 => ("DecreePool$Learners", "nodes", "I", true)
  | 1 => ("DecreePool$Learners", "heardBallot", "[I", true)
  | _ => ("DecreePool$Learners", "decree", "[I", true)
def tyLearners : Nat → FieldType := fun k => match k with
  | 0 => .int
  | 1 => .array .int
  | _ => .array .int
theorem nmLearners : ∀ a, a < 3 → ∀ b, b < 3 → a ≠ b → (TLearners a).2.1 ≠ (TLearners b).2.1 := by decide +kernel
theorem tyLearners_ok : ∀ k, k < 3 → parseFieldDescriptor (TLearners k).2.2.1 = some (tyLearners k) := by decide +kernel
def TModel : u_T := fun k => match k with
  | 0 => ("DecreePoolModel", "nodes", "I", false)
  | 1 => ("DecreePoolModel", "slots", "I", false)
  | 2 => ("DecreePoolModel", "places", "I", false)
  | 3 => ("DecreePoolModel", "down", "[Z", true)
  | 4 => ("DecreePoolModel", "kinds", "[I", true)
  | 5 => ("DecreePoolModel", "senders", "[I", true)
  | 6 => ("DecreePoolModel", "receivers", "[I", true)
  | 7 => ("DecreePoolModel", "slotOf", "[I", true)
  | 8 => ("DecreePoolModel", "ballots", "[I", true)
  | 9 => ("DecreePoolModel", "values", "[I", true)
  | 10 => ("DecreePoolModel", "olds", "[I", true)
  | 11 => ("DecreePoolModel", "last", "[I", true)
  | 12 => ("DecreePoolModel", "phases", "[I", true)
  | 13 => ("DecreePoolModel", "wishes", "[I", true)
  | 14 => ("DecreePoolModel", "promises", "[I", true)
  | 15 => ("DecreePoolModel", "best", "[I", true)
  | 16 => ("DecreePoolModel", "bestValue", "[I", true)
  | 17 => ("DecreePoolModel", "promised", "[I", true)
  | 18 => ("DecreePoolModel", "accepted", "[I", true)
  | 19 => ("DecreePoolModel", "acceptedValue", "[I", true)
  | 20 => ("DecreePoolModel", "heardBallot", "[I", true)
  | 21 => ("DecreePoolModel", "heardValue", "[I", true)
  | 22 => ("DecreePoolModel", "learned", "[I", true)
  | 23 => ("DecreePoolModel", "delivered", "I", false)
  | _ => ("DecreePoolModel", "lost", "I", false)
def tyModel : Nat → FieldType := fun k => match k with
  | 0 => .int
  | 1 => .int
  | 2 => .int
  | 3 => .array .boolean
  | 4 => .array .int
  | 5 => .array .int
  | 6 => .array .int
  | 7 => .array .int
  | 8 => .array .int
  | 9 => .array .int
  | 10 => .array .int
  | 11 => .array .int
  | 12 => .array .int
  | 13 => .array .int
  | 14 => .array .int
  | 15 => .array .int
  | 16 => .array .int
  | 17 => .array .int
  | 18 => .array .int
  | 19 => .array .int
  | 20 => .array .int
  | 21 => .array .int
  | 22 => .array .int
  | 23 => .int
  | _ => .int
theorem nmModel : ∀ a, a < 25 → ∀ b, b < 25 → a ≠ b → (TModel a).2.1 ≠ (TModel b).2.1 := by decide +kernel
theorem tyModel_ok : ∀ k, k < 25 → parseFieldDescriptor (TModel k).2.2.1 = some (tyModel k) := by decide +kernel
abbrev vwCl : List vw_C := [(RDecreePool, TDecreePool, 9), (RPool, TPool, 3), (RProposers, TProposers, 6), (RAcceptors, TAcceptors, 5), (RLearners, TLearners, 3), (RModel, TModel, 25)]
/-- the words that every method here starts with: the good ones of the tables -/
def WL : List Cond := lw_tbl.filter goodWord
theorem WL_t {w : Cond} (i : Nat) (h : tables_1[i]? = some w) (hg : goodWord w = true) : w ∈ WL := List.mem_filter.mpr ⟨List.mem_append_right _ (List.mem_of_getElem? h), hg⟩
theorem WL_s {q : MethodName × Nat} (h : q ∈ lw_privs) : Cond.selects q.1.cls q.1 q.1 ∈ WL := List.mem_filter.mpr ⟨List.mem_append_left _ (List.mem_map.mpr ⟨q, h, rfl⟩), rfl⟩
theorem WL_good {w : Cond} (h : w ∈ WL) : goodWord w = true := (List.mem_filter.mp h).2
theorem mc {c w : Cond} (h : w ∈ WL) : w ∈ c :: WL := List.mem_cons_of_mem _ h
theorem gC {c c2 : Cond} (h : c2 ∈ WL) : GoodIn (c :: WL) (c2 :: WL) := fun w hw => by
  have hm : w ∈ WL := (List.mem_cons.mp hw).elim (fun e => e ▸ h) id
  exact ⟨mc hm, good_of_word (WL_good hm)⟩
theorem gV {c c2 : Cond} {own C : String} {idx : Nat} {y : MethodName} (h1 : Cond.methodLink own idx y ∈ WL) (h2 : Cond.instanceMethod y ∈ WL) (h3 : Cond.selects C y y ∈ WL) (h4 : Cond.initialized C ∈ WL) (h : c2 ∈ WL) : GoodIn (c :: WL) (wsV own idx C y (c2 :: WL)) := fun w hw => by
  have hm : w ∈ WL := by
    rcases List.mem_append.mp hw with hw | hw
    · simp only [List.mem_cons, List.not_mem_nil, or_false] at hw
      rcases hw with rfl | rfl | rfl | rfl <;> assumption
    · exact (List.mem_cons.mp hw).elim (fun e => e ▸ h) id
  exact ⟨mc hm, good_of_word (WL_good hm)⟩
theorem gS {c c2 : Cond} {own : String} {idx : Nat} {y : MethodName} (h1 : Cond.methodLink own idx y ∈ WL) (h2 : Cond.static y ∈ WL) (h3 : Cond.initialized y.cls ∈ WL) (h : c2 ∈ WL) : GoodIn (c :: WL) (va_wsS own idx y (c2 :: WL)) := fun w hw => by
  have hm : w ∈ WL := by
    rcases List.mem_append.mp hw with hw | hw
    · simp only [List.mem_cons, List.not_mem_nil, or_false] at hw
      rcases hw with rfl | rfl | rfl <;> assumption
    · exact (List.mem_cons.mp hw).elim (fun e => e ▸ h) id
  exact ⟨mc hm, good_of_word (WL_good hm)⟩
abbrev nz1 : Cond := .methodLinkNest "DecreePool$Pool" 22 ⟨"DecreePool", "isWithin", "(III)Z"⟩ "DecreePool"
abbrev nz2 : Cond := .methodLinkNest "DecreePool$Proposers" 47 ⟨"DecreePool", "isMajority", "(II)Z"⟩ "DecreePool"
abbrev nz3 : Cond := .methodLinkNest "DecreePool$Learners" 35 ⟨"DecreePool", "isMajority", "(II)Z"⟩ "DecreePool"
abbrev nz4 : Cond := .methodLinkNest "DecreePool$Acceptors" 42 ⟨"DecreePool", "isMajority", "(II)Z"⟩ "DecreePool"
def NZ (U : State) : Prop := va_Nw nz1 U ∧ va_Nw nz2 U ∧ va_Nw nz3 U ∧ va_Nw nz4 U
theorem NZ.n1 {U : State} (h : NZ U) : va_Nw nz1 U := h.1
theorem NZ.n2 {U : State} (h : NZ U) : va_Nw nz2 U := h.2.1
theorem NZ.n3 {U : State} (h : NZ U) : va_Nw nz3 U := h.2.2.1
theorem NZ.n4 {U : State} (h : NZ U) : va_Nw nz4 U := h.2.2.2
theorem NZ.same {u U : State} (h : NZ u) (e : u.vm = U.vm) : NZ U := ⟨va_Nw.same rfl e h.1, va_Nw.same rfl e h.2.1, va_Nw.same rfl e h.2.2.1, va_Nw.same rfl e h.2.2.2⟩
theorem NZ.moved {s U : State} (h : NZ s) (hW : s.WarmedH U.vm) : NZ U := ⟨va_Nw.warmM hW h.1, va_Nw.warmM hW h.2.1, va_Nw.warmM hW h.2.2.1, va_Nw.warmM hW h.2.2.2⟩
abbrev cDecreePool_init : ByteArray := prog_1_method_1_code
abbrev yDecreePool_init : MethodName := ⟨"DecreePool", "<init>", "(III)V"⟩
def wsDecreePool_init : List Cond := .code yDecreePool_init cDecreePool_init 4 (Option.none : Option ClassFile.FieldType) :: WL
abbrev cDecreePool_isWithin : ByteArray := prog_1_method_19_code
abbrev yDecreePool_isWithin : MethodName := ⟨"DecreePool", "isWithin", "(III)Z"⟩
def wsDecreePool_isWithin : List Cond := .code yDecreePool_isWithin cDecreePool_isWithin 3 (Option.some .boolean) :: WL
abbrev cPool_init : ByteArray := prog_4_method_1_code
abbrev yPool_init : MethodName := ⟨"DecreePool$Pool", "<init>", "(I)V"⟩
def wsPool_init : List Cond := .code yPool_init cPool_init 2 (Option.none : Option ClassFile.FieldType) :: WL
abbrev cProposers_init : ByteArray := prog_5_method_1_code
abbrev yProposers_init : MethodName := ⟨"DecreePool$Proposers", "<init>", "(II)V"⟩
def wsProposers_init : List Cond := .code yProposers_init cProposers_init 4 (Option.none : Option ClassFile.FieldType) :: WL
abbrev cArrays_fill : ByteArray := prog_9_method_103_code
abbrev yArrays_fill : MethodName := ⟨"java/util/Arrays", "fill", "([II)V"⟩
def wsArrays_fill : List Cond := .code yArrays_fill cArrays_fill 4 (Option.none : Option ClassFile.FieldType) :: WL
abbrev cAcceptors_init : ByteArray := prog_2_method_1_code
abbrev yAcceptors_init : MethodName := ⟨"DecreePool$Acceptors", "<init>", "(II)V"⟩
def wsAcceptors_init : List Cond := .code yAcceptors_init cAcceptors_init 4 (Option.none : Option ClassFile.FieldType) :: WL
abbrev cLearners_init : ByteArray := prog_3_method_1_code
abbrev yLearners_init : MethodName := ⟨"DecreePool$Learners", "<init>", "(II)V"⟩
def wsLearners_init : List Cond := .code yLearners_init cLearners_init 4 (Option.none : Option ClassFile.FieldType) :: WL
abbrev cDecreePool_prepare : ByteArray := prog_1_method_2_code
abbrev yDecreePool_prepare : MethodName := ⟨"DecreePool", "prepare", "(IIII)I"⟩
def wsDecreePool_prepare : List Cond := .code yDecreePool_prepare cDecreePool_prepare 7 (Option.some .int) :: WL
abbrev cDecreePool_hasSeat : ByteArray := prog_1_method_23_code
abbrev yDecreePool_hasSeat : MethodName := ⟨"DecreePool", "hasSeat", "(II)Z"⟩
def wsDecreePool_hasSeat : List Cond := .code yDecreePool_hasSeat cDecreePool_hasSeat 3 (Option.some .boolean) :: WL
abbrev cDecreePool_hasNode : ByteArray := prog_1_method_21_code
abbrev yDecreePool_hasNode : MethodName := ⟨"DecreePool", "hasNode", "(I)Z"⟩
def wsDecreePool_hasNode : List Cond := .code yDecreePool_hasNode cDecreePool_hasNode 2 (Option.some .boolean) :: WL
abbrev cDecreePool_hasSlot : ByteArray := prog_1_method_22_code
abbrev yDecreePool_hasSlot : MethodName := ⟨"DecreePool", "hasSlot", "(I)Z"⟩
def wsDecreePool_hasSlot : List Cond := .code yDecreePool_hasSlot cDecreePool_hasSlot 2 (Option.some .boolean) :: WL
abbrev cDecreePool_isUp : ByteArray := prog_1_method_25_code
abbrev yDecreePool_isUp : MethodName := ⟨"DecreePool", "isUp", "(I)Z"⟩
def wsDecreePool_isUp : List Cond := .code yDecreePool_isUp cDecreePool_isUp 2 (Option.some .boolean) :: WL
abbrev cDecreePool_seatOf : ByteArray := prog_1_method_24_code
abbrev yDecreePool_seatOf : MethodName := ⟨"DecreePool", "seatOf", "(II)I"⟩
def wsDecreePool_seatOf : List Cond := .code yDecreePool_seatOf cDecreePool_seatOf 3 (Option.some .int) :: WL
abbrev cProposers_lastBallot : ByteArray := prog_5_method_3_code
abbrev yProposers_lastBallot : MethodName := ⟨"DecreePool$Proposers", "lastBallot", "(I)I"⟩
def wsProposers_lastBallot : List Cond := .code yProposers_lastBallot cProposers_lastBallot 2 (Option.some .int) :: WL
abbrev cPool_emptyPlaces : ByteArray := prog_4_method_4_code
abbrev yPool_emptyPlaces : MethodName := ⟨"DecreePool$Pool", "emptyPlaces", "()I"⟩
def wsPool_emptyPlaces : List Cond := .code yPool_emptyPlaces cPool_emptyPlaces 1 (Option.some .int) :: WL
abbrev cProposers_begin : ByteArray := prog_5_method_7_code
abbrev yProposers_begin : MethodName := ⟨"DecreePool$Proposers", "begin", "(III)V"⟩
def wsProposers_begin : List Cond := .code yProposers_begin cProposers_begin 4 (Option.none : Option ClassFile.FieldType) :: WL
abbrev cDecreePool_sendToAll : ByteArray := prog_1_method_27_code
abbrev yDecreePool_sendToAll : MethodName := ⟨"DecreePool", "sendToAll", "(IIIII)V"⟩
def wsDecreePool_sendToAll : List Cond := .code yDecreePool_sendToAll cDecreePool_sendToAll 7 (Option.none : Option ClassFile.FieldType) :: WL
abbrev cPool_send : ByteArray := prog_4_method_8_code
abbrev yPool_send : MethodName := ⟨"DecreePool$Pool", "send", "(IIIIIII)I"⟩
def wsPool_send : List Cond := .code yPool_send cPool_send 10 (Option.some .int) :: WL
abbrev cPool_leastEmpty : ByteArray := prog_4_method_10_code
abbrev yPool_leastEmpty : MethodName := ⟨"DecreePool$Pool", "leastEmpty", "()I"⟩
def wsPool_leastEmpty : List Cond := .code yPool_leastEmpty cPool_leastEmpty 2 (Option.some .int) :: WL
abbrev cPool_field : ByteArray := prog_4_method_6_code
abbrev yPool_field : MethodName := ⟨"DecreePool$Pool", "field", "(II)I"⟩
def wsPool_field : List Cond := .code yPool_field cPool_field 3 (Option.some .int) :: WL
abbrev cDecreePool_deliver : ByteArray := prog_1_method_3_code
abbrev yDecreePool_deliver : MethodName := ⟨"DecreePool", "deliver", "(I)I"⟩
def wsDecreePool_deliver : List Cond := .code yDecreePool_deliver cDecreePool_deliver 2 (Option.some .int) :: WL
abbrev cPool_holds : ByteArray := prog_4_method_5_code
abbrev yPool_holds : MethodName := ⟨"DecreePool$Pool", "holds", "(I)Z"⟩
def wsPool_holds : List Cond := .code yPool_holds cPool_holds 2 (Option.some .boolean) :: WL
abbrev cDecreePool_isDeliverable : ByteArray := prog_1_method_29_code
abbrev yDecreePool_isDeliverable : MethodName := ⟨"DecreePool", "isDeliverable", "(I)Z"⟩
def wsDecreePool_isDeliverable : List Cond := .code yDecreePool_isDeliverable cDecreePool_isDeliverable 2 (Option.some .boolean) :: WL
abbrev cDecreePool_isAnsweredToAll : ByteArray := prog_1_method_30_code
abbrev yDecreePool_isAnsweredToAll : MethodName := ⟨"DecreePool", "isAnsweredToAll", "(I)Z"⟩
def wsDecreePool_isAnsweredToAll : List Cond := .code yDecreePool_isAnsweredToAll cDecreePool_isAnsweredToAll 5 (Option.some .boolean) :: WL
abbrev cProposers_wouldWin : ByteArray := prog_5_method_9_code
abbrev yProposers_wouldWin : MethodName := ⟨"DecreePool$Proposers", "wouldWin", "(III)Z"⟩
def wsProposers_wouldWin : List Cond := .code yProposers_wouldWin cProposers_wouldWin 4 (Option.some .boolean) :: WL
abbrev cProposers_awaits : ByteArray := prog_5_method_11_code
abbrev yProposers_awaits : MethodName := ⟨"DecreePool$Proposers", "awaits", "(II)Z"⟩
def wsProposers_awaits : List Cond := .code yProposers_awaits cProposers_awaits 3 (Option.some .boolean) :: WL
abbrev cInteger_bitCount : ByteArray := prog_8_method_49_code
abbrev yInteger_bitCount : MethodName := ⟨"java/lang/Integer", "bitCount", "(I)I"⟩
def wsInteger_bitCount : List Cond := .code yInteger_bitCount cInteger_bitCount 1 (Option.some .int) :: WL
abbrev cDecreePool_isMajority : ByteArray := prog_1_method_20_code
abbrev yDecreePool_isMajority : MethodName := ⟨"DecreePool", "isMajority", "(II)Z"⟩
def wsDecreePool_isMajority : List Cond := .code yDecreePool_isMajority cDecreePool_isMajority 2 (Option.some .boolean) :: WL
abbrev cAcceptors_wouldAccept : ByteArray := prog_2_method_6_code
abbrev yAcceptors_wouldAccept : MethodName := ⟨"DecreePool$Acceptors", "wouldAccept", "(II)Z"⟩
def wsAcceptors_wouldAccept : List Cond := .code yAcceptors_wouldAccept cAcceptors_wouldAccept 3 (Option.some .boolean) :: WL
abbrev cDecreePool_handOver : ByteArray := prog_1_method_31_code
abbrev yDecreePool_handOver : MethodName := ⟨"DecreePool", "handOver", "(I)I"⟩
def wsDecreePool_handOver : List Cond := .code yDecreePool_handOver cDecreePool_handOver 10 (Option.some .int) :: WL
abbrev cPool_takeOut : ByteArray := prog_4_method_7_code
abbrev yPool_takeOut : MethodName := ⟨"DecreePool$Pool", "takeOut", "(I)V"⟩
def wsPool_takeOut : List Cond := .code yPool_takeOut cPool_takeOut 2 (Option.none : Option ClassFile.FieldType) :: WL
abbrev cAcceptors_promise : ByteArray := prog_2_method_5_code
abbrev yAcceptors_promise : MethodName := ⟨"DecreePool$Acceptors", "promise", "(II)Z"⟩
def wsAcceptors_promise : List Cond := .code yAcceptors_promise cAcceptors_promise 3 (Option.some .boolean) :: WL
abbrev cAcceptors_acceptedValue : ByteArray := prog_2_method_4_code
abbrev yAcceptors_acceptedValue : MethodName := ⟨"DecreePool$Acceptors", "acceptedValue", "(I)I"⟩
def wsAcceptors_acceptedValue : List Cond := .code yAcceptors_acceptedValue cAcceptors_acceptedValue 2 (Option.some .int) :: WL
abbrev cAcceptors_acceptedBallot : ByteArray := prog_2_method_3_code
abbrev yAcceptors_acceptedBallot : MethodName := ⟨"DecreePool$Acceptors", "acceptedBallot", "(I)I"⟩
def wsAcceptors_acceptedBallot : List Cond := .code yAcceptors_acceptedBallot cAcceptors_acceptedBallot 2 (Option.some .int) :: WL
abbrev cProposers_takePromise : ByteArray := prog_5_method_10_code
abbrev yProposers_takePromise : MethodName := ⟨"DecreePool$Proposers", "takePromise", "(IIIII)Z"⟩
def wsProposers_takePromise : List Cond := .code yProposers_takePromise cProposers_takePromise 6 (Option.some .boolean) :: WL
abbrev cProposers_promises : ByteArray := prog_5_method_4_code
abbrev yProposers_promises : MethodName := ⟨"DecreePool$Proposers", "promises", "(I)I"⟩
def wsProposers_promises : List Cond := .code yProposers_promises cProposers_promises 2 (Option.some .int) :: WL
abbrev cProposers_value : ByteArray := prog_5_method_6_code
abbrev yProposers_value : MethodName := ⟨"DecreePool$Proposers", "value", "(I)I"⟩
def wsProposers_value : List Cond := .code yProposers_value cProposers_value 2 (Option.some .int) :: WL
abbrev cAcceptors_accept : ByteArray := prog_2_method_7_code
abbrev yAcceptors_accept : MethodName := ⟨"DecreePool$Acceptors", "accept", "(III)Z"⟩
def wsAcceptors_accept : List Cond := .code yAcceptors_accept cAcceptors_accept 4 (Option.some .boolean) :: WL
abbrev cLearners_hear : ByteArray := prog_3_method_5_code
abbrev yLearners_hear : MethodName := ⟨"DecreePool$Learners", "hear", "(IIII)V"⟩
def wsLearners_hear : List Cond := .code yLearners_hear cLearners_hear 5 (Option.none : Option ClassFile.FieldType) :: WL
abbrev cLearners_ballotOf : ByteArray := prog_3_method_2_code
abbrev yLearners_ballotOf : MethodName := ⟨"DecreePool$Learners", "ballotOf", "(II)I"⟩
def wsLearners_ballotOf : List Cond := .code yLearners_ballotOf cLearners_ballotOf 3 (Option.some .int) :: WL
abbrev cLearners_nodesHeardWith : ByteArray := prog_3_method_7_code
abbrev yLearners_nodesHeardWith : MethodName := ⟨"DecreePool$Learners", "nodesHeardWith", "(II)I"⟩
def wsLearners_nodesHeardWith : List Cond := .code yLearners_nodesHeardWith cLearners_nodesHeardWith 5 (Option.some .int) :: WL
abbrev cLearners_learn : ByteArray := prog_3_method_6_code
abbrev yLearners_learn : MethodName := ⟨"DecreePool$Learners", "learn", "(II)V"⟩
def wsLearners_learn : List Cond := .code yLearners_learn cLearners_learn 3 (Option.none : Option ClassFile.FieldType) :: WL
abbrev cDecreePool_sweep : ByteArray := prog_1_method_4_code
abbrev yDecreePool_sweep : MethodName := ⟨"DecreePool", "sweep", "(I)I"⟩
def wsDecreePool_sweep : List Cond := .code yDecreePool_sweep cDecreePool_sweep 4 (Option.some .int) :: WL
abbrev cDecreePool_leastDeliverable : ByteArray := prog_1_method_28_code
abbrev yDecreePool_leastDeliverable : MethodName := ⟨"DecreePool", "leastDeliverable", "()I"⟩
def wsDecreePool_leastDeliverable : List Cond := .code yDecreePool_leastDeliverable cDecreePool_leastDeliverable 2 (Option.some .int) :: WL
abbrev cPool_places : ByteArray := prog_4_method_2_code
abbrev yPool_places : MethodName := ⟨"DecreePool$Pool", "places", "()I"⟩
def wsPool_places : List Cond := .code yPool_places cPool_places 1 (Option.some .int) :: WL
abbrev cDecreePool_drop : ByteArray := prog_1_method_5_code
abbrev yDecreePool_drop : MethodName := ⟨"DecreePool", "drop", "(I)I"⟩
def wsDecreePool_drop : List Cond := .code yDecreePool_drop cDecreePool_drop 3 (Option.some .int) :: WL
abbrev cDecreePool_duplicate : ByteArray := prog_1_method_6_code
abbrev yDecreePool_duplicate : MethodName := ⟨"DecreePool", "duplicate", "(I)I"⟩
def wsDecreePool_duplicate : List Cond := .code yDecreePool_duplicate cDecreePool_duplicate 3 (Option.some .int) :: WL
abbrev cPool_sendCopy : ByteArray := prog_4_method_9_code
abbrev yPool_sendCopy : MethodName := ⟨"DecreePool$Pool", "sendCopy", "(I)I"⟩
def wsPool_sendCopy : List Cond := .code yPool_sendCopy cPool_sendCopy 2 (Option.some .int) :: WL
abbrev cDecreePool_crash : ByteArray := prog_1_method_7_code
abbrev yDecreePool_crash : MethodName := ⟨"DecreePool", "crash", "(I)I"⟩
def wsDecreePool_crash : List Cond := .code yDecreePool_crash cDecreePool_crash 2 (Option.some .int) :: WL
abbrev cDecreePool_restart : ByteArray := prog_1_method_8_code
abbrev yDecreePool_restart : MethodName := ⟨"DecreePool", "restart", "(I)I"⟩
def wsDecreePool_restart : List Cond := .code yDecreePool_restart cDecreePool_restart 4 (Option.some .int) :: WL
abbrev cProposers_comeBack : ByteArray := prog_5_method_8_code
abbrev yProposers_comeBack : MethodName := ⟨"DecreePool$Proposers", "comeBack", "(I)V"⟩
def wsProposers_comeBack : List Cond := .code yProposers_comeBack cProposers_comeBack 2 (Option.none : Option ClassFile.FieldType) :: WL
abbrev cLearners_comeBack : ByteArray := prog_3_method_4_code
abbrev yLearners_comeBack : MethodName := ⟨"DecreePool$Learners", "comeBack", "(I)V"⟩
def wsLearners_comeBack : List Cond := .code yLearners_comeBack cLearners_comeBack 3 (Option.none : Option ClassFile.FieldType) :: WL
abbrev cDecreePool_tell : ByteArray := prog_1_method_9_code
abbrev yDecreePool_tell : MethodName := ⟨"DecreePool", "tell", "(II)I"⟩
def wsDecreePool_tell : List Cond := .code yDecreePool_tell cDecreePool_tell 4 (Option.some .int) :: WL
abbrev cLearners_decree : ByteArray := prog_3_method_3_code
abbrev yLearners_decree : MethodName := ⟨"DecreePool$Learners", "decree", "(I)I"⟩
def wsLearners_decree : List Cond := .code yLearners_decree cLearners_decree 2 (Option.some .int) :: WL
abbrev cDecreePool_learned : ByteArray := prog_1_method_10_code
abbrev yDecreePool_learned : MethodName := ⟨"DecreePool", "learned", "(II)I"⟩
def wsDecreePool_learned : List Cond := .code yDecreePool_learned cDecreePool_learned 3 (Option.some .int) :: WL
abbrev cDecreePool_acceptor : ByteArray := prog_1_method_11_code
abbrev yDecreePool_acceptor : MethodName := ⟨"DecreePool", "acceptor", "(III)I"⟩
def wsDecreePool_acceptor : List Cond := .code yDecreePool_acceptor cDecreePool_acceptor 5 (Option.some .int) :: WL
abbrev cAcceptors_promisedBallot : ByteArray := prog_2_method_2_code
abbrev yAcceptors_promisedBallot : MethodName := ⟨"DecreePool$Acceptors", "promisedBallot", "(I)I"⟩
def wsAcceptors_promisedBallot : List Cond := .code yAcceptors_promisedBallot cAcceptors_promisedBallot 2 (Option.some .int) :: WL
abbrev cDecreePool_proposer : ByteArray := prog_1_method_12_code
abbrev yDecreePool_proposer : MethodName := ⟨"DecreePool", "proposer", "(III)I"⟩
def wsDecreePool_proposer : List Cond := .code yDecreePool_proposer cDecreePool_proposer 5 (Option.some .int) :: WL
abbrev cProposers_phase : ByteArray := prog_5_method_2_code
abbrev yProposers_phase : MethodName := ⟨"DecreePool$Proposers", "phase", "(I)I"⟩
def wsProposers_phase : List Cond := .code yProposers_phase cProposers_phase 2 (Option.some .int) :: WL
abbrev cProposers_bestBallot : ByteArray := prog_5_method_5_code
abbrev yProposers_bestBallot : MethodName := ⟨"DecreePool$Proposers", "bestBallot", "(I)I"⟩
def wsProposers_bestBallot : List Cond := .code yProposers_bestBallot cProposers_bestBallot 2 (Option.some .int) :: WL
abbrev cDecreePool_heard : ByteArray := prog_1_method_13_code
abbrev yDecreePool_heard : MethodName := ⟨"DecreePool", "heard", "(III)I"⟩
def wsDecreePool_heard : List Cond := .code yDecreePool_heard cDecreePool_heard 4 (Option.some .int) :: WL
abbrev cDecreePool_message : ByteArray := prog_1_method_14_code
abbrev yDecreePool_message : MethodName := ⟨"DecreePool", "message", "(II)I"⟩
def wsDecreePool_message : List Cond := .code yDecreePool_message cDecreePool_message 3 (Option.some .int) :: WL
abbrev cDecreePool_chosen : ByteArray := prog_1_method_15_code
abbrev yDecreePool_chosen : MethodName := ⟨"DecreePool", "chosen", "(I)I"⟩
def wsDecreePool_chosen : List Cond := .code yDecreePool_chosen cDecreePool_chosen 2 (Option.some .int) :: WL
abbrev cAcceptors_majorityValue : ByteArray := prog_2_method_8_code
abbrev yAcceptors_majorityValue : MethodName := ⟨"DecreePool$Acceptors", "majorityValue", "(I)I"⟩
def wsAcceptors_majorityValue : List Cond := .code yAcceptors_majorityValue cAcceptors_majorityValue 4 (Option.some .int) :: WL
abbrev cAcceptors_acceptorsOf : ByteArray := prog_2_method_9_code
abbrev yAcceptors_acceptorsOf : MethodName := ⟨"DecreePool$Acceptors", "acceptorsOf", "(II)I"⟩
def wsAcceptors_acceptorsOf : List Cond := .code yAcceptors_acceptorsOf cAcceptors_acceptorsOf 5 (Option.some .int) :: WL
abbrev cDecreePool_pfx : ByteArray := prog_1_method_16_code
abbrev yDecreePool_pfx : MethodName := ⟨"DecreePool", "prefix", "(I)I"⟩
def wsDecreePool_pfx : List Cond := .code yDecreePool_pfx cDecreePool_pfx 2 (Option.some .int) :: WL
abbrev cDecreePool_prefixLength : ByteArray := prog_1_method_26_code
abbrev yDecreePool_prefixLength : MethodName := ⟨"DecreePool", "prefixLength", "(I)I"⟩
def wsDecreePool_prefixLength : List Cond := .code yDecreePool_prefixLength cDecreePool_prefixLength 3 (Option.some .int) :: WL
abbrev cDecreePool_applied : ByteArray := prog_1_method_17_code
abbrev yDecreePool_applied : MethodName := ⟨"DecreePool", "applied", "(I)J"⟩
def wsDecreePool_applied : List Cond := .code yDecreePool_applied cDecreePool_applied 7 (Option.some .long) :: WL
abbrev cDecreePool_count : ByteArray := prog_1_method_18_code
abbrev yDecreePool_count : MethodName := ⟨"DecreePool", "count", "(I)I"⟩
def wsDecreePool_count : List Cond := .code yDecreePool_count cDecreePool_count 2 (Option.some .int) :: WL
abbrev cPool_messages : ByteArray := prog_4_method_3_code
abbrev yPool_messages : MethodName := ⟨"DecreePool$Pool", "messages", "()I"⟩
def wsPool_messages : List Cond := .code yPool_messages cPool_messages 1 (Option.some .int) :: WL
abbrev cLaw_cell : ByteArray := method_2_code
abbrev yLaw_cell : MethodName := ⟨"DecreePoolLaw", "cell", "([II)I"⟩
def wsLaw_cell : List Cond := .code yLaw_cell cLaw_cell 2 (Option.some .int) :: WL
abbrev cModel_init : ByteArray := prog_7_method_1_code
abbrev yModel_init : MethodName := ⟨"DecreePoolModel", "<init>", "(III)V"⟩
def wsModel_init : List Cond := .code yModel_init cModel_init 5 (Option.none : Option ClassFile.FieldType) :: WL
abbrev cModel_prepare : ByteArray := prog_7_method_9_code
abbrev yModel_prepare : MethodName := ⟨"DecreePoolModel", "prepare", "(IIII)I"⟩
def wsModel_prepare : List Cond := .code yModel_prepare cModel_prepare 7 (Option.some .int) :: WL
abbrev cModel_isNode : ByteArray := prog_7_method_2_code
abbrev yModel_isNode : MethodName := ⟨"DecreePoolModel", "isNode", "(I)Z"⟩
def wsModel_isNode : List Cond := .code yModel_isNode cModel_isNode 2 (Option.some .boolean) :: WL
abbrev cModel_isSlot : ByteArray := prog_7_method_3_code
abbrev yModel_isSlot : MethodName := ⟨"DecreePoolModel", "isSlot", "(I)Z"⟩
def wsModel_isSlot : List Cond := .code yModel_isSlot cModel_isSlot 2 (Option.some .boolean) :: WL
abbrev cModel_empty : ByteArray := prog_7_method_6_code
abbrev yModel_empty : MethodName := ⟨"DecreePoolModel", "empty", "()I"⟩
def wsModel_empty : List Cond := .code yModel_empty cModel_empty 3 (Option.some .int) :: WL
abbrev cModel_sendAll : ByteArray := prog_7_method_8_code
abbrev yModel_sendAll : MethodName := ⟨"DecreePoolModel", "sendAll", "(IIIII)V"⟩
def wsModel_sendAll : List Cond := .code yModel_sendAll cModel_sendAll 8 (Option.none : Option ClassFile.FieldType) :: WL
abbrev cModel_send : ByteArray := prog_7_method_7_code
abbrev yModel_send : MethodName := ⟨"DecreePoolModel", "send", "(IIIIIII)I"⟩
def wsModel_send : List Cond := .code yModel_send cModel_send 9 (Option.some .int) :: WL
abbrev cModel_deliver : ByteArray := prog_7_method_18_code
abbrev yModel_deliver : MethodName := ⟨"DecreePoolModel", "deliver", "(I)I"⟩
def wsModel_deliver : List Cond := .code yModel_deliver cModel_deliver 4 (Option.some .int) :: WL
abbrev cModel_isMessage : ByteArray := prog_7_method_4_code
abbrev yModel_isMessage : MethodName := ⟨"DecreePoolModel", "isMessage", "(I)Z"⟩
def wsModel_isMessage : List Cond := .code yModel_isMessage cModel_isMessage 2 (Option.some .boolean) :: WL
abbrev cModel_sends : ByteArray := prog_7_method_13_code
abbrev yModel_sends : MethodName := ⟨"DecreePoolModel", "sends", "(I)I"⟩
def wsModel_sends : List Cond := .code yModel_sends cModel_sends 3 (Option.some .int) :: WL
abbrev cModel_isAwaited : ByteArray := prog_7_method_11_code
abbrev yModel_isAwaited : MethodName := ⟨"DecreePoolModel", "isAwaited", "(I)Z"⟩
def wsModel_isAwaited : List Cond := .code yModel_isAwaited cModel_isAwaited 3 (Option.some .boolean) :: WL
abbrev cModel_withPromise : ByteArray := prog_7_method_12_code
abbrev yModel_withPromise : MethodName := ⟨"DecreePoolModel", "withPromise", "(I)I"⟩
def wsModel_withPromise : List Cond := .code yModel_withPromise cModel_withPromise 2 (Option.some .int) :: WL
abbrev cModel_bits : ByteArray := prog_7_method_10_code
abbrev yModel_bits : MethodName := ⟨"DecreePoolModel", "bits", "(I)I"⟩
def wsModel_bits : List Cond := .code yModel_bits cModel_bits 3 (Option.some .int) :: WL
abbrev cModel_isMajority : ByteArray := prog_7_method_5_code
abbrev yModel_isMajority : MethodName := ⟨"DecreePoolModel", "isMajority", "(I)Z"⟩
def wsModel_isMajority : List Cond := .code yModel_isMajority cModel_isMajority 2 (Option.some .boolean) :: WL
abbrev cModel_take : ByteArray := prog_7_method_17_code
abbrev yModel_take : MethodName := ⟨"DecreePoolModel", "take", "(II)V"⟩
def wsModel_take : List Cond := .code yModel_take cModel_take 9 (Option.none : Option ClassFile.FieldType) :: WL
abbrev cModel_promise : ByteArray := prog_7_method_14_code
abbrev yModel_promise : MethodName := ⟨"DecreePoolModel", "promise", "(I)V"⟩
def wsModel_promise : List Cond := .code yModel_promise cModel_promise 3 (Option.none : Option ClassFile.FieldType) :: WL
abbrev cModel_hear : ByteArray := prog_7_method_15_code
abbrev yModel_hear : MethodName := ⟨"DecreePoolModel", "hear", "(I)V"⟩
def wsModel_hear : List Cond := .code yModel_hear cModel_hear 6 (Option.none : Option ClassFile.FieldType) :: WL
abbrev cModel_learn : ByteArray := prog_7_method_16_code
abbrev yModel_learn : MethodName := ⟨"DecreePoolModel", "learn", "(III)V"⟩
def wsModel_learn : List Cond := .code yModel_learn cModel_learn 5 (Option.none : Option ClassFile.FieldType) :: WL
abbrev cModel_sweep : ByteArray := prog_7_method_19_code
abbrev yModel_sweep : MethodName := ⟨"DecreePoolModel", "sweep", "(I)I"⟩
def wsModel_sweep : List Cond := .code yModel_sweep cModel_sweep 4 (Option.some .int) :: WL
abbrev cModel_drop : ByteArray := prog_7_method_20_code
abbrev yModel_drop : MethodName := ⟨"DecreePoolModel", "drop", "(I)I"⟩
def wsModel_drop : List Cond := .code yModel_drop cModel_drop 3 (Option.some .int) :: WL
abbrev cModel_duplicate : ByteArray := prog_7_method_21_code
abbrev yModel_duplicate : MethodName := ⟨"DecreePoolModel", "duplicate", "(I)I"⟩
def wsModel_duplicate : List Cond := .code yModel_duplicate cModel_duplicate 2 (Option.some .int) :: WL
abbrev cModel_crash : ByteArray := prog_7_method_23_code
abbrev yModel_crash : MethodName := ⟨"DecreePoolModel", "crash", "(I)I"⟩
def wsModel_crash : List Cond := .code yModel_crash cModel_crash 2 (Option.some .int) :: WL
abbrev cModel_up : ByteArray := prog_7_method_22_code
abbrev yModel_up : MethodName := ⟨"DecreePoolModel", "up", "()I"⟩
def wsModel_up : List Cond := .code yModel_up cModel_up 3 (Option.some .int) :: WL
abbrev cModel_restart : ByteArray := prog_7_method_24_code
abbrev yModel_restart : MethodName := ⟨"DecreePoolModel", "restart", "(I)I"⟩
def wsModel_restart : List Cond := .code yModel_restart cModel_restart 4 (Option.some .int) :: WL
abbrev cModel_tell : ByteArray := prog_7_method_25_code
abbrev yModel_tell : MethodName := ⟨"DecreePoolModel", "tell", "(II)I"⟩
def wsModel_tell : List Cond := .code yModel_tell cModel_tell 3 (Option.some .int) :: WL
abbrev cModel_learned : ByteArray := prog_7_method_26_code
abbrev yModel_learned : MethodName := ⟨"DecreePoolModel", "learned", "(II)I"⟩
def wsModel_learned : List Cond := .code yModel_learned cModel_learned 3 (Option.some .int) :: WL
abbrev cModel_acceptor : ByteArray := prog_7_method_27_code
abbrev yModel_acceptor : MethodName := ⟨"DecreePoolModel", "acceptor", "(III)I"⟩
def wsModel_acceptor : List Cond := .code yModel_acceptor cModel_acceptor 5 (Option.some .int) :: WL
abbrev cModel_proposer : ByteArray := prog_7_method_28_code
abbrev yModel_proposer : MethodName := ⟨"DecreePoolModel", "proposer", "(III)I"⟩
def wsModel_proposer : List Cond := .code yModel_proposer cModel_proposer 6 (Option.some .int) :: WL
abbrev cModel_heard : ByteArray := prog_7_method_29_code
abbrev yModel_heard : MethodName := ⟨"DecreePoolModel", "heard", "(III)I"⟩
def wsModel_heard : List Cond := .code yModel_heard cModel_heard 4 (Option.some .int) :: WL
abbrev cModel_message : ByteArray := prog_7_method_30_code
abbrev yModel_message : MethodName := ⟨"DecreePoolModel", "message", "(II)I"⟩
def wsModel_message : List Cond := .code yModel_message cModel_message 3 (Option.some .int) :: WL
abbrev cModel_chosen : ByteArray := prog_7_method_31_code
abbrev yModel_chosen : MethodName := ⟨"DecreePoolModel", "chosen", "(I)I"⟩
def wsModel_chosen : List Cond := .code yModel_chosen cModel_chosen 6 (Option.some .int) :: WL
abbrev cModel_pfx : ByteArray := prog_7_method_32_code
abbrev yModel_pfx : MethodName := ⟨"DecreePoolModel", "prefix", "(I)I"⟩
def wsModel_pfx : List Cond := .code yModel_pfx cModel_pfx 3 (Option.some .int) :: WL
abbrev cModel_applied : ByteArray := prog_7_method_33_code
abbrev yModel_applied : MethodName := ⟨"DecreePoolModel", "applied", "(I)J"⟩
def wsModel_applied : List Cond := .code yModel_applied cModel_applied 7 (Option.some .long) :: WL
abbrev cModel_count : ByteArray := prog_7_method_34_code
abbrev yModel_count : MethodName := ⟨"DecreePoolModel", "count", "(I)I"⟩
def wsModel_count : List Cond := .code yModel_count cModel_count 4 (Option.some .int) :: WL
