theorem wd0 : Cond.initialized "DecreePoolLaw" ∈ WL := WL_t 0 (by decide +kernel) rfl
theorem wd1 : Cond.initialized "DecreePool" ∈ WL := WL_t 1 (by decide +kernel) rfl
theorem wd2 : Cond.initialized "DecreePool$Pool" ∈ WL := WL_t 2 (by decide +kernel) rfl
theorem wd3 : Cond.initialized "DecreePool$Proposers" ∈ WL := WL_t 3 (by decide +kernel) rfl
theorem wd4 : Cond.initialized "java/util/Arrays" ∈ WL := WL_t 4 (by decide +kernel) rfl
theorem wd5 : Cond.initialized "DecreePool$Acceptors" ∈ WL := WL_t 5 (by decide +kernel) rfl
theorem wd6 : Cond.initialized "DecreePool$Learners" ∈ WL := WL_t 6 (by decide +kernel) rfl
theorem wd7 : Cond.initialized "DecreePoolModel" ∈ WL := WL_t 7 (by decide +kernel) rfl
theorem wd8 : Cond.initialized "java/lang/Integer" ∈ WL := WL_t 8 (by decide +kernel) rfl
theorem wd9 : Cond.classLink "DecreePoolLaw" 7 "DecreePool" ∈ WL := WL_t 9 (by decide +kernel) rfl
theorem wd10 : Cond.instantiable "DecreePool" 9 ∈ WL := WL_t 10 (by decide +kernel) rfl
theorem wd11 : Cond.methodLink "DecreePoolLaw" 15 ⟨"DecreePool", "<init>", "(III)V"⟩ ∈ WL := WL_t 11 (by decide +kernel) rfl
theorem wd12 : Cond.instanceMethod ⟨"DecreePool", "<init>", "(III)V"⟩ ∈ WL := WL_t 12 (by decide +kernel) rfl
theorem wd13 : Cond.code ⟨"DecreePool", "<init>", "(III)V"⟩ prog_1_method_1_code 4 (Option.none : Option ClassFile.FieldType) ∈ WL := WL_t 13 (by decide +kernel) rfl
theorem wd14 : Cond.methodLink "DecreePool" 1 ⟨"java/lang/Object", "<init>", "()V"⟩ ∈ WL := WL_t 14 (by decide +kernel) rfl
theorem wd15 : Cond.instanceMethod ⟨"java/lang/Object", "<init>", "()V"⟩ ∈ WL := WL_t 15 (by decide +kernel) rfl
theorem wd16 : Cond.code ⟨"java/lang/Object", "<init>", "()V"⟩ object_method_1_code 1 (Option.none : Option ClassFile.FieldType) ∈ WL := WL_t 16 (by decide +kernel) rfl
theorem wd17 : Cond.methodLink "DecreePool" 7 ⟨"DecreePool", "isWithin", "(III)Z"⟩ ∈ WL := WL_t 17 (by decide +kernel) rfl
theorem wd18 : Cond.static ⟨"DecreePool", "isWithin", "(III)Z"⟩ ∈ WL := WL_t 18 (by decide +kernel) rfl
theorem wd19 : Cond.code ⟨"DecreePool", "isWithin", "(III)Z"⟩ prog_1_method_19_code 3 (Option.some .boolean) ∈ WL := WL_t 19 (by decide +kernel) rfl
theorem wd20 : Cond.classLink "DecreePool" 20 "DecreePool$Pool" ∈ WL := WL_t 20 (by decide +kernel) rfl
theorem wd21 : Cond.instantiable "DecreePool$Pool" 3 ∈ WL := WL_t 21 (by decide +kernel) rfl
theorem wd22 : Cond.methodLink "DecreePool" 22 ⟨"DecreePool$Pool", "<init>", "(I)V"⟩ ∈ WL := WL_t 22 (by decide +kernel) rfl
theorem wd23 : Cond.instanceMethod ⟨"DecreePool$Pool", "<init>", "(I)V"⟩ ∈ WL := WL_t 23 (by decide +kernel) rfl
theorem wd24 : Cond.code ⟨"DecreePool$Pool", "<init>", "(I)V"⟩ prog_4_method_1_code 2 (Option.none : Option ClassFile.FieldType) ∈ WL := WL_t 24 (by decide +kernel) rfl
theorem wd25 : Cond.methodLink "DecreePool$Pool" 3 ⟨"java/lang/Object", "<init>", "()V"⟩ ∈ WL := WL_t 25 (by decide +kernel) rfl
theorem wd26 : Cond.fieldLink "DecreePool$Pool" 9 "DecreePool$Pool" "places" "I" ∈ WL := WL_t 26 (by decide +kernel) rfl
theorem wd27 : Cond.fieldLink "DecreePool$Pool" 15 "DecreePool$Pool" "rows" "[I" ∈ WL := WL_t 27 (by decide +kernel) rfl
theorem wd28 : Cond.fieldLink "DecreePool$Pool" 19 "DecreePool$Pool" "messages" "I" ∈ WL := WL_t 28 (by decide +kernel) rfl
theorem wd29 : Cond.laysFinal "DecreePool$Pool" "DecreePool$Pool" "places" "I" ∈ WL := WL_t 29 (by decide +kernel) rfl
theorem wd31 : Cond.laysFinal "DecreePool$Pool" "DecreePool$Pool" "rows" "[I" ∈ WL := WL_t 31 (by decide +kernel) rfl
theorem wd33 : Cond.lays "DecreePool$Pool" "DecreePool$Pool" "messages" "I" ∈ WL := WL_t 33 (by decide +kernel) rfl
theorem wd36 : Cond.arrayClass .int ∈ WL := WL_t 36 (by decide +kernel) rfl
theorem wd37 : Cond.classLink "DecreePool" 29 "DecreePool$Proposers" ∈ WL := WL_t 37 (by decide +kernel) rfl
theorem wd38 : Cond.instantiable "DecreePool$Proposers" 6 ∈ WL := WL_t 38 (by decide +kernel) rfl
theorem wd39 : Cond.methodLink "DecreePool" 31 ⟨"DecreePool$Proposers", "<init>", "(II)V"⟩ ∈ WL := WL_t 39 (by decide +kernel) rfl
theorem wd40 : Cond.instanceMethod ⟨"DecreePool$Proposers", "<init>", "(II)V"⟩ ∈ WL := WL_t 40 (by decide +kernel) rfl
theorem wd41 : Cond.code ⟨"DecreePool$Proposers", "<init>", "(II)V"⟩ prog_5_method_1_code 4 (Option.none : Option ClassFile.FieldType) ∈ WL := WL_t 41 (by decide +kernel) rfl
theorem wd42 : Cond.methodLink "DecreePool$Proposers" 3 ⟨"java/lang/Object", "<init>", "()V"⟩ ∈ WL := WL_t 42 (by decide +kernel) rfl
theorem wd43 : Cond.methodLink "DecreePool$Proposers" 31 ⟨"java/util/Arrays", "fill", "([II)V"⟩ ∈ WL := WL_t 43 (by decide +kernel) rfl
theorem wd44 : Cond.static ⟨"java/util/Arrays", "fill", "([II)V"⟩ ∈ WL := WL_t 44 (by decide +kernel) rfl
theorem wd45 : Cond.code ⟨"java/util/Arrays", "fill", "([II)V"⟩ prog_9_method_103_code 4 (Option.none : Option ClassFile.FieldType) ∈ WL := WL_t 45 (by decide +kernel) rfl
theorem wd46 : Cond.fieldLink "DecreePool$Proposers" 9 "DecreePool$Proposers" "nodes" "I" ∈ WL := WL_t 46 (by decide +kernel) rfl
theorem wd47 : Cond.fieldLink "DecreePool$Proposers" 15 "DecreePool$Proposers" "phase" "[I" ∈ WL := WL_t 47 (by decide +kernel) rfl
theorem wd48 : Cond.fieldLink "DecreePool$Proposers" 19 "DecreePool$Proposers" "lastBallot" "[I" ∈ WL := WL_t 48 (by decide +kernel) rfl
theorem wd49 : Cond.fieldLink "DecreePool$Proposers" 22 "DecreePool$Proposers" "promisedBits" "[I" ∈ WL := WL_t 49 (by decide +kernel) rfl
theorem wd50 : Cond.fieldLink "DecreePool$Proposers" 25 "DecreePool$Proposers" "bestBallot" "[I" ∈ WL := WL_t 50 (by decide +kernel) rfl
theorem wd51 : Cond.fieldLink "DecreePool$Proposers" 28 "DecreePool$Proposers" "value" "[I" ∈ WL := WL_t 51 (by decide +kernel) rfl
theorem wd52 : Cond.laysFinal "DecreePool$Proposers" "DecreePool$Proposers" "nodes" "I" ∈ WL := WL_t 52 (by decide +kernel) rfl
theorem wd54 : Cond.laysFinal "DecreePool$Proposers" "DecreePool$Proposers" "phase" "[I" ∈ WL := WL_t 54 (by decide +kernel) rfl
theorem wd56 : Cond.laysFinal "DecreePool$Proposers" "DecreePool$Proposers" "lastBallot" "[I" ∈ WL := WL_t 56 (by decide +kernel) rfl
theorem wd58 : Cond.laysFinal "DecreePool$Proposers" "DecreePool$Proposers" "promisedBits" "[I" ∈ WL := WL_t 58 (by decide +kernel) rfl
theorem wd60 : Cond.laysFinal "DecreePool$Proposers" "DecreePool$Proposers" "bestBallot" "[I" ∈ WL := WL_t 60 (by decide +kernel) rfl
theorem wd62 : Cond.laysFinal "DecreePool$Proposers" "DecreePool$Proposers" "value" "[I" ∈ WL := WL_t 62 (by decide +kernel) rfl
theorem wd65 : Cond.classLink "DecreePool" 38 "DecreePool$Acceptors" ∈ WL := WL_t 65 (by decide +kernel) rfl
theorem wd66 : Cond.instantiable "DecreePool$Acceptors" 5 ∈ WL := WL_t 66 (by decide +kernel) rfl
theorem wd67 : Cond.methodLink "DecreePool" 40 ⟨"DecreePool$Acceptors", "<init>", "(II)V"⟩ ∈ WL := WL_t 67 (by decide +kernel) rfl
theorem wd68 : Cond.instanceMethod ⟨"DecreePool$Acceptors", "<init>", "(II)V"⟩ ∈ WL := WL_t 68 (by decide +kernel) rfl
theorem wd69 : Cond.code ⟨"DecreePool$Acceptors", "<init>", "(II)V"⟩ prog_2_method_1_code 4 (Option.none : Option ClassFile.FieldType) ∈ WL := WL_t 69 (by decide +kernel) rfl
theorem wd70 : Cond.methodLink "DecreePool$Acceptors" 3 ⟨"java/lang/Object", "<init>", "()V"⟩ ∈ WL := WL_t 70 (by decide +kernel) rfl
theorem wd71 : Cond.methodLink "DecreePool$Acceptors" 28 ⟨"java/util/Arrays", "fill", "([II)V"⟩ ∈ WL := WL_t 71 (by decide +kernel) rfl
theorem wd72 : Cond.fieldLink "DecreePool$Acceptors" 9 "DecreePool$Acceptors" "nodes" "I" ∈ WL := WL_t 72 (by decide +kernel) rfl
theorem wd73 : Cond.fieldLink "DecreePool$Acceptors" 15 "DecreePool$Acceptors" "slots" "I" ∈ WL := WL_t 73 (by decide +kernel) rfl
theorem wd74 : Cond.fieldLink "DecreePool$Acceptors" 18 "DecreePool$Acceptors" "promisedBallot" "[I" ∈ WL := WL_t 74 (by decide +kernel) rfl
theorem wd75 : Cond.fieldLink "DecreePool$Acceptors" 22 "DecreePool$Acceptors" "acceptedBallot" "[I" ∈ WL := WL_t 75 (by decide +kernel) rfl
theorem wd76 : Cond.fieldLink "DecreePool$Acceptors" 25 "DecreePool$Acceptors" "acceptedValue" "[I" ∈ WL := WL_t 76 (by decide +kernel) rfl
theorem wd77 : Cond.laysFinal "DecreePool$Acceptors" "DecreePool$Acceptors" "nodes" "I" ∈ WL := WL_t 77 (by decide +kernel) rfl
theorem wd79 : Cond.laysFinal "DecreePool$Acceptors" "DecreePool$Acceptors" "slots" "I" ∈ WL := WL_t 79 (by decide +kernel) rfl
theorem wd81 : Cond.laysFinal "DecreePool$Acceptors" "DecreePool$Acceptors" "promisedBallot" "[I" ∈ WL := WL_t 81 (by decide +kernel) rfl
theorem wd83 : Cond.laysFinal "DecreePool$Acceptors" "DecreePool$Acceptors" "acceptedBallot" "[I" ∈ WL := WL_t 83 (by decide +kernel) rfl
theorem wd85 : Cond.laysFinal "DecreePool$Acceptors" "DecreePool$Acceptors" "acceptedValue" "[I" ∈ WL := WL_t 85 (by decide +kernel) rfl
theorem wd88 : Cond.classLink "DecreePool" 45 "DecreePool$Learners" ∈ WL := WL_t 88 (by decide +kernel) rfl
theorem wd89 : Cond.instantiable "DecreePool$Learners" 3 ∈ WL := WL_t 89 (by decide +kernel) rfl
theorem wd90 : Cond.methodLink "DecreePool" 47 ⟨"DecreePool$Learners", "<init>", "(II)V"⟩ ∈ WL := WL_t 90 (by decide +kernel) rfl
theorem wd91 : Cond.instanceMethod ⟨"DecreePool$Learners", "<init>", "(II)V"⟩ ∈ WL := WL_t 91 (by decide +kernel) rfl
theorem wd92 : Cond.code ⟨"DecreePool$Learners", "<init>", "(II)V"⟩ prog_3_method_1_code 4 (Option.none : Option ClassFile.FieldType) ∈ WL := WL_t 92 (by decide +kernel) rfl
theorem wd93 : Cond.methodLink "DecreePool$Learners" 3 ⟨"java/lang/Object", "<init>", "()V"⟩ ∈ WL := WL_t 93 (by decide +kernel) rfl
theorem wd94 : Cond.methodLink "DecreePool$Learners" 22 ⟨"java/util/Arrays", "fill", "([II)V"⟩ ∈ WL := WL_t 94 (by decide +kernel) rfl
theorem wd95 : Cond.fieldLink "DecreePool$Learners" 9 "DecreePool$Learners" "nodes" "I" ∈ WL := WL_t 95 (by decide +kernel) rfl
theorem wd96 : Cond.fieldLink "DecreePool$Learners" 15 "DecreePool$Learners" "heardBallot" "[I" ∈ WL := WL_t 96 (by decide +kernel) rfl
theorem wd97 : Cond.fieldLink "DecreePool$Learners" 19 "DecreePool$Learners" "decree" "[I" ∈ WL := WL_t 97 (by decide +kernel) rfl
theorem wd98 : Cond.laysFinal "DecreePool$Learners" "DecreePool$Learners" "nodes" "I" ∈ WL := WL_t 98 (by decide +kernel) rfl
theorem wd100 : Cond.laysFinal "DecreePool$Learners" "DecreePool$Learners" "heardBallot" "[I" ∈ WL := WL_t 100 (by decide +kernel) rfl
theorem wd102 : Cond.laysFinal "DecreePool$Learners" "DecreePool$Learners" "decree" "[I" ∈ WL := WL_t 102 (by decide +kernel) rfl
theorem wd105 : Cond.fieldLink "DecreePool" 13 "DecreePool" "nodes" "I" ∈ WL := WL_t 105 (by decide +kernel) rfl
theorem wd106 : Cond.fieldLink "DecreePool" 17 "DecreePool" "slots" "I" ∈ WL := WL_t 106 (by decide +kernel) rfl
theorem wd107 : Cond.fieldLink "DecreePool" 25 "DecreePool" "pool" "LDecreePool$Pool;" ∈ WL := WL_t 107 (by decide +kernel) rfl
theorem wd108 : Cond.fieldLink "DecreePool" 34 "DecreePool" "proposers" "LDecreePool$Proposers;" ∈ WL := WL_t 108 (by decide +kernel) rfl
theorem wd109 : Cond.fieldLink "DecreePool" 41 "DecreePool" "acceptors" "LDecreePool$Acceptors;" ∈ WL := WL_t 109 (by decide +kernel) rfl
theorem wd110 : Cond.fieldLink "DecreePool" 48 "DecreePool" "learners" "LDecreePool$Learners;" ∈ WL := WL_t 110 (by decide +kernel) rfl
theorem wd111 : Cond.fieldLink "DecreePool" 52 "DecreePool" "upBits" "I" ∈ WL := WL_t 111 (by decide +kernel) rfl
theorem wd112 : Cond.fieldLink "DecreePool" 55 "DecreePool" "deliveries" "I" ∈ WL := WL_t 112 (by decide +kernel) rfl
theorem wd113 : Cond.fieldLink "DecreePool" 58 "DecreePool" "lost" "I" ∈ WL := WL_t 113 (by decide +kernel) rfl
theorem wd114 : Cond.laysFinal "DecreePool" "DecreePool" "nodes" "I" ∈ WL := WL_t 114 (by decide +kernel) rfl
theorem wd116 : Cond.laysFinal "DecreePool" "DecreePool" "slots" "I" ∈ WL := WL_t 116 (by decide +kernel) rfl
theorem wd118 : Cond.laysFinal "DecreePool" "DecreePool" "pool" "LDecreePool$Pool;" ∈ WL := WL_t 118 (by decide +kernel) rfl
theorem wd120 : Cond.laysFinal "DecreePool" "DecreePool" "proposers" "LDecreePool$Proposers;" ∈ WL := WL_t 120 (by decide +kernel) rfl
theorem wd122 : Cond.laysFinal "DecreePool" "DecreePool" "acceptors" "LDecreePool$Acceptors;" ∈ WL := WL_t 122 (by decide +kernel) rfl
theorem wd124 : Cond.laysFinal "DecreePool" "DecreePool" "learners" "LDecreePool$Learners;" ∈ WL := WL_t 124 (by decide +kernel) rfl
theorem wd126 : Cond.lays "DecreePool" "DecreePool" "upBits" "I" ∈ WL := WL_t 126 (by decide +kernel) rfl
theorem wd128 : Cond.lays "DecreePool" "DecreePool" "deliveries" "I" ∈ WL := WL_t 128 (by decide +kernel) rfl
theorem wd130 : Cond.lays "DecreePool" "DecreePool" "lost" "I" ∈ WL := WL_t 130 (by decide +kernel) rfl
theorem wd133 : Cond.methodLink "DecreePoolLaw" 21 ⟨"DecreePool", "prepare", "(IIII)I"⟩ ∈ WL := WL_t 133 (by decide +kernel) rfl
theorem wd134 : Cond.instanceMethod ⟨"DecreePool", "prepare", "(IIII)I"⟩ ∈ WL := WL_t 134 (by decide +kernel) rfl
theorem wd135 : Cond.selects "DecreePool" ⟨"DecreePool", "prepare", "(IIII)I"⟩ ⟨"DecreePool", "prepare", "(IIII)I"⟩ ∈ WL := WL_t 135 (by decide +kernel) rfl
theorem wd136 : Cond.code ⟨"DecreePool", "prepare", "(IIII)I"⟩ prog_1_method_2_code 7 (Option.some .int) ∈ WL := WL_t 136 (by decide +kernel) rfl
theorem wd137 : Cond.methodLink "DecreePool" 61 ⟨"DecreePool", "hasSeat", "(II)Z"⟩ ∈ WL := WL_t 137 (by decide +kernel) rfl
theorem wd139 : Cond.instanceMethod ⟨"DecreePool", "hasSeat", "(II)Z"⟩ ∈ WL := WL_t 139 (by decide +kernel) rfl
theorem wd140 : Cond.code ⟨"DecreePool", "hasSeat", "(II)Z"⟩ prog_1_method_23_code 3 (Option.some .boolean) ∈ WL := WL_t 140 (by decide +kernel) rfl
theorem wd141 : Cond.methodLink "DecreePool" 110 ⟨"DecreePool", "hasNode", "(I)Z"⟩ ∈ WL := WL_t 141 (by decide +kernel) rfl
theorem wd143 : Cond.instanceMethod ⟨"DecreePool", "hasNode", "(I)Z"⟩ ∈ WL := WL_t 143 (by decide +kernel) rfl
theorem wd144 : Cond.code ⟨"DecreePool", "hasNode", "(I)Z"⟩ prog_1_method_21_code 2 (Option.some .boolean) ∈ WL := WL_t 144 (by decide +kernel) rfl
theorem wd145 : Cond.methodLink "DecreePool" 149 ⟨"DecreePool", "hasSlot", "(I)Z"⟩ ∈ WL := WL_t 145 (by decide +kernel) rfl
theorem wd147 : Cond.instanceMethod ⟨"DecreePool", "hasSlot", "(I)Z"⟩ ∈ WL := WL_t 147 (by decide +kernel) rfl
theorem wd148 : Cond.code ⟨"DecreePool", "hasSlot", "(I)Z"⟩ prog_1_method_22_code 2 (Option.some .boolean) ∈ WL := WL_t 148 (by decide +kernel) rfl
theorem wd149 : Cond.methodLink "DecreePool" 65 ⟨"DecreePool", "isUp", "(I)Z"⟩ ∈ WL := WL_t 149 (by decide +kernel) rfl
theorem wd151 : Cond.instanceMethod ⟨"DecreePool", "isUp", "(I)Z"⟩ ∈ WL := WL_t 151 (by decide +kernel) rfl
theorem wd152 : Cond.code ⟨"DecreePool", "isUp", "(I)Z"⟩ prog_1_method_25_code 2 (Option.some .boolean) ∈ WL := WL_t 152 (by decide +kernel) rfl
theorem wd153 : Cond.methodLink "DecreePool" 69 ⟨"DecreePool", "seatOf", "(II)I"⟩ ∈ WL := WL_t 153 (by decide +kernel) rfl
theorem wd155 : Cond.instanceMethod ⟨"DecreePool", "seatOf", "(II)I"⟩ ∈ WL := WL_t 155 (by decide +kernel) rfl
theorem wd156 : Cond.code ⟨"DecreePool", "seatOf", "(II)I"⟩ prog_1_method_24_code 3 (Option.some .int) ∈ WL := WL_t 156 (by decide +kernel) rfl
theorem wd157 : Cond.methodLink "DecreePool" 73 ⟨"DecreePool$Proposers", "lastBallot", "(I)I"⟩ ∈ WL := WL_t 157 (by decide +kernel) rfl
theorem wd158 : Cond.instanceMethod ⟨"DecreePool$Proposers", "lastBallot", "(I)I"⟩ ∈ WL := WL_t 158 (by decide +kernel) rfl
theorem wd159 : Cond.selects "DecreePool$Proposers" ⟨"DecreePool$Proposers", "lastBallot", "(I)I"⟩ ⟨"DecreePool$Proposers", "lastBallot", "(I)I"⟩ ∈ WL := WL_t 159 (by decide +kernel) rfl
theorem wd160 : Cond.code ⟨"DecreePool$Proposers", "lastBallot", "(I)I"⟩ prog_5_method_3_code 2 (Option.some .int) ∈ WL := WL_t 160 (by decide +kernel) rfl
theorem wd161 : Cond.methodLink "DecreePool" 77 ⟨"DecreePool$Pool", "emptyPlaces", "()I"⟩ ∈ WL := WL_t 161 (by decide +kernel) rfl
theorem wd162 : Cond.instanceMethod ⟨"DecreePool$Pool", "emptyPlaces", "()I"⟩ ∈ WL := WL_t 162 (by decide +kernel) rfl
theorem wd163 : Cond.selects "DecreePool$Pool" ⟨"DecreePool$Pool", "emptyPlaces", "()I"⟩ ⟨"DecreePool$Pool", "emptyPlaces", "()I"⟩ ∈ WL := WL_t 163 (by decide +kernel) rfl
theorem wd164 : Cond.code ⟨"DecreePool$Pool", "emptyPlaces", "()I"⟩ prog_4_method_4_code 1 (Option.some .int) ∈ WL := WL_t 164 (by decide +kernel) rfl
theorem wd165 : Cond.methodLink "DecreePool" 81 ⟨"DecreePool$Proposers", "begin", "(III)V"⟩ ∈ WL := WL_t 165 (by decide +kernel) rfl
theorem wd166 : Cond.instanceMethod ⟨"DecreePool$Proposers", "begin", "(III)V"⟩ ∈ WL := WL_t 166 (by decide +kernel) rfl
theorem wd167 : Cond.selects "DecreePool$Proposers" ⟨"DecreePool$Proposers", "begin", "(III)V"⟩ ⟨"DecreePool$Proposers", "begin", "(III)V"⟩ ∈ WL := WL_t 167 (by decide +kernel) rfl
theorem wd168 : Cond.code ⟨"DecreePool$Proposers", "begin", "(III)V"⟩ prog_5_method_7_code 4 (Option.none : Option ClassFile.FieldType) ∈ WL := WL_t 168 (by decide +kernel) rfl
theorem wd169 : Cond.methodLink "DecreePool" 85 ⟨"DecreePool", "sendToAll", "(IIIII)V"⟩ ∈ WL := WL_t 169 (by decide +kernel) rfl
theorem wd171 : Cond.instanceMethod ⟨"DecreePool", "sendToAll", "(IIIII)V"⟩ ∈ WL := WL_t 171 (by decide +kernel) rfl
theorem wd172 : Cond.code ⟨"DecreePool", "sendToAll", "(IIIII)V"⟩ prog_1_method_27_code 7 (Option.none : Option ClassFile.FieldType) ∈ WL := WL_t 172 (by decide +kernel) rfl
theorem wd173 : Cond.methodLink "DecreePool" 164 ⟨"DecreePool$Pool", "send", "(IIIIIII)I"⟩ ∈ WL := WL_t 173 (by decide +kernel) rfl
theorem wd174 : Cond.instanceMethod ⟨"DecreePool$Pool", "send", "(IIIIIII)I"⟩ ∈ WL := WL_t 174 (by decide +kernel) rfl
theorem wd175 : Cond.selects "DecreePool$Pool" ⟨"DecreePool$Pool", "send", "(IIIIIII)I"⟩ ⟨"DecreePool$Pool", "send", "(IIIIIII)I"⟩ ∈ WL := WL_t 175 (by decide +kernel) rfl
theorem wd176 : Cond.code ⟨"DecreePool$Pool", "send", "(IIIIIII)I"⟩ prog_4_method_8_code 10 (Option.some .int) ∈ WL := WL_t 176 (by decide +kernel) rfl
theorem wd177 : Cond.methodLink "DecreePool$Pool" 30 ⟨"DecreePool$Pool", "leastEmpty", "()I"⟩ ∈ WL := WL_t 177 (by decide +kernel) rfl
theorem wd179 : Cond.instanceMethod ⟨"DecreePool$Pool", "leastEmpty", "()I"⟩ ∈ WL := WL_t 179 (by decide +kernel) rfl
theorem wd180 : Cond.code ⟨"DecreePool$Pool", "leastEmpty", "()I"⟩ prog_4_method_10_code 2 (Option.some .int) ∈ WL := WL_t 180 (by decide +kernel) rfl
theorem wd181 : Cond.methodLink "DecreePool$Pool" 26 ⟨"DecreePool$Pool", "field", "(II)I"⟩ ∈ WL := WL_t 181 (by decide +kernel) rfl
theorem wd182 : Cond.instanceMethod ⟨"DecreePool$Pool", "field", "(II)I"⟩ ∈ WL := WL_t 182 (by decide +kernel) rfl
theorem wd183 : Cond.selects "DecreePool$Pool" ⟨"DecreePool$Pool", "field", "(II)I"⟩ ⟨"DecreePool$Pool", "field", "(II)I"⟩ ∈ WL := WL_t 183 (by decide +kernel) rfl
theorem wd184 : Cond.code ⟨"DecreePool$Pool", "field", "(II)I"⟩ prog_4_method_6_code 3 (Option.some .int) ∈ WL := WL_t 184 (by decide +kernel) rfl
theorem wd185 : Cond.methodLink "DecreePoolLaw" 26 ⟨"DecreePool", "deliver", "(I)I"⟩ ∈ WL := WL_t 185 (by decide +kernel) rfl
theorem wd186 : Cond.instanceMethod ⟨"DecreePool", "deliver", "(I)I"⟩ ∈ WL := WL_t 186 (by decide +kernel) rfl
theorem wd187 : Cond.selects "DecreePool" ⟨"DecreePool", "deliver", "(I)I"⟩ ⟨"DecreePool", "deliver", "(I)I"⟩ ∈ WL := WL_t 187 (by decide +kernel) rfl
theorem wd188 : Cond.code ⟨"DecreePool", "deliver", "(I)I"⟩ prog_1_method_3_code 2 (Option.some .int) ∈ WL := WL_t 188 (by decide +kernel) rfl
theorem wd189 : Cond.methodLink "DecreePool" 89 ⟨"DecreePool$Pool", "holds", "(I)Z"⟩ ∈ WL := WL_t 189 (by decide +kernel) rfl
theorem wd190 : Cond.instanceMethod ⟨"DecreePool$Pool", "holds", "(I)Z"⟩ ∈ WL := WL_t 190 (by decide +kernel) rfl
theorem wd191 : Cond.selects "DecreePool$Pool" ⟨"DecreePool$Pool", "holds", "(I)Z"⟩ ⟨"DecreePool$Pool", "holds", "(I)Z"⟩ ∈ WL := WL_t 191 (by decide +kernel) rfl
theorem wd192 : Cond.code ⟨"DecreePool$Pool", "holds", "(I)Z"⟩ prog_4_method_5_code 2 (Option.some .boolean) ∈ WL := WL_t 192 (by decide +kernel) rfl
theorem wd194 : Cond.methodLink "DecreePool" 92 ⟨"DecreePool", "isDeliverable", "(I)Z"⟩ ∈ WL := WL_t 194 (by decide +kernel) rfl
theorem wd196 : Cond.instanceMethod ⟨"DecreePool", "isDeliverable", "(I)Z"⟩ ∈ WL := WL_t 196 (by decide +kernel) rfl
theorem wd197 : Cond.code ⟨"DecreePool", "isDeliverable", "(I)Z"⟩ prog_1_method_29_code 2 (Option.some .boolean) ∈ WL := WL_t 197 (by decide +kernel) rfl
theorem wd198 : Cond.methodLink "DecreePool" 168 ⟨"DecreePool", "isAnsweredToAll", "(I)Z"⟩ ∈ WL := WL_t 198 (by decide +kernel) rfl
theorem wd200 : Cond.instanceMethod ⟨"DecreePool", "isAnsweredToAll", "(I)Z"⟩ ∈ WL := WL_t 200 (by decide +kernel) rfl
theorem wd201 : Cond.code ⟨"DecreePool", "isAnsweredToAll", "(I)Z"⟩ prog_1_method_30_code 5 (Option.some .boolean) ∈ WL := WL_t 201 (by decide +kernel) rfl
theorem wd202 : Cond.methodLink "DecreePool" 101 ⟨"DecreePool$Pool", "field", "(II)I"⟩ ∈ WL := WL_t 202 (by decide +kernel) rfl
theorem wd203 : Cond.methodLink "DecreePool" 171 ⟨"DecreePool$Proposers", "wouldWin", "(III)Z"⟩ ∈ WL := WL_t 203 (by decide +kernel) rfl
theorem wd204 : Cond.instanceMethod ⟨"DecreePool$Proposers", "wouldWin", "(III)Z"⟩ ∈ WL := WL_t 204 (by decide +kernel) rfl
theorem wd205 : Cond.selects "DecreePool$Proposers" ⟨"DecreePool$Proposers", "wouldWin", "(III)Z"⟩ ⟨"DecreePool$Proposers", "wouldWin", "(III)Z"⟩ ∈ WL := WL_t 205 (by decide +kernel) rfl
theorem wd206 : Cond.code ⟨"DecreePool$Proposers", "wouldWin", "(III)Z"⟩ prog_5_method_9_code 4 (Option.some .boolean) ∈ WL := WL_t 206 (by decide +kernel) rfl
theorem wd207 : Cond.methodLink "DecreePool$Proposers" 43 ⟨"DecreePool$Proposers", "awaits", "(II)Z"⟩ ∈ WL := WL_t 207 (by decide +kernel) rfl
theorem wd209 : Cond.instanceMethod ⟨"DecreePool$Proposers", "awaits", "(II)Z"⟩ ∈ WL := WL_t 209 (by decide +kernel) rfl
theorem wd210 : Cond.code ⟨"DecreePool$Proposers", "awaits", "(II)Z"⟩ prog_5_method_11_code 3 (Option.some .boolean) ∈ WL := WL_t 210 (by decide +kernel) rfl
theorem wd211 : Cond.methodLink "DecreePool$Proposers" 37 ⟨"java/lang/Integer", "bitCount", "(I)I"⟩ ∈ WL := WL_t 211 (by decide +kernel) rfl
theorem wd212 : Cond.static ⟨"java/lang/Integer", "bitCount", "(I)I"⟩ ∈ WL := WL_t 212 (by decide +kernel) rfl
theorem wd213 : Cond.code ⟨"java/lang/Integer", "bitCount", "(I)I"⟩ prog_8_method_49_code 1 (Option.some .int) ∈ WL := WL_t 213 (by decide +kernel) rfl
theorem wd214 : Cond.constant "java/lang/Integer" 265 1431655765 ∈ WL := WL_t 214 (by decide +kernel) rfl
theorem wd215 : Cond.constant "java/lang/Integer" 266 858993459 ∈ WL := WL_t 215 (by decide +kernel) rfl
theorem wd216 : Cond.constant "java/lang/Integer" 267 252645135 ∈ WL := WL_t 216 (by decide +kernel) rfl
theorem wd218 : Cond.static ⟨"DecreePool", "isMajority", "(II)Z"⟩ ∈ WL := WL_t 218 (by decide +kernel) rfl
theorem wd219 : Cond.code ⟨"DecreePool", "isMajority", "(II)Z"⟩ prog_1_method_20_code 2 (Option.some .boolean) ∈ WL := WL_t 219 (by decide +kernel) rfl
theorem wd220 : Cond.methodLink "DecreePool" 174 ⟨"DecreePool$Acceptors", "wouldAccept", "(II)Z"⟩ ∈ WL := WL_t 220 (by decide +kernel) rfl
theorem wd221 : Cond.instanceMethod ⟨"DecreePool$Acceptors", "wouldAccept", "(II)Z"⟩ ∈ WL := WL_t 221 (by decide +kernel) rfl
theorem wd222 : Cond.selects "DecreePool$Acceptors" ⟨"DecreePool$Acceptors", "wouldAccept", "(II)Z"⟩ ⟨"DecreePool$Acceptors", "wouldAccept", "(II)Z"⟩ ∈ WL := WL_t 222 (by decide +kernel) rfl
theorem wd223 : Cond.code ⟨"DecreePool$Acceptors", "wouldAccept", "(II)Z"⟩ prog_2_method_6_code 3 (Option.some .boolean) ∈ WL := WL_t 223 (by decide +kernel) rfl
theorem wd224 : Cond.methodLink "DecreePool" 95 ⟨"DecreePool", "handOver", "(I)I"⟩ ∈ WL := WL_t 224 (by decide +kernel) rfl
theorem wd226 : Cond.instanceMethod ⟨"DecreePool", "handOver", "(I)I"⟩ ∈ WL := WL_t 226 (by decide +kernel) rfl
theorem wd227 : Cond.code ⟨"DecreePool", "handOver", "(I)I"⟩ prog_1_method_31_code 10 (Option.some .int) ∈ WL := WL_t 227 (by decide +kernel) rfl
theorem wd228 : Cond.methodLink "DecreePool" 104 ⟨"DecreePool$Pool", "takeOut", "(I)V"⟩ ∈ WL := WL_t 228 (by decide +kernel) rfl
theorem wd229 : Cond.instanceMethod ⟨"DecreePool$Pool", "takeOut", "(I)V"⟩ ∈ WL := WL_t 229 (by decide +kernel) rfl
theorem wd230 : Cond.selects "DecreePool$Pool" ⟨"DecreePool$Pool", "takeOut", "(I)V"⟩ ⟨"DecreePool$Pool", "takeOut", "(I)V"⟩ ∈ WL := WL_t 230 (by decide +kernel) rfl
theorem wd231 : Cond.code ⟨"DecreePool$Pool", "takeOut", "(I)V"⟩ prog_4_method_7_code 2 (Option.none : Option ClassFile.FieldType) ∈ WL := WL_t 231 (by decide +kernel) rfl
theorem wd232 : Cond.methodLink "DecreePool" 177 ⟨"DecreePool$Acceptors", "promise", "(II)Z"⟩ ∈ WL := WL_t 232 (by decide +kernel) rfl
theorem wd233 : Cond.instanceMethod ⟨"DecreePool$Acceptors", "promise", "(II)Z"⟩ ∈ WL := WL_t 233 (by decide +kernel) rfl
theorem wd234 : Cond.selects "DecreePool$Acceptors" ⟨"DecreePool$Acceptors", "promise", "(II)Z"⟩ ⟨"DecreePool$Acceptors", "promise", "(II)Z"⟩ ∈ WL := WL_t 234 (by decide +kernel) rfl
theorem wd235 : Cond.code ⟨"DecreePool$Acceptors", "promise", "(II)Z"⟩ prog_2_method_5_code 3 (Option.some .boolean) ∈ WL := WL_t 235 (by decide +kernel) rfl
theorem wd236 : Cond.methodLink "DecreePool" 131 ⟨"DecreePool$Acceptors", "acceptedValue", "(I)I"⟩ ∈ WL := WL_t 236 (by decide +kernel) rfl
theorem wd237 : Cond.instanceMethod ⟨"DecreePool$Acceptors", "acceptedValue", "(I)I"⟩ ∈ WL := WL_t 237 (by decide +kernel) rfl
theorem wd238 : Cond.selects "DecreePool$Acceptors" ⟨"DecreePool$Acceptors", "acceptedValue", "(I)I"⟩ ⟨"DecreePool$Acceptors", "acceptedValue", "(I)I"⟩ ∈ WL := WL_t 238 (by decide +kernel) rfl
theorem wd239 : Cond.code ⟨"DecreePool$Acceptors", "acceptedValue", "(I)I"⟩ prog_2_method_4_code 2 (Option.some .int) ∈ WL := WL_t 239 (by decide +kernel) rfl
theorem wd240 : Cond.methodLink "DecreePool" 128 ⟨"DecreePool$Acceptors", "acceptedBallot", "(I)I"⟩ ∈ WL := WL_t 240 (by decide +kernel) rfl
theorem wd241 : Cond.instanceMethod ⟨"DecreePool$Acceptors", "acceptedBallot", "(I)I"⟩ ∈ WL := WL_t 241 (by decide +kernel) rfl
theorem wd242 : Cond.selects "DecreePool$Acceptors" ⟨"DecreePool$Acceptors", "acceptedBallot", "(I)I"⟩ ⟨"DecreePool$Acceptors", "acceptedBallot", "(I)I"⟩ ∈ WL := WL_t 242 (by decide +kernel) rfl
theorem wd243 : Cond.code ⟨"DecreePool$Acceptors", "acceptedBallot", "(I)I"⟩ prog_2_method_3_code 2 (Option.some .int) ∈ WL := WL_t 243 (by decide +kernel) rfl
theorem wd244 : Cond.methodLink "DecreePool" 180 ⟨"DecreePool$Proposers", "takePromise", "(IIIII)Z"⟩ ∈ WL := WL_t 244 (by decide +kernel) rfl
theorem wd245 : Cond.instanceMethod ⟨"DecreePool$Proposers", "takePromise", "(IIIII)Z"⟩ ∈ WL := WL_t 245 (by decide +kernel) rfl
theorem wd246 : Cond.selects "DecreePool$Proposers" ⟨"DecreePool$Proposers", "takePromise", "(IIIII)Z"⟩ ⟨"DecreePool$Proposers", "takePromise", "(IIIII)Z"⟩ ∈ WL := WL_t 246 (by decide +kernel) rfl
theorem wd247 : Cond.code ⟨"DecreePool$Proposers", "takePromise", "(IIIII)Z"⟩ prog_5_method_10_code 6 (Option.some .boolean) ∈ WL := WL_t 247 (by decide +kernel) rfl
theorem wd248 : Cond.methodLink "DecreePool$Proposers" 50 ⟨"DecreePool$Proposers", "promises", "(I)I"⟩ ∈ WL := WL_t 248 (by decide +kernel) rfl
theorem wd249 : Cond.instanceMethod ⟨"DecreePool$Proposers", "promises", "(I)I"⟩ ∈ WL := WL_t 249 (by decide +kernel) rfl
theorem wd250 : Cond.selects "DecreePool$Proposers" ⟨"DecreePool$Proposers", "promises", "(I)I"⟩ ⟨"DecreePool$Proposers", "promises", "(I)I"⟩ ∈ WL := WL_t 250 (by decide +kernel) rfl
theorem wd251 : Cond.code ⟨"DecreePool$Proposers", "promises", "(I)I"⟩ prog_5_method_4_code 2 (Option.some .int) ∈ WL := WL_t 251 (by decide +kernel) rfl
theorem wd252 : Cond.methodLink "DecreePool" 143 ⟨"DecreePool$Proposers", "value", "(I)I"⟩ ∈ WL := WL_t 252 (by decide +kernel) rfl
theorem wd253 : Cond.instanceMethod ⟨"DecreePool$Proposers", "value", "(I)I"⟩ ∈ WL := WL_t 253 (by decide +kernel) rfl
theorem wd254 : Cond.selects "DecreePool$Proposers" ⟨"DecreePool$Proposers", "value", "(I)I"⟩ ⟨"DecreePool$Proposers", "value", "(I)I"⟩ ∈ WL := WL_t 254 (by decide +kernel) rfl
theorem wd255 : Cond.code ⟨"DecreePool$Proposers", "value", "(I)I"⟩ prog_5_method_6_code 2 (Option.some .int) ∈ WL := WL_t 255 (by decide +kernel) rfl
theorem wd256 : Cond.methodLink "DecreePool" 184 ⟨"DecreePool$Acceptors", "accept", "(III)Z"⟩ ∈ WL := WL_t 256 (by decide +kernel) rfl
theorem wd257 : Cond.instanceMethod ⟨"DecreePool$Acceptors", "accept", "(III)Z"⟩ ∈ WL := WL_t 257 (by decide +kernel) rfl
theorem wd258 : Cond.selects "DecreePool$Acceptors" ⟨"DecreePool$Acceptors", "accept", "(III)Z"⟩ ⟨"DecreePool$Acceptors", "accept", "(III)Z"⟩ ∈ WL := WL_t 258 (by decide +kernel) rfl
theorem wd259 : Cond.code ⟨"DecreePool$Acceptors", "accept", "(III)Z"⟩ prog_2_method_7_code 4 (Option.some .boolean) ∈ WL := WL_t 259 (by decide +kernel) rfl
theorem wd260 : Cond.methodLink "DecreePool$Acceptors" 34 ⟨"DecreePool$Acceptors", "wouldAccept", "(II)Z"⟩ ∈ WL := WL_t 260 (by decide +kernel) rfl
theorem wd261 : Cond.methodLink "DecreePool" 187 ⟨"DecreePool$Learners", "hear", "(IIII)V"⟩ ∈ WL := WL_t 261 (by decide +kernel) rfl
theorem wd262 : Cond.instanceMethod ⟨"DecreePool$Learners", "hear", "(IIII)V"⟩ ∈ WL := WL_t 262 (by decide +kernel) rfl
theorem wd263 : Cond.selects "DecreePool$Learners" ⟨"DecreePool$Learners", "hear", "(IIII)V"⟩ ⟨"DecreePool$Learners", "hear", "(IIII)V"⟩ ∈ WL := WL_t 263 (by decide +kernel) rfl
theorem wd264 : Cond.code ⟨"DecreePool$Learners", "hear", "(IIII)V"⟩ prog_3_method_5_code 5 (Option.none : Option ClassFile.FieldType) ∈ WL := WL_t 264 (by decide +kernel) rfl
theorem wd265 : Cond.methodLink "DecreePool$Learners" 28 ⟨"DecreePool$Learners", "ballotOf", "(II)I"⟩ ∈ WL := WL_t 265 (by decide +kernel) rfl
theorem wd266 : Cond.instanceMethod ⟨"DecreePool$Learners", "ballotOf", "(II)I"⟩ ∈ WL := WL_t 266 (by decide +kernel) rfl
theorem wd267 : Cond.selects "DecreePool$Learners" ⟨"DecreePool$Learners", "ballotOf", "(II)I"⟩ ⟨"DecreePool$Learners", "ballotOf", "(II)I"⟩ ∈ WL := WL_t 267 (by decide +kernel) rfl
theorem wd268 : Cond.code ⟨"DecreePool$Learners", "ballotOf", "(II)I"⟩ prog_3_method_2_code 3 (Option.some .int) ∈ WL := WL_t 268 (by decide +kernel) rfl
theorem wd269 : Cond.methodLink "DecreePool$Learners" 32 ⟨"DecreePool$Learners", "nodesHeardWith", "(II)I"⟩ ∈ WL := WL_t 269 (by decide +kernel) rfl
theorem wd271 : Cond.instanceMethod ⟨"DecreePool$Learners", "nodesHeardWith", "(II)I"⟩ ∈ WL := WL_t 271 (by decide +kernel) rfl
theorem wd272 : Cond.code ⟨"DecreePool$Learners", "nodesHeardWith", "(II)I"⟩ prog_3_method_7_code 5 (Option.some .int) ∈ WL := WL_t 272 (by decide +kernel) rfl
theorem wd274 : Cond.methodLink "DecreePool$Learners" 39 ⟨"DecreePool$Learners", "learn", "(II)V"⟩ ∈ WL := WL_t 274 (by decide +kernel) rfl
theorem wd275 : Cond.instanceMethod ⟨"DecreePool$Learners", "learn", "(II)V"⟩ ∈ WL := WL_t 275 (by decide +kernel) rfl
theorem wd276 : Cond.selects "DecreePool$Learners" ⟨"DecreePool$Learners", "learn", "(II)V"⟩ ⟨"DecreePool$Learners", "learn", "(II)V"⟩ ∈ WL := WL_t 276 (by decide +kernel) rfl
theorem wd277 : Cond.code ⟨"DecreePool$Learners", "learn", "(II)V"⟩ prog_3_method_6_code 3 (Option.none : Option ClassFile.FieldType) ∈ WL := WL_t 277 (by decide +kernel) rfl
theorem wd278 : Cond.methodLink "DecreePool" 191 ⟨"DecreePool$Learners", "learn", "(II)V"⟩ ∈ WL := WL_t 278 (by decide +kernel) rfl
theorem wd279 : Cond.methodLink "DecreePoolLaw" 31 ⟨"DecreePool", "sweep", "(I)I"⟩ ∈ WL := WL_t 279 (by decide +kernel) rfl
theorem wd280 : Cond.instanceMethod ⟨"DecreePool", "sweep", "(I)I"⟩ ∈ WL := WL_t 280 (by decide +kernel) rfl
theorem wd281 : Cond.selects "DecreePool" ⟨"DecreePool", "sweep", "(I)I"⟩ ⟨"DecreePool", "sweep", "(I)I"⟩ ∈ WL := WL_t 281 (by decide +kernel) rfl
theorem wd282 : Cond.code ⟨"DecreePool", "sweep", "(I)I"⟩ prog_1_method_4_code 4 (Option.some .int) ∈ WL := WL_t 282 (by decide +kernel) rfl
theorem wd283 : Cond.methodLink "DecreePool" 98 ⟨"DecreePool", "leastDeliverable", "()I"⟩ ∈ WL := WL_t 283 (by decide +kernel) rfl
theorem wd285 : Cond.instanceMethod ⟨"DecreePool", "leastDeliverable", "()I"⟩ ∈ WL := WL_t 285 (by decide +kernel) rfl
theorem wd286 : Cond.code ⟨"DecreePool", "leastDeliverable", "()I"⟩ prog_1_method_28_code 2 (Option.some .int) ∈ WL := WL_t 286 (by decide +kernel) rfl
theorem wd287 : Cond.methodLink "DecreePool" 161 ⟨"DecreePool$Pool", "places", "()I"⟩ ∈ WL := WL_t 287 (by decide +kernel) rfl
theorem wd288 : Cond.instanceMethod ⟨"DecreePool$Pool", "places", "()I"⟩ ∈ WL := WL_t 288 (by decide +kernel) rfl
theorem wd289 : Cond.selects "DecreePool$Pool" ⟨"DecreePool$Pool", "places", "()I"⟩ ⟨"DecreePool$Pool", "places", "()I"⟩ ∈ WL := WL_t 289 (by decide +kernel) rfl
theorem wd290 : Cond.code ⟨"DecreePool$Pool", "places", "()I"⟩ prog_4_method_2_code 1 (Option.some .int) ∈ WL := WL_t 290 (by decide +kernel) rfl
theorem wd291 : Cond.methodLink "DecreePoolLaw" 35 ⟨"DecreePool", "drop", "(I)I"⟩ ∈ WL := WL_t 291 (by decide +kernel) rfl
theorem wd292 : Cond.instanceMethod ⟨"DecreePool", "drop", "(I)I"⟩ ∈ WL := WL_t 292 (by decide +kernel) rfl
theorem wd293 : Cond.selects "DecreePool" ⟨"DecreePool", "drop", "(I)I"⟩ ⟨"DecreePool", "drop", "(I)I"⟩ ∈ WL := WL_t 293 (by decide +kernel) rfl
theorem wd294 : Cond.code ⟨"DecreePool", "drop", "(I)I"⟩ prog_1_method_5_code 3 (Option.some .int) ∈ WL := WL_t 294 (by decide +kernel) rfl
theorem wd295 : Cond.methodLink "DecreePoolLaw" 39 ⟨"DecreePool", "duplicate", "(I)I"⟩ ∈ WL := WL_t 295 (by decide +kernel) rfl
theorem wd296 : Cond.instanceMethod ⟨"DecreePool", "duplicate", "(I)I"⟩ ∈ WL := WL_t 296 (by decide +kernel) rfl
theorem wd297 : Cond.selects "DecreePool" ⟨"DecreePool", "duplicate", "(I)I"⟩ ⟨"DecreePool", "duplicate", "(I)I"⟩ ∈ WL := WL_t 297 (by decide +kernel) rfl
theorem wd298 : Cond.code ⟨"DecreePool", "duplicate", "(I)I"⟩ prog_1_method_6_code 3 (Option.some .int) ∈ WL := WL_t 298 (by decide +kernel) rfl
theorem wd299 : Cond.methodLink "DecreePool" 107 ⟨"DecreePool$Pool", "sendCopy", "(I)I"⟩ ∈ WL := WL_t 299 (by decide +kernel) rfl
theorem wd300 : Cond.instanceMethod ⟨"DecreePool$Pool", "sendCopy", "(I)I"⟩ ∈ WL := WL_t 300 (by decide +kernel) rfl
theorem wd301 : Cond.selects "DecreePool$Pool" ⟨"DecreePool$Pool", "sendCopy", "(I)I"⟩ ⟨"DecreePool$Pool", "sendCopy", "(I)I"⟩ ∈ WL := WL_t 301 (by decide +kernel) rfl
theorem wd302 : Cond.code ⟨"DecreePool$Pool", "sendCopy", "(I)I"⟩ prog_4_method_9_code 2 (Option.some .int) ∈ WL := WL_t 302 (by decide +kernel) rfl
theorem wd303 : Cond.methodLink "DecreePool$Pool" 34 ⟨"DecreePool$Pool", "send", "(IIIIIII)I"⟩ ∈ WL := WL_t 303 (by decide +kernel) rfl
theorem wd304 : Cond.methodLink "DecreePoolLaw" 43 ⟨"DecreePool", "crash", "(I)I"⟩ ∈ WL := WL_t 304 (by decide +kernel) rfl
theorem wd305 : Cond.instanceMethod ⟨"DecreePool", "crash", "(I)I"⟩ ∈ WL := WL_t 305 (by decide +kernel) rfl
theorem wd306 : Cond.selects "DecreePool" ⟨"DecreePool", "crash", "(I)I"⟩ ⟨"DecreePool", "crash", "(I)I"⟩ ∈ WL := WL_t 306 (by decide +kernel) rfl
theorem wd307 : Cond.code ⟨"DecreePool", "crash", "(I)I"⟩ prog_1_method_7_code 2 (Option.some .int) ∈ WL := WL_t 307 (by decide +kernel) rfl
theorem wd308 : Cond.methodLink "DecreePool" 113 ⟨"java/lang/Integer", "bitCount", "(I)I"⟩ ∈ WL := WL_t 308 (by decide +kernel) rfl
theorem wd309 : Cond.methodLink "DecreePoolLaw" 47 ⟨"DecreePool", "restart", "(I)I"⟩ ∈ WL := WL_t 309 (by decide +kernel) rfl
theorem wd310 : Cond.instanceMethod ⟨"DecreePool", "restart", "(I)I"⟩ ∈ WL := WL_t 310 (by decide +kernel) rfl
theorem wd311 : Cond.selects "DecreePool" ⟨"DecreePool", "restart", "(I)I"⟩ ⟨"DecreePool", "restart", "(I)I"⟩ ∈ WL := WL_t 311 (by decide +kernel) rfl
theorem wd312 : Cond.code ⟨"DecreePool", "restart", "(I)I"⟩ prog_1_method_8_code 4 (Option.some .int) ∈ WL := WL_t 312 (by decide +kernel) rfl
theorem wd313 : Cond.methodLink "DecreePool" 118 ⟨"DecreePool$Proposers", "comeBack", "(I)V"⟩ ∈ WL := WL_t 313 (by decide +kernel) rfl
theorem wd314 : Cond.instanceMethod ⟨"DecreePool$Proposers", "comeBack", "(I)V"⟩ ∈ WL := WL_t 314 (by decide +kernel) rfl
theorem wd315 : Cond.selects "DecreePool$Proposers" ⟨"DecreePool$Proposers", "comeBack", "(I)V"⟩ ⟨"DecreePool$Proposers", "comeBack", "(I)V"⟩ ∈ WL := WL_t 315 (by decide +kernel) rfl
theorem wd316 : Cond.code ⟨"DecreePool$Proposers", "comeBack", "(I)V"⟩ prog_5_method_8_code 2 (Option.none : Option ClassFile.FieldType) ∈ WL := WL_t 316 (by decide +kernel) rfl
theorem wd317 : Cond.methodLink "DecreePool" 121 ⟨"DecreePool$Learners", "comeBack", "(I)V"⟩ ∈ WL := WL_t 317 (by decide +kernel) rfl
theorem wd318 : Cond.instanceMethod ⟨"DecreePool$Learners", "comeBack", "(I)V"⟩ ∈ WL := WL_t 318 (by decide +kernel) rfl
theorem wd319 : Cond.selects "DecreePool$Learners" ⟨"DecreePool$Learners", "comeBack", "(I)V"⟩ ⟨"DecreePool$Learners", "comeBack", "(I)V"⟩ ∈ WL := WL_t 319 (by decide +kernel) rfl
theorem wd320 : Cond.code ⟨"DecreePool$Learners", "comeBack", "(I)V"⟩ prog_3_method_4_code 3 (Option.none : Option ClassFile.FieldType) ∈ WL := WL_t 320 (by decide +kernel) rfl
theorem wd321 : Cond.methodLink "DecreePoolLaw" 51 ⟨"DecreePool", "tell", "(II)I"⟩ ∈ WL := WL_t 321 (by decide +kernel) rfl
theorem wd322 : Cond.instanceMethod ⟨"DecreePool", "tell", "(II)I"⟩ ∈ WL := WL_t 322 (by decide +kernel) rfl
theorem wd323 : Cond.selects "DecreePool" ⟨"DecreePool", "tell", "(II)I"⟩ ⟨"DecreePool", "tell", "(II)I"⟩ ∈ WL := WL_t 323 (by decide +kernel) rfl
theorem wd324 : Cond.code ⟨"DecreePool", "tell", "(II)I"⟩ prog_1_method_9_code 4 (Option.some .int) ∈ WL := WL_t 324 (by decide +kernel) rfl
theorem wd325 : Cond.methodLink "DecreePool" 122 ⟨"DecreePool$Learners", "decree", "(I)I"⟩ ∈ WL := WL_t 325 (by decide +kernel) rfl
theorem wd326 : Cond.instanceMethod ⟨"DecreePool$Learners", "decree", "(I)I"⟩ ∈ WL := WL_t 326 (by decide +kernel) rfl
theorem wd327 : Cond.selects "DecreePool$Learners" ⟨"DecreePool$Learners", "decree", "(I)I"⟩ ⟨"DecreePool$Learners", "decree", "(I)I"⟩ ∈ WL := WL_t 327 (by decide +kernel) rfl
theorem wd328 : Cond.code ⟨"DecreePool$Learners", "decree", "(I)I"⟩ prog_3_method_3_code 2 (Option.some .int) ∈ WL := WL_t 328 (by decide +kernel) rfl
theorem wd329 : Cond.methodLink "DecreePoolLaw" 56 ⟨"DecreePool", "learned", "(II)I"⟩ ∈ WL := WL_t 329 (by decide +kernel) rfl
theorem wd330 : Cond.instanceMethod ⟨"DecreePool", "learned", "(II)I"⟩ ∈ WL := WL_t 330 (by decide +kernel) rfl
theorem wd331 : Cond.selects "DecreePool" ⟨"DecreePool", "learned", "(II)I"⟩ ⟨"DecreePool", "learned", "(II)I"⟩ ∈ WL := WL_t 331 (by decide +kernel) rfl
theorem wd332 : Cond.code ⟨"DecreePool", "learned", "(II)I"⟩ prog_1_method_10_code 3 (Option.some .int) ∈ WL := WL_t 332 (by decide +kernel) rfl
theorem wd333 : Cond.methodLink "DecreePoolLaw" 60 ⟨"DecreePool", "acceptor", "(III)I"⟩ ∈ WL := WL_t 333 (by decide +kernel) rfl
theorem wd334 : Cond.instanceMethod ⟨"DecreePool", "acceptor", "(III)I"⟩ ∈ WL := WL_t 334 (by decide +kernel) rfl
theorem wd335 : Cond.selects "DecreePool" ⟨"DecreePool", "acceptor", "(III)I"⟩ ⟨"DecreePool", "acceptor", "(III)I"⟩ ∈ WL := WL_t 335 (by decide +kernel) rfl
theorem wd336 : Cond.code ⟨"DecreePool", "acceptor", "(III)I"⟩ prog_1_method_11_code 5 (Option.some .int) ∈ WL := WL_t 336 (by decide +kernel) rfl
theorem wd337 : Cond.methodLink "DecreePool" 125 ⟨"DecreePool$Acceptors", "promisedBallot", "(I)I"⟩ ∈ WL := WL_t 337 (by decide +kernel) rfl
theorem wd338 : Cond.instanceMethod ⟨"DecreePool$Acceptors", "promisedBallot", "(I)I"⟩ ∈ WL := WL_t 338 (by decide +kernel) rfl
theorem wd339 : Cond.selects "DecreePool$Acceptors" ⟨"DecreePool$Acceptors", "promisedBallot", "(I)I"⟩ ⟨"DecreePool$Acceptors", "promisedBallot", "(I)I"⟩ ∈ WL := WL_t 339 (by decide +kernel) rfl
theorem wd340 : Cond.code ⟨"DecreePool$Acceptors", "promisedBallot", "(I)I"⟩ prog_2_method_2_code 2 (Option.some .int) ∈ WL := WL_t 340 (by decide +kernel) rfl
theorem wd341 : Cond.methodLink "DecreePoolLaw" 65 ⟨"DecreePool", "proposer", "(III)I"⟩ ∈ WL := WL_t 341 (by decide +kernel) rfl
theorem wd342 : Cond.instanceMethod ⟨"DecreePool", "proposer", "(III)I"⟩ ∈ WL := WL_t 342 (by decide +kernel) rfl
theorem wd343 : Cond.selects "DecreePool" ⟨"DecreePool", "proposer", "(III)I"⟩ ⟨"DecreePool", "proposer", "(III)I"⟩ ∈ WL := WL_t 343 (by decide +kernel) rfl
theorem wd344 : Cond.code ⟨"DecreePool", "proposer", "(III)I"⟩ prog_1_method_12_code 5 (Option.some .int) ∈ WL := WL_t 344 (by decide +kernel) rfl
theorem wd345 : Cond.methodLink "DecreePool" 134 ⟨"DecreePool$Proposers", "phase", "(I)I"⟩ ∈ WL := WL_t 345 (by decide +kernel) rfl
theorem wd346 : Cond.instanceMethod ⟨"DecreePool$Proposers", "phase", "(I)I"⟩ ∈ WL := WL_t 346 (by decide +kernel) rfl
theorem wd347 : Cond.selects "DecreePool$Proposers" ⟨"DecreePool$Proposers", "phase", "(I)I"⟩ ⟨"DecreePool$Proposers", "phase", "(I)I"⟩ ∈ WL := WL_t 347 (by decide +kernel) rfl
theorem wd348 : Cond.code ⟨"DecreePool$Proposers", "phase", "(I)I"⟩ prog_5_method_2_code 2 (Option.some .int) ∈ WL := WL_t 348 (by decide +kernel) rfl
theorem wd349 : Cond.methodLink "DecreePool" 137 ⟨"DecreePool$Proposers", "promises", "(I)I"⟩ ∈ WL := WL_t 349 (by decide +kernel) rfl
theorem wd350 : Cond.methodLink "DecreePool" 140 ⟨"DecreePool$Proposers", "bestBallot", "(I)I"⟩ ∈ WL := WL_t 350 (by decide +kernel) rfl
theorem wd351 : Cond.instanceMethod ⟨"DecreePool$Proposers", "bestBallot", "(I)I"⟩ ∈ WL := WL_t 351 (by decide +kernel) rfl
theorem wd352 : Cond.selects "DecreePool$Proposers" ⟨"DecreePool$Proposers", "bestBallot", "(I)I"⟩ ⟨"DecreePool$Proposers", "bestBallot", "(I)I"⟩ ∈ WL := WL_t 352 (by decide +kernel) rfl
theorem wd353 : Cond.code ⟨"DecreePool$Proposers", "bestBallot", "(I)I"⟩ prog_5_method_5_code 2 (Option.some .int) ∈ WL := WL_t 353 (by decide +kernel) rfl
theorem wd354 : Cond.methodLink "DecreePoolLaw" 69 ⟨"DecreePool", "heard", "(III)I"⟩ ∈ WL := WL_t 354 (by decide +kernel) rfl
theorem wd355 : Cond.instanceMethod ⟨"DecreePool", "heard", "(III)I"⟩ ∈ WL := WL_t 355 (by decide +kernel) rfl
theorem wd356 : Cond.selects "DecreePool" ⟨"DecreePool", "heard", "(III)I"⟩ ⟨"DecreePool", "heard", "(III)I"⟩ ∈ WL := WL_t 356 (by decide +kernel) rfl
theorem wd357 : Cond.code ⟨"DecreePool", "heard", "(III)I"⟩ prog_1_method_13_code 4 (Option.some .int) ∈ WL := WL_t 357 (by decide +kernel) rfl
theorem wd358 : Cond.methodLink "DecreePool" 146 ⟨"DecreePool$Learners", "ballotOf", "(II)I"⟩ ∈ WL := WL_t 358 (by decide +kernel) rfl
theorem wd359 : Cond.methodLink "DecreePoolLaw" 73 ⟨"DecreePool", "message", "(II)I"⟩ ∈ WL := WL_t 359 (by decide +kernel) rfl
theorem wd360 : Cond.instanceMethod ⟨"DecreePool", "message", "(II)I"⟩ ∈ WL := WL_t 360 (by decide +kernel) rfl
theorem wd361 : Cond.selects "DecreePool" ⟨"DecreePool", "message", "(II)I"⟩ ⟨"DecreePool", "message", "(II)I"⟩ ∈ WL := WL_t 361 (by decide +kernel) rfl
theorem wd362 : Cond.code ⟨"DecreePool", "message", "(II)I"⟩ prog_1_method_14_code 3 (Option.some .int) ∈ WL := WL_t 362 (by decide +kernel) rfl
theorem wd363 : Cond.methodLink "DecreePoolLaw" 77 ⟨"DecreePool", "chosen", "(I)I"⟩ ∈ WL := WL_t 363 (by decide +kernel) rfl
theorem wd364 : Cond.instanceMethod ⟨"DecreePool", "chosen", "(I)I"⟩ ∈ WL := WL_t 364 (by decide +kernel) rfl
theorem wd365 : Cond.selects "DecreePool" ⟨"DecreePool", "chosen", "(I)I"⟩ ⟨"DecreePool", "chosen", "(I)I"⟩ ∈ WL := WL_t 365 (by decide +kernel) rfl
theorem wd366 : Cond.code ⟨"DecreePool", "chosen", "(I)I"⟩ prog_1_method_15_code 2 (Option.some .int) ∈ WL := WL_t 366 (by decide +kernel) rfl
theorem wd367 : Cond.methodLink "DecreePool" 152 ⟨"DecreePool$Acceptors", "majorityValue", "(I)I"⟩ ∈ WL := WL_t 367 (by decide +kernel) rfl
theorem wd368 : Cond.instanceMethod ⟨"DecreePool$Acceptors", "majorityValue", "(I)I"⟩ ∈ WL := WL_t 368 (by decide +kernel) rfl
theorem wd369 : Cond.selects "DecreePool$Acceptors" ⟨"DecreePool$Acceptors", "majorityValue", "(I)I"⟩ ⟨"DecreePool$Acceptors", "majorityValue", "(I)I"⟩ ∈ WL := WL_t 369 (by decide +kernel) rfl
theorem wd370 : Cond.code ⟨"DecreePool$Acceptors", "majorityValue", "(I)I"⟩ prog_2_method_8_code 4 (Option.some .int) ∈ WL := WL_t 370 (by decide +kernel) rfl
theorem wd371 : Cond.methodLink "DecreePool$Acceptors" 38 ⟨"DecreePool$Acceptors", "acceptorsOf", "(II)I"⟩ ∈ WL := WL_t 371 (by decide +kernel) rfl
theorem wd373 : Cond.instanceMethod ⟨"DecreePool$Acceptors", "acceptorsOf", "(II)I"⟩ ∈ WL := WL_t 373 (by decide +kernel) rfl
theorem wd374 : Cond.code ⟨"DecreePool$Acceptors", "acceptorsOf", "(II)I"⟩ prog_2_method_9_code 5 (Option.some .int) ∈ WL := WL_t 374 (by decide +kernel) rfl
theorem wd376 : Cond.methodLink "DecreePoolLaw" 81 ⟨"DecreePool", "prefix", "(I)I"⟩ ∈ WL := WL_t 376 (by decide +kernel) rfl
theorem wd377 : Cond.instanceMethod ⟨"DecreePool", "prefix", "(I)I"⟩ ∈ WL := WL_t 377 (by decide +kernel) rfl
theorem wd378 : Cond.selects "DecreePool" ⟨"DecreePool", "prefix", "(I)I"⟩ ⟨"DecreePool", "prefix", "(I)I"⟩ ∈ WL := WL_t 378 (by decide +kernel) rfl
theorem wd379 : Cond.code ⟨"DecreePool", "prefix", "(I)I"⟩ prog_1_method_16_code 2 (Option.some .int) ∈ WL := WL_t 379 (by decide +kernel) rfl
theorem wd380 : Cond.methodLink "DecreePool" 155 ⟨"DecreePool", "prefixLength", "(I)I"⟩ ∈ WL := WL_t 380 (by decide +kernel) rfl
theorem wd382 : Cond.instanceMethod ⟨"DecreePool", "prefixLength", "(I)I"⟩ ∈ WL := WL_t 382 (by decide +kernel) rfl
theorem wd383 : Cond.code ⟨"DecreePool", "prefixLength", "(I)I"⟩ prog_1_method_26_code 3 (Option.some .int) ∈ WL := WL_t 383 (by decide +kernel) rfl
theorem wd384 : Cond.methodLink "DecreePoolLaw" 85 ⟨"DecreePool", "applied", "(I)J"⟩ ∈ WL := WL_t 384 (by decide +kernel) rfl
theorem wd385 : Cond.instanceMethod ⟨"DecreePool", "applied", "(I)J"⟩ ∈ WL := WL_t 385 (by decide +kernel) rfl
theorem wd386 : Cond.selects "DecreePool" ⟨"DecreePool", "applied", "(I)J"⟩ ⟨"DecreePool", "applied", "(I)J"⟩ ∈ WL := WL_t 386 (by decide +kernel) rfl
theorem wd387 : Cond.code ⟨"DecreePool", "applied", "(I)J"⟩ prog_1_method_17_code 7 (Option.some .long) ∈ WL := WL_t 387 (by decide +kernel) rfl
theorem wd388 : Cond.methodLink "DecreePoolLaw" 90 ⟨"DecreePool", "count", "(I)I"⟩ ∈ WL := WL_t 388 (by decide +kernel) rfl
theorem wd389 : Cond.instanceMethod ⟨"DecreePool", "count", "(I)I"⟩ ∈ WL := WL_t 389 (by decide +kernel) rfl
theorem wd390 : Cond.selects "DecreePool" ⟨"DecreePool", "count", "(I)I"⟩ ⟨"DecreePool", "count", "(I)I"⟩ ∈ WL := WL_t 390 (by decide +kernel) rfl
theorem wd391 : Cond.code ⟨"DecreePool", "count", "(I)I"⟩ prog_1_method_18_code 2 (Option.some .int) ∈ WL := WL_t 391 (by decide +kernel) rfl
theorem wd392 : Cond.methodLink "DecreePool" 158 ⟨"DecreePool$Pool", "messages", "()I"⟩ ∈ WL := WL_t 392 (by decide +kernel) rfl
theorem wd393 : Cond.instanceMethod ⟨"DecreePool$Pool", "messages", "()I"⟩ ∈ WL := WL_t 393 (by decide +kernel) rfl
theorem wd394 : Cond.selects "DecreePool$Pool" ⟨"DecreePool$Pool", "messages", "()I"⟩ ⟨"DecreePool$Pool", "messages", "()I"⟩ ∈ WL := WL_t 394 (by decide +kernel) rfl
theorem wd395 : Cond.code ⟨"DecreePool$Pool", "messages", "()I"⟩ prog_4_method_3_code 1 (Option.some .int) ∈ WL := WL_t 395 (by decide +kernel) rfl
theorem wd396 : Cond.methodLink "DecreePoolLaw" 9 ⟨"DecreePoolLaw", "cell", "([II)I"⟩ ∈ WL := WL_t 396 (by decide +kernel) rfl
theorem wd397 : Cond.static ⟨"DecreePoolLaw", "cell", "([II)I"⟩ ∈ WL := WL_t 397 (by decide +kernel) rfl
theorem wd398 : Cond.code ⟨"DecreePoolLaw", "cell", "([II)I"⟩ method_2_code 2 (Option.some .int) ∈ WL := WL_t 398 (by decide +kernel) rfl
theorem wd399 : Cond.classLink "DecreePoolLaw" 18 "DecreePoolModel" ∈ WL := WL_t 399 (by decide +kernel) rfl
theorem wd400 : Cond.instantiable "DecreePoolModel" 25 ∈ WL := WL_t 400 (by decide +kernel) rfl
theorem wd401 : Cond.methodLink "DecreePoolLaw" 20 ⟨"DecreePoolModel", "<init>", "(III)V"⟩ ∈ WL := WL_t 401 (by decide +kernel) rfl
theorem wd402 : Cond.instanceMethod ⟨"DecreePoolModel", "<init>", "(III)V"⟩ ∈ WL := WL_t 402 (by decide +kernel) rfl
theorem wd403 : Cond.code ⟨"DecreePoolModel", "<init>", "(III)V"⟩ prog_7_method_1_code 5 (Option.none : Option ClassFile.FieldType) ∈ WL := WL_t 403 (by decide +kernel) rfl
theorem wd404 : Cond.methodLink "DecreePoolModel" 1 ⟨"java/lang/Object", "<init>", "()V"⟩ ∈ WL := WL_t 404 (by decide +kernel) rfl
theorem wd405 : Cond.fieldLink "DecreePoolModel" 71 "DecreePoolModel" "nodes" "I" ∈ WL := WL_t 405 (by decide +kernel) rfl
theorem wd406 : Cond.fieldLink "DecreePoolModel" 75 "DecreePoolModel" "slots" "I" ∈ WL := WL_t 406 (by decide +kernel) rfl
theorem wd407 : Cond.fieldLink "DecreePoolModel" 78 "DecreePoolModel" "places" "I" ∈ WL := WL_t 407 (by decide +kernel) rfl
theorem wd408 : Cond.fieldLink "DecreePoolModel" 7 "DecreePoolModel" "down" "[Z" ∈ WL := WL_t 408 (by decide +kernel) rfl
theorem wd409 : Cond.fieldLink "DecreePoolModel" 13 "DecreePoolModel" "kinds" "[I" ∈ WL := WL_t 409 (by decide +kernel) rfl
theorem wd410 : Cond.fieldLink "DecreePoolModel" 17 "DecreePoolModel" "senders" "[I" ∈ WL := WL_t 410 (by decide +kernel) rfl
theorem wd411 : Cond.fieldLink "DecreePoolModel" 20 "DecreePoolModel" "receivers" "[I" ∈ WL := WL_t 411 (by decide +kernel) rfl
theorem wd412 : Cond.fieldLink "DecreePoolModel" 23 "DecreePoolModel" "slotOf" "[I" ∈ WL := WL_t 412 (by decide +kernel) rfl
theorem wd413 : Cond.fieldLink "DecreePoolModel" 26 "DecreePoolModel" "ballots" "[I" ∈ WL := WL_t 413 (by decide +kernel) rfl
theorem wd414 : Cond.fieldLink "DecreePoolModel" 29 "DecreePoolModel" "values" "[I" ∈ WL := WL_t 414 (by decide +kernel) rfl
theorem wd415 : Cond.fieldLink "DecreePoolModel" 32 "DecreePoolModel" "olds" "[I" ∈ WL := WL_t 415 (by decide +kernel) rfl
theorem wd416 : Cond.fieldLink "DecreePoolModel" 35 "DecreePoolModel" "last" "[I" ∈ WL := WL_t 416 (by decide +kernel) rfl
theorem wd417 : Cond.fieldLink "DecreePoolModel" 38 "DecreePoolModel" "phases" "[I" ∈ WL := WL_t 417 (by decide +kernel) rfl
theorem wd418 : Cond.fieldLink "DecreePoolModel" 41 "DecreePoolModel" "wishes" "[I" ∈ WL := WL_t 418 (by decide +kernel) rfl
theorem wd419 : Cond.fieldLink "DecreePoolModel" 44 "DecreePoolModel" "promises" "[I" ∈ WL := WL_t 419 (by decide +kernel) rfl
theorem wd420 : Cond.fieldLink "DecreePoolModel" 47 "DecreePoolModel" "best" "[I" ∈ WL := WL_t 420 (by decide +kernel) rfl
theorem wd421 : Cond.fieldLink "DecreePoolModel" 50 "DecreePoolModel" "bestValue" "[I" ∈ WL := WL_t 421 (by decide +kernel) rfl
theorem wd422 : Cond.fieldLink "DecreePoolModel" 53 "DecreePoolModel" "promised" "[I" ∈ WL := WL_t 422 (by decide +kernel) rfl
theorem wd423 : Cond.fieldLink "DecreePoolModel" 56 "DecreePoolModel" "accepted" "[I" ∈ WL := WL_t 423 (by decide +kernel) rfl
theorem wd424 : Cond.fieldLink "DecreePoolModel" 59 "DecreePoolModel" "acceptedValue" "[I" ∈ WL := WL_t 424 (by decide +kernel) rfl
theorem wd425 : Cond.fieldLink "DecreePoolModel" 62 "DecreePoolModel" "heardBallot" "[I" ∈ WL := WL_t 425 (by decide +kernel) rfl
theorem wd426 : Cond.fieldLink "DecreePoolModel" 65 "DecreePoolModel" "heardValue" "[I" ∈ WL := WL_t 426 (by decide +kernel) rfl
theorem wd427 : Cond.fieldLink "DecreePoolModel" 68 "DecreePoolModel" "learned" "[I" ∈ WL := WL_t 427 (by decide +kernel) rfl
theorem wd428 : Cond.fieldLink "DecreePoolModel" 130 "DecreePoolModel" "delivered" "I" ∈ WL := WL_t 428 (by decide +kernel) rfl
theorem wd429 : Cond.fieldLink "DecreePoolModel" 133 "DecreePoolModel" "lost" "I" ∈ WL := WL_t 429 (by decide +kernel) rfl
theorem wd430 : Cond.lays "DecreePoolModel" "DecreePoolModel" "nodes" "I" ∈ WL := WL_t 430 (by decide +kernel) rfl
theorem wd432 : Cond.lays "DecreePoolModel" "DecreePoolModel" "slots" "I" ∈ WL := WL_t 432 (by decide +kernel) rfl
theorem wd434 : Cond.lays "DecreePoolModel" "DecreePoolModel" "places" "I" ∈ WL := WL_t 434 (by decide +kernel) rfl
theorem wd436 : Cond.laysFinal "DecreePoolModel" "DecreePoolModel" "down" "[Z" ∈ WL := WL_t 436 (by decide +kernel) rfl
theorem wd438 : Cond.laysFinal "DecreePoolModel" "DecreePoolModel" "kinds" "[I" ∈ WL := WL_t 438 (by decide +kernel) rfl
theorem wd440 : Cond.laysFinal "DecreePoolModel" "DecreePoolModel" "senders" "[I" ∈ WL := WL_t 440 (by decide +kernel) rfl
theorem wd442 : Cond.laysFinal "DecreePoolModel" "DecreePoolModel" "receivers" "[I" ∈ WL := WL_t 442 (by decide +kernel) rfl
theorem wd444 : Cond.laysFinal "DecreePoolModel" "DecreePoolModel" "slotOf" "[I" ∈ WL := WL_t 444 (by decide +kernel) rfl
theorem wd446 : Cond.laysFinal "DecreePoolModel" "DecreePoolModel" "ballots" "[I" ∈ WL := WL_t 446 (by decide +kernel) rfl
theorem wd448 : Cond.laysFinal "DecreePoolModel" "DecreePoolModel" "values" "[I" ∈ WL := WL_t 448 (by decide +kernel) rfl
theorem wd450 : Cond.laysFinal "DecreePoolModel" "DecreePoolModel" "olds" "[I" ∈ WL := WL_t 450 (by decide +kernel) rfl
theorem wd452 : Cond.laysFinal "DecreePoolModel" "DecreePoolModel" "last" "[I" ∈ WL := WL_t 452 (by decide +kernel) rfl
theorem wd454 : Cond.laysFinal "DecreePoolModel" "DecreePoolModel" "phases" "[I" ∈ WL := WL_t 454 (by decide +kernel) rfl
theorem wd456 : Cond.laysFinal "DecreePoolModel" "DecreePoolModel" "wishes" "[I" ∈ WL := WL_t 456 (by decide +kernel) rfl
theorem wd458 : Cond.laysFinal "DecreePoolModel" "DecreePoolModel" "promises" "[I" ∈ WL := WL_t 458 (by decide +kernel) rfl
theorem wd460 : Cond.laysFinal "DecreePoolModel" "DecreePoolModel" "best" "[I" ∈ WL := WL_t 460 (by decide +kernel) rfl
theorem wd462 : Cond.laysFinal "DecreePoolModel" "DecreePoolModel" "bestValue" "[I" ∈ WL := WL_t 462 (by decide +kernel) rfl
theorem wd464 : Cond.laysFinal "DecreePoolModel" "DecreePoolModel" "promised" "[I" ∈ WL := WL_t 464 (by decide +kernel) rfl
theorem wd466 : Cond.laysFinal "DecreePoolModel" "DecreePoolModel" "accepted" "[I" ∈ WL := WL_t 466 (by decide +kernel) rfl
theorem wd468 : Cond.laysFinal "DecreePoolModel" "DecreePoolModel" "acceptedValue" "[I" ∈ WL := WL_t 468 (by decide +kernel) rfl
theorem wd470 : Cond.laysFinal "DecreePoolModel" "DecreePoolModel" "heardBallot" "[I" ∈ WL := WL_t 470 (by decide +kernel) rfl
theorem wd472 : Cond.laysFinal "DecreePoolModel" "DecreePoolModel" "heardValue" "[I" ∈ WL := WL_t 472 (by decide +kernel) rfl
theorem wd474 : Cond.laysFinal "DecreePoolModel" "DecreePoolModel" "learned" "[I" ∈ WL := WL_t 474 (by decide +kernel) rfl
theorem wd476 : Cond.lays "DecreePoolModel" "DecreePoolModel" "delivered" "I" ∈ WL := WL_t 476 (by decide +kernel) rfl
theorem wd478 : Cond.lays "DecreePoolModel" "DecreePoolModel" "lost" "I" ∈ WL := WL_t 478 (by decide +kernel) rfl
theorem wd481 : Cond.arrayClass .boolean ∈ WL := WL_t 481 (by decide +kernel) rfl
theorem wd482 : Cond.methodLink "DecreePoolLaw" 25 ⟨"DecreePoolModel", "prepare", "(IIII)I"⟩ ∈ WL := WL_t 482 (by decide +kernel) rfl
theorem wd483 : Cond.instanceMethod ⟨"DecreePoolModel", "prepare", "(IIII)I"⟩ ∈ WL := WL_t 483 (by decide +kernel) rfl
theorem wd484 : Cond.selects "DecreePoolModel" ⟨"DecreePoolModel", "prepare", "(IIII)I"⟩ ⟨"DecreePoolModel", "prepare", "(IIII)I"⟩ ∈ WL := WL_t 484 (by decide +kernel) rfl
theorem wd485 : Cond.code ⟨"DecreePoolModel", "prepare", "(IIII)I"⟩ prog_7_method_9_code 7 (Option.some .int) ∈ WL := WL_t 485 (by decide +kernel) rfl
theorem wd486 : Cond.methodLink "DecreePoolModel" 85 ⟨"DecreePoolModel", "isNode", "(I)Z"⟩ ∈ WL := WL_t 486 (by decide +kernel) rfl
theorem wd488 : Cond.instanceMethod ⟨"DecreePoolModel", "isNode", "(I)Z"⟩ ∈ WL := WL_t 488 (by decide +kernel) rfl
theorem wd489 : Cond.code ⟨"DecreePoolModel", "isNode", "(I)Z"⟩ prog_7_method_2_code 2 (Option.some .boolean) ∈ WL := WL_t 489 (by decide +kernel) rfl
theorem wd490 : Cond.methodLink "DecreePoolModel" 89 ⟨"DecreePoolModel", "isSlot", "(I)Z"⟩ ∈ WL := WL_t 490 (by decide +kernel) rfl
theorem wd492 : Cond.instanceMethod ⟨"DecreePoolModel", "isSlot", "(I)Z"⟩ ∈ WL := WL_t 492 (by decide +kernel) rfl
theorem wd493 : Cond.code ⟨"DecreePoolModel", "isSlot", "(I)Z"⟩ prog_7_method_3_code 2 (Option.some .boolean) ∈ WL := WL_t 493 (by decide +kernel) rfl
theorem wd494 : Cond.methodLink "DecreePoolModel" 92 ⟨"DecreePoolModel", "empty", "()I"⟩ ∈ WL := WL_t 494 (by decide +kernel) rfl
theorem wd496 : Cond.instanceMethod ⟨"DecreePoolModel", "empty", "()I"⟩ ∈ WL := WL_t 496 (by decide +kernel) rfl
theorem wd497 : Cond.code ⟨"DecreePoolModel", "empty", "()I"⟩ prog_7_method_6_code 3 (Option.some .int) ∈ WL := WL_t 497 (by decide +kernel) rfl
theorem wd498 : Cond.methodLink "DecreePoolModel" 96 ⟨"DecreePoolModel", "sendAll", "(IIIII)V"⟩ ∈ WL := WL_t 498 (by decide +kernel) rfl
theorem wd500 : Cond.instanceMethod ⟨"DecreePoolModel", "sendAll", "(IIIII)V"⟩ ∈ WL := WL_t 500 (by decide +kernel) rfl
theorem wd501 : Cond.code ⟨"DecreePoolModel", "sendAll", "(IIIII)V"⟩ prog_7_method_8_code 8 (Option.none : Option ClassFile.FieldType) ∈ WL := WL_t 501 (by decide +kernel) rfl
theorem wd502 : Cond.methodLink "DecreePoolModel" 81 ⟨"DecreePoolModel", "send", "(IIIIIII)I"⟩ ∈ WL := WL_t 502 (by decide +kernel) rfl
theorem wd504 : Cond.instanceMethod ⟨"DecreePoolModel", "send", "(IIIIIII)I"⟩ ∈ WL := WL_t 504 (by decide +kernel) rfl
theorem wd505 : Cond.code ⟨"DecreePoolModel", "send", "(IIIIIII)I"⟩ prog_7_method_7_code 9 (Option.some .int) ∈ WL := WL_t 505 (by decide +kernel) rfl
theorem wd506 : Cond.methodLink "DecreePoolLaw" 30 ⟨"DecreePoolModel", "deliver", "(I)I"⟩ ∈ WL := WL_t 506 (by decide +kernel) rfl
theorem wd507 : Cond.instanceMethod ⟨"DecreePoolModel", "deliver", "(I)I"⟩ ∈ WL := WL_t 507 (by decide +kernel) rfl
theorem wd508 : Cond.selects "DecreePoolModel" ⟨"DecreePoolModel", "deliver", "(I)I"⟩ ⟨"DecreePoolModel", "deliver", "(I)I"⟩ ∈ WL := WL_t 508 (by decide +kernel) rfl
theorem wd509 : Cond.code ⟨"DecreePoolModel", "deliver", "(I)I"⟩ prog_7_method_18_code 4 (Option.some .int) ∈ WL := WL_t 509 (by decide +kernel) rfl
theorem wd510 : Cond.methodLink "DecreePoolModel" 124 ⟨"DecreePoolModel", "isMessage", "(I)Z"⟩ ∈ WL := WL_t 510 (by decide +kernel) rfl
theorem wd512 : Cond.instanceMethod ⟨"DecreePoolModel", "isMessage", "(I)Z"⟩ ∈ WL := WL_t 512 (by decide +kernel) rfl
theorem wd513 : Cond.code ⟨"DecreePoolModel", "isMessage", "(I)Z"⟩ prog_7_method_4_code 2 (Option.some .boolean) ∈ WL := WL_t 513 (by decide +kernel) rfl
theorem wd514 : Cond.methodLink "DecreePoolModel" 127 ⟨"DecreePoolModel", "sends", "(I)I"⟩ ∈ WL := WL_t 514 (by decide +kernel) rfl
theorem wd516 : Cond.instanceMethod ⟨"DecreePoolModel", "sends", "(I)I"⟩ ∈ WL := WL_t 516 (by decide +kernel) rfl
theorem wd517 : Cond.code ⟨"DecreePoolModel", "sends", "(I)I"⟩ prog_7_method_13_code 3 (Option.some .int) ∈ WL := WL_t 517 (by decide +kernel) rfl
theorem wd518 : Cond.methodLink "DecreePoolModel" 100 ⟨"DecreePoolModel", "isAwaited", "(I)Z"⟩ ∈ WL := WL_t 518 (by decide +kernel) rfl
theorem wd520 : Cond.instanceMethod ⟨"DecreePoolModel", "isAwaited", "(I)Z"⟩ ∈ WL := WL_t 520 (by decide +kernel) rfl
theorem wd521 : Cond.code ⟨"DecreePoolModel", "isAwaited", "(I)Z"⟩ prog_7_method_11_code 3 (Option.some .boolean) ∈ WL := WL_t 521 (by decide +kernel) rfl
theorem wd522 : Cond.methodLink "DecreePoolModel" 103 ⟨"DecreePoolModel", "withPromise", "(I)I"⟩ ∈ WL := WL_t 522 (by decide +kernel) rfl
theorem wd524 : Cond.instanceMethod ⟨"DecreePoolModel", "withPromise", "(I)I"⟩ ∈ WL := WL_t 524 (by decide +kernel) rfl
theorem wd525 : Cond.code ⟨"DecreePoolModel", "withPromise", "(I)I"⟩ prog_7_method_12_code 2 (Option.some .int) ∈ WL := WL_t 525 (by decide +kernel) rfl
theorem wd526 : Cond.methodLink "DecreePoolModel" 107 ⟨"DecreePoolModel", "bits", "(I)I"⟩ ∈ WL := WL_t 526 (by decide +kernel) rfl
theorem wd527 : Cond.static ⟨"DecreePoolModel", "bits", "(I)I"⟩ ∈ WL := WL_t 527 (by decide +kernel) rfl
theorem wd528 : Cond.code ⟨"DecreePoolModel", "bits", "(I)I"⟩ prog_7_method_10_code 3 (Option.some .int) ∈ WL := WL_t 528 (by decide +kernel) rfl
theorem wd529 : Cond.methodLink "DecreePoolModel" 110 ⟨"DecreePoolModel", "isMajority", "(I)Z"⟩ ∈ WL := WL_t 529 (by decide +kernel) rfl
theorem wd531 : Cond.instanceMethod ⟨"DecreePoolModel", "isMajority", "(I)Z"⟩ ∈ WL := WL_t 531 (by decide +kernel) rfl
theorem wd532 : Cond.code ⟨"DecreePoolModel", "isMajority", "(I)Z"⟩ prog_7_method_5_code 2 (Option.some .boolean) ∈ WL := WL_t 532 (by decide +kernel) rfl
theorem wd533 : Cond.methodLink "DecreePoolModel" 136 ⟨"DecreePoolModel", "take", "(II)V"⟩ ∈ WL := WL_t 533 (by decide +kernel) rfl
theorem wd535 : Cond.instanceMethod ⟨"DecreePoolModel", "take", "(II)V"⟩ ∈ WL := WL_t 535 (by decide +kernel) rfl
theorem wd536 : Cond.code ⟨"DecreePoolModel", "take", "(II)V"⟩ prog_7_method_17_code 9 (Option.none : Option ClassFile.FieldType) ∈ WL := WL_t 536 (by decide +kernel) rfl
theorem wd537 : Cond.methodLink "DecreePoolModel" 117 ⟨"DecreePoolModel", "promise", "(I)V"⟩ ∈ WL := WL_t 537 (by decide +kernel) rfl
theorem wd539 : Cond.instanceMethod ⟨"DecreePoolModel", "promise", "(I)V"⟩ ∈ WL := WL_t 539 (by decide +kernel) rfl
theorem wd540 : Cond.code ⟨"DecreePoolModel", "promise", "(I)V"⟩ prog_7_method_14_code 3 (Option.none : Option ClassFile.FieldType) ∈ WL := WL_t 540 (by decide +kernel) rfl
theorem wd541 : Cond.methodLink "DecreePoolModel" 121 ⟨"DecreePoolModel", "hear", "(I)V"⟩ ∈ WL := WL_t 541 (by decide +kernel) rfl
theorem wd543 : Cond.instanceMethod ⟨"DecreePoolModel", "hear", "(I)V"⟩ ∈ WL := WL_t 543 (by decide +kernel) rfl
theorem wd544 : Cond.code ⟨"DecreePoolModel", "hear", "(I)V"⟩ prog_7_method_15_code 6 (Option.none : Option ClassFile.FieldType) ∈ WL := WL_t 544 (by decide +kernel) rfl
theorem wd545 : Cond.methodLink "DecreePoolModel" 113 ⟨"DecreePoolModel", "learn", "(III)V"⟩ ∈ WL := WL_t 545 (by decide +kernel) rfl
theorem wd547 : Cond.instanceMethod ⟨"DecreePoolModel", "learn", "(III)V"⟩ ∈ WL := WL_t 547 (by decide +kernel) rfl
theorem wd548 : Cond.code ⟨"DecreePoolModel", "learn", "(III)V"⟩ prog_7_method_16_code 5 (Option.none : Option ClassFile.FieldType) ∈ WL := WL_t 548 (by decide +kernel) rfl
theorem wd549 : Cond.methodLink "DecreePoolLaw" 34 ⟨"DecreePoolModel", "sweep", "(I)I"⟩ ∈ WL := WL_t 549 (by decide +kernel) rfl
theorem wd550 : Cond.instanceMethod ⟨"DecreePoolModel", "sweep", "(I)I"⟩ ∈ WL := WL_t 550 (by decide +kernel) rfl
theorem wd551 : Cond.selects "DecreePoolModel" ⟨"DecreePoolModel", "sweep", "(I)I"⟩ ⟨"DecreePoolModel", "sweep", "(I)I"⟩ ∈ WL := WL_t 551 (by decide +kernel) rfl
theorem wd552 : Cond.code ⟨"DecreePoolModel", "sweep", "(I)I"⟩ prog_7_method_19_code 4 (Option.some .int) ∈ WL := WL_t 552 (by decide +kernel) rfl
theorem wd553 : Cond.methodLink "DecreePoolModel" 140 ⟨"DecreePoolModel", "deliver", "(I)I"⟩ ∈ WL := WL_t 553 (by decide +kernel) rfl
theorem wd554 : Cond.methodLink "DecreePoolLaw" 38 ⟨"DecreePoolModel", "drop", "(I)I"⟩ ∈ WL := WL_t 554 (by decide +kernel) rfl
theorem wd555 : Cond.instanceMethod ⟨"DecreePoolModel", "drop", "(I)I"⟩ ∈ WL := WL_t 555 (by decide +kernel) rfl
theorem wd556 : Cond.selects "DecreePoolModel" ⟨"DecreePoolModel", "drop", "(I)I"⟩ ⟨"DecreePoolModel", "drop", "(I)I"⟩ ∈ WL := WL_t 556 (by decide +kernel) rfl
theorem wd557 : Cond.code ⟨"DecreePoolModel", "drop", "(I)I"⟩ prog_7_method_20_code 3 (Option.some .int) ∈ WL := WL_t 557 (by decide +kernel) rfl
theorem wd558 : Cond.methodLink "DecreePoolLaw" 42 ⟨"DecreePoolModel", "duplicate", "(I)I"⟩ ∈ WL := WL_t 558 (by decide +kernel) rfl
theorem wd559 : Cond.instanceMethod ⟨"DecreePoolModel", "duplicate", "(I)I"⟩ ∈ WL := WL_t 559 (by decide +kernel) rfl
theorem wd560 : Cond.selects "DecreePoolModel" ⟨"DecreePoolModel", "duplicate", "(I)I"⟩ ⟨"DecreePoolModel", "duplicate", "(I)I"⟩ ∈ WL := WL_t 560 (by decide +kernel) rfl
theorem wd561 : Cond.code ⟨"DecreePoolModel", "duplicate", "(I)I"⟩ prog_7_method_21_code 2 (Option.some .int) ∈ WL := WL_t 561 (by decide +kernel) rfl
theorem wd562 : Cond.methodLink "DecreePoolLaw" 46 ⟨"DecreePoolModel", "crash", "(I)I"⟩ ∈ WL := WL_t 562 (by decide +kernel) rfl
theorem wd563 : Cond.instanceMethod ⟨"DecreePoolModel", "crash", "(I)I"⟩ ∈ WL := WL_t 563 (by decide +kernel) rfl
theorem wd564 : Cond.selects "DecreePoolModel" ⟨"DecreePoolModel", "crash", "(I)I"⟩ ⟨"DecreePoolModel", "crash", "(I)I"⟩ ∈ WL := WL_t 564 (by decide +kernel) rfl
theorem wd565 : Cond.code ⟨"DecreePoolModel", "crash", "(I)I"⟩ prog_7_method_23_code 2 (Option.some .int) ∈ WL := WL_t 565 (by decide +kernel) rfl
theorem wd566 : Cond.methodLink "DecreePoolModel" 143 ⟨"DecreePoolModel", "up", "()I"⟩ ∈ WL := WL_t 566 (by decide +kernel) rfl
theorem wd568 : Cond.instanceMethod ⟨"DecreePoolModel", "up", "()I"⟩ ∈ WL := WL_t 568 (by decide +kernel) rfl
theorem wd569 : Cond.code ⟨"DecreePoolModel", "up", "()I"⟩ prog_7_method_22_code 3 (Option.some .int) ∈ WL := WL_t 569 (by decide +kernel) rfl
theorem wd570 : Cond.methodLink "DecreePoolLaw" 50 ⟨"DecreePoolModel", "restart", "(I)I"⟩ ∈ WL := WL_t 570 (by decide +kernel) rfl
theorem wd571 : Cond.instanceMethod ⟨"DecreePoolModel", "restart", "(I)I"⟩ ∈ WL := WL_t 571 (by decide +kernel) rfl
theorem wd572 : Cond.selects "DecreePoolModel" ⟨"DecreePoolModel", "restart", "(I)I"⟩ ⟨"DecreePoolModel", "restart", "(I)I"⟩ ∈ WL := WL_t 572 (by decide +kernel) rfl
theorem wd573 : Cond.code ⟨"DecreePoolModel", "restart", "(I)I"⟩ prog_7_method_24_code 4 (Option.some .int) ∈ WL := WL_t 573 (by decide +kernel) rfl
theorem wd574 : Cond.methodLink "DecreePoolLaw" 55 ⟨"DecreePoolModel", "tell", "(II)I"⟩ ∈ WL := WL_t 574 (by decide +kernel) rfl
theorem wd575 : Cond.instanceMethod ⟨"DecreePoolModel", "tell", "(II)I"⟩ ∈ WL := WL_t 575 (by decide +kernel) rfl
theorem wd576 : Cond.selects "DecreePoolModel" ⟨"DecreePoolModel", "tell", "(II)I"⟩ ⟨"DecreePoolModel", "tell", "(II)I"⟩ ∈ WL := WL_t 576 (by decide +kernel) rfl
theorem wd577 : Cond.code ⟨"DecreePoolModel", "tell", "(II)I"⟩ prog_7_method_25_code 3 (Option.some .int) ∈ WL := WL_t 577 (by decide +kernel) rfl
theorem wd578 : Cond.methodLink "DecreePoolLaw" 59 ⟨"DecreePoolModel", "learned", "(II)I"⟩ ∈ WL := WL_t 578 (by decide +kernel) rfl
theorem wd579 : Cond.instanceMethod ⟨"DecreePoolModel", "learned", "(II)I"⟩ ∈ WL := WL_t 579 (by decide +kernel) rfl
theorem wd580 : Cond.selects "DecreePoolModel" ⟨"DecreePoolModel", "learned", "(II)I"⟩ ⟨"DecreePoolModel", "learned", "(II)I"⟩ ∈ WL := WL_t 580 (by decide +kernel) rfl
theorem wd581 : Cond.code ⟨"DecreePoolModel", "learned", "(II)I"⟩ prog_7_method_26_code 3 (Option.some .int) ∈ WL := WL_t 581 (by decide +kernel) rfl
theorem wd582 : Cond.methodLink "DecreePoolLaw" 64 ⟨"DecreePoolModel", "acceptor", "(III)I"⟩ ∈ WL := WL_t 582 (by decide +kernel) rfl
theorem wd583 : Cond.instanceMethod ⟨"DecreePoolModel", "acceptor", "(III)I"⟩ ∈ WL := WL_t 583 (by decide +kernel) rfl
theorem wd584 : Cond.selects "DecreePoolModel" ⟨"DecreePoolModel", "acceptor", "(III)I"⟩ ⟨"DecreePoolModel", "acceptor", "(III)I"⟩ ∈ WL := WL_t 584 (by decide +kernel) rfl
theorem wd585 : Cond.code ⟨"DecreePoolModel", "acceptor", "(III)I"⟩ prog_7_method_27_code 5 (Option.some .int) ∈ WL := WL_t 585 (by decide +kernel) rfl
theorem wd586 : Cond.methodLink "DecreePoolLaw" 68 ⟨"DecreePoolModel", "proposer", "(III)I"⟩ ∈ WL := WL_t 586 (by decide +kernel) rfl
theorem wd587 : Cond.instanceMethod ⟨"DecreePoolModel", "proposer", "(III)I"⟩ ∈ WL := WL_t 587 (by decide +kernel) rfl
theorem wd588 : Cond.selects "DecreePoolModel" ⟨"DecreePoolModel", "proposer", "(III)I"⟩ ⟨"DecreePoolModel", "proposer", "(III)I"⟩ ∈ WL := WL_t 588 (by decide +kernel) rfl
theorem wd589 : Cond.code ⟨"DecreePoolModel", "proposer", "(III)I"⟩ prog_7_method_28_code 6 (Option.some .int) ∈ WL := WL_t 589 (by decide +kernel) rfl
theorem wd590 : Cond.methodLink "DecreePoolLaw" 72 ⟨"DecreePoolModel", "heard", "(III)I"⟩ ∈ WL := WL_t 590 (by decide +kernel) rfl
theorem wd591 : Cond.instanceMethod ⟨"DecreePoolModel", "heard", "(III)I"⟩ ∈ WL := WL_t 591 (by decide +kernel) rfl
theorem wd592 : Cond.selects "DecreePoolModel" ⟨"DecreePoolModel", "heard", "(III)I"⟩ ⟨"DecreePoolModel", "heard", "(III)I"⟩ ∈ WL := WL_t 592 (by decide +kernel) rfl
theorem wd593 : Cond.code ⟨"DecreePoolModel", "heard", "(III)I"⟩ prog_7_method_29_code 4 (Option.some .int) ∈ WL := WL_t 593 (by decide +kernel) rfl
theorem wd594 : Cond.methodLink "DecreePoolLaw" 76 ⟨"DecreePoolModel", "message", "(II)I"⟩ ∈ WL := WL_t 594 (by decide +kernel) rfl
theorem wd595 : Cond.instanceMethod ⟨"DecreePoolModel", "message", "(II)I"⟩ ∈ WL := WL_t 595 (by decide +kernel) rfl
theorem wd596 : Cond.selects "DecreePoolModel" ⟨"DecreePoolModel", "message", "(II)I"⟩ ⟨"DecreePoolModel", "message", "(II)I"⟩ ∈ WL := WL_t 596 (by decide +kernel) rfl
theorem wd597 : Cond.code ⟨"DecreePoolModel", "message", "(II)I"⟩ prog_7_method_30_code 3 (Option.some .int) ∈ WL := WL_t 597 (by decide +kernel) rfl
theorem wd598 : Cond.methodLink "DecreePoolLaw" 80 ⟨"DecreePoolModel", "chosen", "(I)I"⟩ ∈ WL := WL_t 598 (by decide +kernel) rfl
theorem wd599 : Cond.instanceMethod ⟨"DecreePoolModel", "chosen", "(I)I"⟩ ∈ WL := WL_t 599 (by decide +kernel) rfl
theorem wd600 : Cond.selects "DecreePoolModel" ⟨"DecreePoolModel", "chosen", "(I)I"⟩ ⟨"DecreePoolModel", "chosen", "(I)I"⟩ ∈ WL := WL_t 600 (by decide +kernel) rfl
theorem wd601 : Cond.code ⟨"DecreePoolModel", "chosen", "(I)I"⟩ prog_7_method_31_code 6 (Option.some .int) ∈ WL := WL_t 601 (by decide +kernel) rfl
theorem wd602 : Cond.methodLink "DecreePoolLaw" 84 ⟨"DecreePoolModel", "prefix", "(I)I"⟩ ∈ WL := WL_t 602 (by decide +kernel) rfl
theorem wd603 : Cond.instanceMethod ⟨"DecreePoolModel", "prefix", "(I)I"⟩ ∈ WL := WL_t 603 (by decide +kernel) rfl
theorem wd604 : Cond.selects "DecreePoolModel" ⟨"DecreePoolModel", "prefix", "(I)I"⟩ ⟨"DecreePoolModel", "prefix", "(I)I"⟩ ∈ WL := WL_t 604 (by decide +kernel) rfl
theorem wd605 : Cond.code ⟨"DecreePoolModel", "prefix", "(I)I"⟩ prog_7_method_32_code 3 (Option.some .int) ∈ WL := WL_t 605 (by decide +kernel) rfl
theorem wd606 : Cond.methodLink "DecreePoolLaw" 89 ⟨"DecreePoolModel", "applied", "(I)J"⟩ ∈ WL := WL_t 606 (by decide +kernel) rfl
theorem wd607 : Cond.instanceMethod ⟨"DecreePoolModel", "applied", "(I)J"⟩ ∈ WL := WL_t 607 (by decide +kernel) rfl
theorem wd608 : Cond.selects "DecreePoolModel" ⟨"DecreePoolModel", "applied", "(I)J"⟩ ⟨"DecreePoolModel", "applied", "(I)J"⟩ ∈ WL := WL_t 608 (by decide +kernel) rfl
theorem wd609 : Cond.code ⟨"DecreePoolModel", "applied", "(I)J"⟩ prog_7_method_33_code 7 (Option.some .long) ∈ WL := WL_t 609 (by decide +kernel) rfl
theorem wd610 : Cond.methodLink "DecreePoolModel" 146 ⟨"DecreePoolModel", "prefix", "(I)I"⟩ ∈ WL := WL_t 610 (by decide +kernel) rfl
theorem wd611 : Cond.constantLong "DecreePoolModel" 149 2 ∈ WL := WL_t 611 (by decide +kernel) rfl
theorem wd612 : Cond.methodLink "DecreePoolLaw" 93 ⟨"DecreePoolModel", "count", "(I)I"⟩ ∈ WL := WL_t 612 (by decide +kernel) rfl
theorem wd613 : Cond.instanceMethod ⟨"DecreePoolModel", "count", "(I)I"⟩ ∈ WL := WL_t 613 (by decide +kernel) rfl
theorem wd614 : Cond.selects "DecreePoolModel" ⟨"DecreePoolModel", "count", "(I)I"⟩ ⟨"DecreePoolModel", "count", "(I)I"⟩ ∈ WL := WL_t 614 (by decide +kernel) rfl
theorem wd615 : Cond.code ⟨"DecreePoolModel", "count", "(I)I"⟩ prog_7_method_34_code 4 (Option.some .int) ∈ WL := WL_t 615 (by decide +kernel) rfl
theorem uDecreePool_in : ∀ w ∈ u_ws RDecreePool TDecreePool 9, w ∈ WL := by
  intro w hw
  obtain ⟨j, hj, rfl⟩ := List.mem_map.mp hw
  have hj := List.mem_range.mp hj
  rcases (show j = 0 ∨ j = 1 ∨ j = 2 ∨ j = 3 ∨ j = 4 ∨ j = 5 ∨ j = 6 ∨ j = 7 ∨ j = 8 by omega) with rfl | rfl | rfl | rfl | rfl | rfl | rfl | rfl | rfl
  · exact wd114
  · exact wd116
  · exact wd118
  · exact wd120
  · exact wd122
  · exact wd124
  · exact wd126
  · exact wd128
  · exact wd130
theorem uPool_in : ∀ w ∈ u_ws RPool TPool 3, w ∈ WL := by
  intro w hw
  obtain ⟨j, hj, rfl⟩ := List.mem_map.mp hw
  have hj := List.mem_range.mp hj
  rcases (show j = 0 ∨ j = 1 ∨ j = 2 by omega) with rfl | rfl | rfl
  · exact wd29
  · exact wd31
  · exact wd33
theorem uProposers_in : ∀ w ∈ u_ws RProposers TProposers 6, w ∈ WL := by
  intro w hw
  obtain ⟨j, hj, rfl⟩ := List.mem_map.mp hw
  have hj := List.mem_range.mp hj
  rcases (show j = 0 ∨ j = 1 ∨ j = 2 ∨ j = 3 ∨ j = 4 ∨ j = 5 by omega) with rfl | rfl | rfl | rfl | rfl | rfl
  · exact wd52
  · exact wd54
  · exact wd56
  · exact wd58
  · exact wd60
  · exact wd62
theorem uAcceptors_in : ∀ w ∈ u_ws RAcceptors TAcceptors 5, w ∈ WL := by
  intro w hw
  obtain ⟨j, hj, rfl⟩ := List.mem_map.mp hw
  have hj := List.mem_range.mp hj
  rcases (show j = 0 ∨ j = 1 ∨ j = 2 ∨ j = 3 ∨ j = 4 by omega) with rfl | rfl | rfl | rfl | rfl
  · exact wd77
  · exact wd79
  · exact wd81
  · exact wd83
  · exact wd85
theorem uLearners_in : ∀ w ∈ u_ws RLearners TLearners 3, w ∈ WL := by
  intro w hw
  obtain ⟨j, hj, rfl⟩ := List.mem_map.mp hw
  have hj := List.mem_range.mp hj
  rcases (show j = 0 ∨ j = 1 ∨ j = 2 by omega) with rfl | rfl | rfl
  · exact wd98
  · exact wd100
  · exact wd102
theorem uModel_in : ∀ w ∈ u_ws RModel TModel 25, w ∈ WL := by
  intro w hw
  obtain ⟨j, hj, rfl⟩ := List.mem_map.mp hw
  have hj := List.mem_range.mp hj
  rcases (show j = 0 ∨ j = 1 ∨ j = 2 ∨ j = 3 ∨ j = 4 ∨ j = 5 ∨ j = 6 ∨ j = 7 ∨ j = 8 ∨ j = 9 ∨ j = 10 ∨ j = 11 ∨ j = 12 ∨ j = 13 ∨ j = 14 ∨ j = 15 ∨ j = 16 ∨ j = 17 ∨ j = 18 ∨ j = 19 ∨ j = 20 ∨ j = 21 ∨ j = 22 ∨ j = 23 ∨ j = 24 by omega) with rfl | rfl | rfl | rfl | rfl | rfl | rfl | rfl | rfl | rfl | rfl | rfl | rfl | rfl | rfl | rfl | rfl | rfl | rfl | rfl | rfl | rfl | rfl | rfl | rfl
  · exact wd430
  · exact wd432
  · exact wd434
  · exact wd436
  · exact wd438
  · exact wd440
  · exact wd442
  · exact wd444
  · exact wd446
  · exact wd448
  · exact wd450
  · exact wd452
  · exact wd454
  · exact wd456
  · exact wd458
  · exact wd460
  · exact wd462
  · exact wd464
  · exact wd466
  · exact wd468
  · exact wd470
  · exact wd472
  · exact wd474
  · exact wd476
  · exact wd478
theorem sl_DecreePool_hasSeat : Cond.selects "DecreePool" ⟨"DecreePool", "hasSeat", "(II)Z"⟩ ⟨"DecreePool", "hasSeat", "(II)Z"⟩ ∈ WL := WL_s (q := (⟨"DecreePool", "hasSeat", "(II)Z"⟩, 9)) (List.mem_append_left _ (List.mem_of_getElem? (i := 0) rfl))
theorem sl_DecreePool_hasNode : Cond.selects "DecreePool" ⟨"DecreePool", "hasNode", "(I)Z"⟩ ⟨"DecreePool", "hasNode", "(I)Z"⟩ ∈ WL := WL_s (q := (⟨"DecreePool", "hasNode", "(I)Z"⟩, 9)) (List.mem_append_left _ (List.mem_of_getElem? (i := 1) rfl))
theorem sl_DecreePool_hasSlot : Cond.selects "DecreePool" ⟨"DecreePool", "hasSlot", "(I)Z"⟩ ⟨"DecreePool", "hasSlot", "(I)Z"⟩ ∈ WL := WL_s (q := (⟨"DecreePool", "hasSlot", "(I)Z"⟩, 9)) (List.mem_append_left _ (List.mem_of_getElem? (i := 2) rfl))
theorem sl_DecreePool_isUp : Cond.selects "DecreePool" ⟨"DecreePool", "isUp", "(I)Z"⟩ ⟨"DecreePool", "isUp", "(I)Z"⟩ ∈ WL := WL_s (q := (⟨"DecreePool", "isUp", "(I)Z"⟩, 9)) (List.mem_append_left _ (List.mem_of_getElem? (i := 3) rfl))
theorem sl_DecreePool_seatOf : Cond.selects "DecreePool" ⟨"DecreePool", "seatOf", "(II)I"⟩ ⟨"DecreePool", "seatOf", "(II)I"⟩ ∈ WL := WL_s (q := (⟨"DecreePool", "seatOf", "(II)I"⟩, 9)) (List.mem_append_left _ (List.mem_of_getElem? (i := 4) rfl))
theorem sl_DecreePool_sendToAll : Cond.selects "DecreePool" ⟨"DecreePool", "sendToAll", "(IIIII)V"⟩ ⟨"DecreePool", "sendToAll", "(IIIII)V"⟩ ∈ WL := WL_s (q := (⟨"DecreePool", "sendToAll", "(IIIII)V"⟩, 9)) (List.mem_append_left _ (List.mem_of_getElem? (i := 5) rfl))
theorem sl_Pool_leastEmpty : Cond.selects "DecreePool$Pool" ⟨"DecreePool$Pool", "leastEmpty", "()I"⟩ ⟨"DecreePool$Pool", "leastEmpty", "()I"⟩ ∈ WL := WL_s (q := (⟨"DecreePool$Pool", "leastEmpty", "()I"⟩, 3)) (List.mem_append_left _ (List.mem_of_getElem? (i := 6) rfl))
theorem sl_DecreePool_isDeliverable : Cond.selects "DecreePool" ⟨"DecreePool", "isDeliverable", "(I)Z"⟩ ⟨"DecreePool", "isDeliverable", "(I)Z"⟩ ∈ WL := WL_s (q := (⟨"DecreePool", "isDeliverable", "(I)Z"⟩, 9)) (List.mem_append_left _ (List.mem_of_getElem? (i := 7) rfl))
theorem sl_DecreePool_isAnsweredToAll : Cond.selects "DecreePool" ⟨"DecreePool", "isAnsweredToAll", "(I)Z"⟩ ⟨"DecreePool", "isAnsweredToAll", "(I)Z"⟩ ∈ WL := WL_s (q := (⟨"DecreePool", "isAnsweredToAll", "(I)Z"⟩, 9)) (List.mem_append_left _ (List.mem_of_getElem? (i := 8) rfl))
theorem sl_Proposers_awaits : Cond.selects "DecreePool$Proposers" ⟨"DecreePool$Proposers", "awaits", "(II)Z"⟩ ⟨"DecreePool$Proposers", "awaits", "(II)Z"⟩ ∈ WL := WL_s (q := (⟨"DecreePool$Proposers", "awaits", "(II)Z"⟩, 6)) (List.mem_append_left _ (List.mem_of_getElem? (i := 9) rfl))
theorem sl_DecreePool_handOver : Cond.selects "DecreePool" ⟨"DecreePool", "handOver", "(I)I"⟩ ⟨"DecreePool", "handOver", "(I)I"⟩ ∈ WL := WL_s (q := (⟨"DecreePool", "handOver", "(I)I"⟩, 9)) (List.mem_append_left _ (List.mem_of_getElem? (i := 10) rfl))
theorem sl_Learners_nodesHeardWith : Cond.selects "DecreePool$Learners" ⟨"DecreePool$Learners", "nodesHeardWith", "(II)I"⟩ ⟨"DecreePool$Learners", "nodesHeardWith", "(II)I"⟩ ∈ WL := WL_s (q := (⟨"DecreePool$Learners", "nodesHeardWith", "(II)I"⟩, 3)) (List.mem_append_left _ (List.mem_of_getElem? (i := 11) rfl))
theorem sl_DecreePool_leastDeliverable : Cond.selects "DecreePool" ⟨"DecreePool", "leastDeliverable", "()I"⟩ ⟨"DecreePool", "leastDeliverable", "()I"⟩ ∈ WL := WL_s (q := (⟨"DecreePool", "leastDeliverable", "()I"⟩, 9)) (List.mem_append_left _ (List.mem_of_getElem? (i := 12) rfl))
theorem sl_Acceptors_acceptorsOf : Cond.selects "DecreePool$Acceptors" ⟨"DecreePool$Acceptors", "acceptorsOf", "(II)I"⟩ ⟨"DecreePool$Acceptors", "acceptorsOf", "(II)I"⟩ ∈ WL := WL_s (q := (⟨"DecreePool$Acceptors", "acceptorsOf", "(II)I"⟩, 5)) (List.mem_append_left _ (List.mem_of_getElem? (i := 13) rfl))
theorem sl_DecreePool_prefixLength : Cond.selects "DecreePool" ⟨"DecreePool", "prefixLength", "(I)I"⟩ ⟨"DecreePool", "prefixLength", "(I)I"⟩ ∈ WL := WL_s (q := (⟨"DecreePool", "prefixLength", "(I)I"⟩, 9)) (List.mem_append_left _ (List.mem_of_getElem? (i := 14) rfl))
theorem sl_Model_isNode : Cond.selects "DecreePoolModel" ⟨"DecreePoolModel", "isNode", "(I)Z"⟩ ⟨"DecreePoolModel", "isNode", "(I)Z"⟩ ∈ WL := WL_s (q := (⟨"DecreePoolModel", "isNode", "(I)Z"⟩, 25)) (List.mem_append_left _ (List.mem_of_getElem? (i := 15) rfl))
theorem sl_Model_isSlot : Cond.selects "DecreePoolModel" ⟨"DecreePoolModel", "isSlot", "(I)Z"⟩ ⟨"DecreePoolModel", "isSlot", "(I)Z"⟩ ∈ WL := WL_s (q := (⟨"DecreePoolModel", "isSlot", "(I)Z"⟩, 25)) (List.mem_append_right _ (List.mem_of_getElem? (i := 0) rfl))
theorem sl_Model_empty : Cond.selects "DecreePoolModel" ⟨"DecreePoolModel", "empty", "()I"⟩ ⟨"DecreePoolModel", "empty", "()I"⟩ ∈ WL := WL_s (q := (⟨"DecreePoolModel", "empty", "()I"⟩, 25)) (List.mem_append_right _ (List.mem_of_getElem? (i := 1) rfl))
theorem sl_Model_sendAll : Cond.selects "DecreePoolModel" ⟨"DecreePoolModel", "sendAll", "(IIIII)V"⟩ ⟨"DecreePoolModel", "sendAll", "(IIIII)V"⟩ ∈ WL := WL_s (q := (⟨"DecreePoolModel", "sendAll", "(IIIII)V"⟩, 25)) (List.mem_append_right _ (List.mem_of_getElem? (i := 2) rfl))
theorem sl_Model_send : Cond.selects "DecreePoolModel" ⟨"DecreePoolModel", "send", "(IIIIIII)I"⟩ ⟨"DecreePoolModel", "send", "(IIIIIII)I"⟩ ∈ WL := WL_s (q := (⟨"DecreePoolModel", "send", "(IIIIIII)I"⟩, 25)) (List.mem_append_right _ (List.mem_of_getElem? (i := 3) rfl))
theorem sl_Model_isMessage : Cond.selects "DecreePoolModel" ⟨"DecreePoolModel", "isMessage", "(I)Z"⟩ ⟨"DecreePoolModel", "isMessage", "(I)Z"⟩ ∈ WL := WL_s (q := (⟨"DecreePoolModel", "isMessage", "(I)Z"⟩, 25)) (List.mem_append_right _ (List.mem_of_getElem? (i := 4) rfl))
theorem sl_Model_sends : Cond.selects "DecreePoolModel" ⟨"DecreePoolModel", "sends", "(I)I"⟩ ⟨"DecreePoolModel", "sends", "(I)I"⟩ ∈ WL := WL_s (q := (⟨"DecreePoolModel", "sends", "(I)I"⟩, 25)) (List.mem_append_right _ (List.mem_of_getElem? (i := 5) rfl))
theorem sl_Model_isAwaited : Cond.selects "DecreePoolModel" ⟨"DecreePoolModel", "isAwaited", "(I)Z"⟩ ⟨"DecreePoolModel", "isAwaited", "(I)Z"⟩ ∈ WL := WL_s (q := (⟨"DecreePoolModel", "isAwaited", "(I)Z"⟩, 25)) (List.mem_append_right _ (List.mem_of_getElem? (i := 6) rfl))
theorem sl_Model_withPromise : Cond.selects "DecreePoolModel" ⟨"DecreePoolModel", "withPromise", "(I)I"⟩ ⟨"DecreePoolModel", "withPromise", "(I)I"⟩ ∈ WL := WL_s (q := (⟨"DecreePoolModel", "withPromise", "(I)I"⟩, 25)) (List.mem_append_right _ (List.mem_of_getElem? (i := 7) rfl))
theorem sl_Model_isMajority : Cond.selects "DecreePoolModel" ⟨"DecreePoolModel", "isMajority", "(I)Z"⟩ ⟨"DecreePoolModel", "isMajority", "(I)Z"⟩ ∈ WL := WL_s (q := (⟨"DecreePoolModel", "isMajority", "(I)Z"⟩, 25)) (List.mem_append_right _ (List.mem_of_getElem? (i := 8) rfl))
theorem sl_Model_take : Cond.selects "DecreePoolModel" ⟨"DecreePoolModel", "take", "(II)V"⟩ ⟨"DecreePoolModel", "take", "(II)V"⟩ ∈ WL := WL_s (q := (⟨"DecreePoolModel", "take", "(II)V"⟩, 25)) (List.mem_append_right _ (List.mem_of_getElem? (i := 9) rfl))
theorem sl_Model_promise : Cond.selects "DecreePoolModel" ⟨"DecreePoolModel", "promise", "(I)V"⟩ ⟨"DecreePoolModel", "promise", "(I)V"⟩ ∈ WL := WL_s (q := (⟨"DecreePoolModel", "promise", "(I)V"⟩, 25)) (List.mem_append_right _ (List.mem_of_getElem? (i := 10) rfl))
theorem sl_Model_hear : Cond.selects "DecreePoolModel" ⟨"DecreePoolModel", "hear", "(I)V"⟩ ⟨"DecreePoolModel", "hear", "(I)V"⟩ ∈ WL := WL_s (q := (⟨"DecreePoolModel", "hear", "(I)V"⟩, 25)) (List.mem_append_right _ (List.mem_of_getElem? (i := 11) rfl))
theorem sl_Model_learn : Cond.selects "DecreePoolModel" ⟨"DecreePoolModel", "learn", "(III)V"⟩ ⟨"DecreePoolModel", "learn", "(III)V"⟩ ∈ WL := WL_s (q := (⟨"DecreePoolModel", "learn", "(III)V"⟩, 25)) (List.mem_append_right _ (List.mem_of_getElem? (i := 12) rfl))
theorem sl_Model_up : Cond.selects "DecreePoolModel" ⟨"DecreePoolModel", "up", "()I"⟩ ⟨"DecreePoolModel", "up", "()I"⟩ ∈ WL := WL_s (q := (⟨"DecreePoolModel", "up", "()I"⟩, 25)) (List.mem_append_right _ (List.mem_of_getElem? (i := 13) rfl))
