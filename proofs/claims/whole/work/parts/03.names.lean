/-! words of the tables; the classes; their fields -/
def WS : List Cond := lw_tbl.filter goodWord
theorem gW : GoodIn WS WS := fun w hw => ⟨hw, good_of_word (List.mem_filter.mp hw).2⟩
theorem ms {w : Cond} {i : Nat} (h : tables_1[i]? = some w) (hg : goodWord w = true) : w ∈ WS := List.mem_filter.mpr ⟨List.mem_append_right _ (List.mem_of_getElem? h), hg⟩
theorem mp {w : Cond} {i : Nat} (h : (k2_sels lw_privs)[i]? = some w) (hg : goodWord w = true) : w ∈ WS := List.mem_filter.mpr ⟨List.mem_append_left _ (List.mem_of_getElem? h), hg⟩
theorem mls {ws : List Cond} (ps : List Nat) (hp : ps.map (fun i => tables_1[i]?) = ws.map some) (hg : ws.all goodWord = true) : ∀ w ∈ ws, w ∈ WS := by
  intro w hw
  have h1 : some w ∈ ps.map (fun i => tables_1[i]?) := by rw [hp]; exact List.mem_map.mpr ⟨w, hw, rfl⟩
  obtain ⟨i, -, hi⟩ := List.mem_map.mp h1
  exact ms hi (List.all_eq_true.mp hg w hw)
def F_LB : u_T := fun k => match k with
  | 0 => ("LeasedBuilds", "flight", "LLeasedBuilds$Flight;", true)
  | 1 => ("LeasedBuilds", "client", "LLeasedBuilds$Client;", true)
  | 2 => ("LeasedBuilds", "server", "LLeasedBuilds$Server;", true)
  | 3 => ("LeasedBuilds", "workers", "[LLeasedBuilds$Worker;", true)
  | 4 => ("LeasedBuilds", "time", "I", false)
  | _ => ("LeasedBuilds", "refused", "I", false)
def t_LB : Nat → FieldType := fun k => match k with
  | 0 => .object "LeasedBuilds$Flight"
  | 1 => .object "LeasedBuilds$Client"
  | 2 => .object "LeasedBuilds$Server"
  | 3 => .array (.object "LeasedBuilds$Worker")
  | 4 => .int
  | _ => .int
theorem n_LB : ∀ a, a < 6 → ∀ b, b < 6 → a ≠ b → (F_LB a).2.1 ≠ (F_LB b).2.1 := by decide +kernel
theorem t_LB_ok : ∀ k, k < 6 → parseFieldDescriptor (F_LB k).2.2.1 = some (t_LB k) := by decide +kernel
def F_Key : u_T := fun k => match k with
  | 0 => ("LeasedBuilds$Key", "program", "J", false)
  | 1 => ("LeasedBuilds$Key", "a", "I", false)
  | _ => ("LeasedBuilds$Key", "b", "I", false)
def t_Key : Nat → FieldType := fun k => match k with
  | 0 => .long
  | 1 => .int
  | _ => .int
theorem n_Key : ∀ a, a < 3 → ∀ b, b < 3 → a ≠ b → (F_Key a).2.1 ≠ (F_Key b).2.1 := by decide +kernel
theorem t_Key_ok : ∀ k, k < 3 → parseFieldDescriptor (F_Key k).2.2.1 = some (t_Key k) := by decide +kernel
def F_Message : u_T := fun k => match k with
  | 0 => ("LeasedBuilds$Message", "key", "LLeasedBuilds$Key;", true)
  | 1 => ("LeasedBuilds$Message", "kind", "I", false)
  | 2 => ("LeasedBuilds$Message", "receiver", "I", false)
  | 3 => ("LeasedBuilds$Message", "item", "I", false)
  | 4 => ("LeasedBuilds$Message", "lacksA", "Z", false)
  | 5 => ("LeasedBuilds$Message", "lacksB", "Z", false)
  | 6 => ("LeasedBuilds$Message", "digest", "I", false)
  | 7 => ("LeasedBuilds$Message", "first", "I", false)
  | _ => ("LeasedBuilds$Message", "second", "I", false)
def t_Message : Nat → FieldType := fun k => match k with
  | 0 => .object "LeasedBuilds$Key"
  | 1 => .int
  | 2 => .int
  | 3 => .int
  | 4 => .boolean
  | 5 => .boolean
  | 6 => .int
  | 7 => .int
  | _ => .int
theorem n_Message : ∀ a, a < 9 → ∀ b, b < 9 → a ≠ b → (F_Message a).2.1 ≠ (F_Message b).2.1 := by decide +kernel
theorem t_Message_ok : ∀ k, k < 9 → parseFieldDescriptor (F_Message k).2.2.1 = some (t_Message k) := by decide +kernel
def F_Flight : u_T := fun k => match k with
  | 0 => ("LeasedBuilds$Flight", "rows", "[LLeasedBuilds$Message;", true)
  | 1 => ("LeasedBuilds$Flight", "lost", "LLeasedBuilds$Message;", true)
  | 2 => ("LeasedBuilds$Flight", "taken", "LLeasedBuilds$Message;", false)
  | 3 => ("LeasedBuilds$Flight", "size", "I", false)
  | _ => ("LeasedBuilds$Flight", "sent", "I", false)
def t_Flight : Nat → FieldType := fun k => match k with
  | 0 => .array (.object "LeasedBuilds$Message")
  | 1 => .object "LeasedBuilds$Message"
  | 2 => .object "LeasedBuilds$Message"
  | 3 => .int
  | _ => .int
theorem n_Flight : ∀ a, a < 5 → ∀ b, b < 5 → a ≠ b → (F_Flight a).2.1 ≠ (F_Flight b).2.1 := by decide +kernel
theorem t_Flight_ok : ∀ k, k < 5 → parseFieldDescriptor (F_Flight k).2.2.1 = some (t_Flight k) := by decide +kernel
def F_Client : u_T := fun k => match k with
  | 0 => ("LeasedBuilds$Client", "flight", "LLeasedBuilds$Flight;", true)
  | 1 => ("LeasedBuilds$Client", "known", "[Z", true)
  | 2 => ("LeasedBuilds$Client", "contents", "[I", true)
  | 3 => ("LeasedBuilds$Client", "programs", "[J", true)
  | 4 => ("LeasedBuilds$Client", "as", "[I", true)
  | 5 => ("LeasedBuilds$Client", "bs", "[I", true)
  | 6 => ("LeasedBuilds$Client", "nextAsk", "[I", true)
  | 7 => ("LeasedBuilds$Client", "scratch", "LLeasedBuilds$Key;", true)
  | _ => ("LeasedBuilds$Client", "items", "I", false)
def t_Client : Nat → FieldType := fun k => match k with
  | 0 => .object "LeasedBuilds$Flight"
  | 1 => .array .boolean
  | 2 => .array .int
  | 3 => .array .long
  | 4 => .array .int
  | 5 => .array .int
  | 6 => .array .int
  | 7 => .object "LeasedBuilds$Key"
  | _ => .int
theorem n_Client : ∀ a, a < 9 → ∀ b, b < 9 → a ≠ b → (F_Client a).2.1 ≠ (F_Client b).2.1 := by decide +kernel
theorem t_Client_ok : ∀ k, k < 9 → parseFieldDescriptor (F_Client k).2.2.1 = some (t_Client k) := by decide +kernel
def F_Disk : u_T := fun k => match k with
  | 0 => ("LeasedBuilds$Disk", "blobDigests", "[I", true)
  | 1 => ("LeasedBuilds$Disk", "blobContents", "[I", true)
  | 2 => ("LeasedBuilds$Disk", "resultKeys", "[LLeasedBuilds$Key;", true)
  | 3 => ("LeasedBuilds$Disk", "resultDigests", "[I", true)
  | 4 => ("LeasedBuilds$Disk", "blobs", "I", false)
  | _ => ("LeasedBuilds$Disk", "results", "I", false)
def t_Disk : Nat → FieldType := fun k => match k with
  | 0 => .array .int
  | 1 => .array .int
  | 2 => .array (.object "LeasedBuilds$Key")
  | 3 => .array .int
  | 4 => .int
  | _ => .int
theorem n_Disk : ∀ a, a < 6 → ∀ b, b < 6 → a ≠ b → (F_Disk a).2.1 ≠ (F_Disk b).2.1 := by decide +kernel
theorem t_Disk_ok : ∀ k, k < 6 → parseFieldDescriptor (F_Disk k).2.2.1 = some (t_Disk k) := by decide +kernel
def F_Queue : u_T := fun k => match k with
  | 0 => ("LeasedBuilds$Queue", "rows", "[LLeasedBuilds$Key;", true)
  | _ => ("LeasedBuilds$Queue", "size", "I", false)
def t_Queue : Nat → FieldType := fun k => match k with
  | 0 => .array (.object "LeasedBuilds$Key")
  | _ => .int
theorem n_Queue : ∀ a, a < 2 → ∀ b, b < 2 → a ≠ b → (F_Queue a).2.1 ≠ (F_Queue b).2.1 := by decide +kernel
theorem t_Queue_ok : ∀ k, k < 2 → parseFieldDescriptor (F_Queue k).2.2.1 = some (t_Queue k) := by decide +kernel
def F_Server : u_T := fun k => match k with
  | 0 => ("LeasedBuilds$Server", "flight", "LLeasedBuilds$Flight;", true)
  | 1 => ("LeasedBuilds$Server", "disk", "LLeasedBuilds$Disk;", true)
  | 2 => ("LeasedBuilds$Server", "queue", "LLeasedBuilds$Queue;", true)
  | 3 => ("LeasedBuilds$Server", "leases", "LLeasedBuilds$Leases;", true)
  | 4 => ("LeasedBuilds$Server", "length", "I", true)
  | 5 => ("LeasedBuilds$Server", "up", "Z", false)
  | 6 => ("LeasedBuilds$Server", "leasesGiven", "I", false)
  | 7 => ("LeasedBuilds$Server", "uploads", "I", false)
  | 8 => ("LeasedBuilds$Server", "hits", "I", false)
  | 9 => ("LeasedBuilds$Server", "duplicates", "I", false)
  | _ => ("LeasedBuilds$Server", "cuts", "I", false)
def t_Server : Nat → FieldType := fun k => match k with
  | 0 => .object "LeasedBuilds$Flight"
  | 1 => .object "LeasedBuilds$Disk"
  | 2 => .object "LeasedBuilds$Queue"
  | 3 => .object "LeasedBuilds$Leases"
  | 4 => .int
  | 5 => .boolean
  | 6 => .int
  | 7 => .int
  | 8 => .int
  | 9 => .int
  | _ => .int
theorem n_Server : ∀ a, a < 11 → ∀ b, b < 11 → a ≠ b → (F_Server a).2.1 ≠ (F_Server b).2.1 := by decide +kernel
theorem t_Server_ok : ∀ k, k < 11 → parseFieldDescriptor (F_Server k).2.2.1 = some (t_Server k) := by decide +kernel
def F_Leases : u_T := fun k => match k with
  | 0 => ("LeasedBuilds$Leases", "held", "[Z", true)
  | 1 => ("LeasedBuilds$Leases", "keys", "[LLeasedBuilds$Key;", true)
  | 2 => ("LeasedBuilds$Leases", "ends", "[I", true)
  | _ => ("LeasedBuilds$Leases", "latest", "I", false)
def t_Leases : Nat → FieldType := fun k => match k with
  | 0 => .array .boolean
  | 1 => .array (.object "LeasedBuilds$Key")
  | 2 => .array .int
  | _ => .int
theorem n_Leases : ∀ a, a < 4 → ∀ b, b < 4 → a ≠ b → (F_Leases a).2.1 ≠ (F_Leases b).2.1 := by decide +kernel
theorem t_Leases_ok : ∀ k, k < 4 → parseFieldDescriptor (F_Leases k).2.2.1 = some (t_Leases k) := by decide +kernel
def F_Worker : u_T := fun k => match k with
  | 0 => ("LeasedBuilds$Worker", "key", "LLeasedBuilds$Key;", true)
  | 1 => ("LeasedBuilds$Worker", "up", "Z", false)
  | 2 => ("LeasedBuilds$Worker", "busy", "Z", false)
  | 3 => ("LeasedBuilds$Worker", "done", "I", false)
  | 4 => ("LeasedBuilds$Worker", "x", "I", false)
  | 5 => ("LeasedBuilds$Worker", "y", "I", false)
  | _ => ("LeasedBuilds$Worker", "p", "I", false)
def t_Worker : Nat → FieldType := fun k => match k with
  | 0 => .object "LeasedBuilds$Key"
  | 1 => .boolean
  | 2 => .boolean
  | 3 => .int
  | 4 => .int
  | 5 => .int
  | _ => .int
theorem n_Worker : ∀ a, a < 7 → ∀ b, b < 7 → a ≠ b → (F_Worker a).2.1 ≠ (F_Worker b).2.1 := by decide +kernel
theorem t_Worker_ok : ∀ k, k < 7 → parseFieldDescriptor (F_Worker k).2.2.1 = some (t_Worker k) := by decide +kernel
def F_Md : u_T := fun k => match k with
  | 0 => ("LeasedBuildsModel", "workers", "I", false)
  | 1 => ("LeasedBuildsModel", "length", "I", false)
  | 2 => ("LeasedBuildsModel", "time", "I", false)
  | 3 => ("LeasedBuildsModel", "latest", "I", false)
  | 4 => ("LeasedBuildsModel", "down", "[Z", true)
  | 5 => ("LeasedBuildsModel", "items", "I", false)
  | 6 => ("LeasedBuildsModel", "built", "[Z", true)
  | 7 => ("LeasedBuildsModel", "program", "[J", true)
  | 8 => ("LeasedBuildsModel", "left", "[I", true)
  | 9 => ("LeasedBuildsModel", "right", "[I", true)
  | 10 => ("LeasedBuildsModel", "have", "[Z", true)
  | 11 => ("LeasedBuildsModel", "value", "[I", true)
  | 12 => ("LeasedBuildsModel", "sent", "[Z", true)
  | 13 => ("LeasedBuildsModel", "sentAt", "[I", true)
  | 14 => ("LeasedBuildsModel", "keys", "I", false)
  | 15 => ("LeasedBuildsModel", "keyProgram", "[J", true)
  | 16 => ("LeasedBuildsModel", "keyLeft", "[I", true)
  | 17 => ("LeasedBuildsModel", "keyRight", "[I", true)
  | 18 => ("LeasedBuildsModel", "done", "[Z", true)
  | 19 => ("LeasedBuildsModel", "outcome", "[I", true)
  | 20 => ("LeasedBuildsModel", "queued", "[I", true)
  | 21 => ("LeasedBuildsModel", "holder", "[I", true)
  | 22 => ("LeasedBuildsModel", "ends", "[I", true)
  | 23 => ("LeasedBuildsModel", "queueing", "I", false)
  | 24 => ("LeasedBuildsModel", "blobs", "I", false)
  | 25 => ("LeasedBuildsModel", "blob", "[I", true)
  | 26 => ("LeasedBuildsModel", "jobKey", "[I", true)
  | 27 => ("LeasedBuildsModel", "jobLeft", "[I", true)
  | 28 => ("LeasedBuildsModel", "jobRight", "[I", true)
  | 29 => ("LeasedBuildsModel", "jobDone", "[I", true)
  | 30 => ("LeasedBuildsModel", "x", "I", false)
  | 31 => ("LeasedBuildsModel", "y", "I", false)
  | 32 => ("LeasedBuildsModel", "p", "I", false)
  | 33 => ("LeasedBuildsModel", "births", "I", false)
  | 34 => ("LeasedBuildsModel", "sending", "I", false)
  | 35 => ("LeasedBuildsModel", "born", "[I", true)
  | 36 => ("LeasedBuildsModel", "kind", "[I", true)
  | 37 => ("LeasedBuildsModel", "to", "[I", true)
  | 38 => ("LeasedBuildsModel", "keyOf", "[I", true)
  | 39 => ("LeasedBuildsModel", "itemOf", "[I", true)
  | 40 => ("LeasedBuildsModel", "one", "[I", true)
  | 41 => ("LeasedBuildsModel", "two", "[I", true)
  | 42 => ("LeasedBuildsModel", "sum", "[I", true)
  | 43 => ("LeasedBuildsModel", "leases", "I", false)
  | 44 => ("LeasedBuildsModel", "uploads", "I", false)
  | 45 => ("LeasedBuildsModel", "hits", "I", false)
  | 46 => ("LeasedBuildsModel", "refused", "I", false)
  | 47 => ("LeasedBuildsModel", "duplicates", "I", false)
  | 48 => ("LeasedBuildsModel", "cuts", "I", false)
  | _ => ("LeasedBuildsModel", "writes", "I", false)
def t_Md : Nat → FieldType := fun k => match k with
  | 0 => .int
  | 1 => .int
  | 2 => .int
  | 3 => .int
  | 4 => .array .boolean
  | 5 => .int
  | 6 => .array .boolean
  | 7 => .array .long
  | 8 => .array .int
  | 9 => .array .int
  | 10 => .array .boolean
  | 11 => .array .int
  | 12 => .array .boolean
  | 13 => .array .int
  | 14 => .int
  | 15 => .array .long
  | 16 => .array .int
  | 17 => .array .int
  | 18 => .array .boolean
  | 19 => .array .int
  | 20 => .array .int
  | 21 => .array .int
  | 22 => .array .int
  | 23 => .int
  | 24 => .int
  | 25 => .array .int
  | 26 => .array .int
  | 27 => .array .int
  | 28 => .array .int
  | 29 => .array .int
  | 30 => .int
  | 31 => .int
  | 32 => .int
  | 33 => .int
  | 34 => .int
  | 35 => .array .int
  | 36 => .array .int
  | 37 => .array .int
  | 38 => .array .int
  | 39 => .array .int
  | 40 => .array .int
  | 41 => .array .int
  | 42 => .array .int
  | 43 => .int
  | 44 => .int
  | 45 => .int
  | 46 => .int
  | 47 => .int
  | 48 => .int
  | _ => .int
theorem n_Md : ∀ a, a < 50 → ∀ b, b < 50 → a ≠ b → (F_Md a).2.1 ≠ (F_Md b).2.1 := by decide +kernel
theorem t_Md_ok : ∀ k, k < 50 → parseFieldDescriptor (F_Md k).2.2.1 = some (t_Md k) := by decide +kernel
abbrev clX : List vw_C := [("LeasedBuilds", F_LB, 6), ("LeasedBuilds$Key", F_Key, 3), ("LeasedBuilds$Message", F_Message, 9), ("LeasedBuilds$Flight", F_Flight, 5), ("LeasedBuilds$Client", F_Client, 9), ("LeasedBuilds$Disk", F_Disk, 6), ("LeasedBuilds$Queue", F_Queue, 2), ("LeasedBuilds$Server", F_Server, 11), ("LeasedBuilds$Leases", F_Leases, 4), ("LeasedBuilds$Worker", F_Worker, 7), ("LeasedBuildsModel", F_Md, 50)]
abbrev tyX (dA : Nat → ClassId) : List (ClassId × FieldType) := [(dA 0, .int), (dA 1, .boolean), (dA 2, .long), (dA 3, .object "LeasedBuilds$Message"), (dA 4, .object "LeasedBuilds$Key"), (dA 5, .object "LeasedBuilds$Worker")]
theorem xc_LB : Xc WS clX 0 "LeasedBuilds" F_LB 6 := ⟨mls [319, 321, 323, 325, 327, 329] (by decide +kernel) (by decide +kernel), rfl, by decide⟩
theorem xc_Key : Xc WS clX 1 "LeasedBuilds$Key" F_Key 3 := ⟨mls [48, 50, 52] (by decide +kernel) (by decide +kernel), rfl, by decide⟩
theorem xc_Message : Xc WS clX 2 "LeasedBuilds$Message" F_Message 9 := ⟨mls [81, 83, 85, 87, 89, 91, 93, 95, 97] (by decide +kernel) (by decide +kernel), rfl, by decide⟩
theorem xc_Flight : Xc WS clX 3 "LeasedBuilds$Flight" F_Flight 5 := ⟨mls [107, 109, 111, 113, 115] (by decide +kernel) (by decide +kernel), rfl, by decide⟩
theorem xc_Client : Xc WS clX 4 "LeasedBuilds$Client" F_Client 9 := ⟨mls [136, 138, 140, 142, 144, 146, 148, 150, 152] (by decide +kernel) (by decide +kernel), rfl, by decide⟩
theorem xc_Disk : Xc WS clX 5 "LeasedBuilds$Disk" F_Disk 6 := ⟨mls [184, 186, 188, 190, 192, 194] (by decide +kernel) (by decide +kernel), rfl, by decide⟩
theorem xc_Queue : Xc WS clX 6 "LeasedBuilds$Queue" F_Queue 2 := ⟨mls [209, 211] (by decide +kernel) (by decide +kernel), rfl, by decide⟩
theorem xc_Server : Xc WS clX 7 "LeasedBuilds$Server" F_Server 11 := ⟨mls [256, 258, 260, 262, 264, 266, 268, 270, 272, 274, 276] (by decide +kernel) (by decide +kernel), rfl, by decide⟩
theorem xc_Leases : Xc WS clX 8 "LeasedBuilds$Leases" F_Leases 4 := ⟨mls [228, 230, 232, 234] (by decide +kernel) (by decide +kernel), rfl, by decide⟩
theorem xc_Worker : Xc WS clX 9 "LeasedBuilds$Worker" F_Worker 7 := ⟨mls [298, 300, 302, 304, 306, 308, 310] (by decide +kernel) (by decide +kernel), rfl, by decide⟩
theorem xc_Md : Xc WS clX 10 "LeasedBuildsModel" F_Md 50 := ⟨mls [771, 773, 775, 777, 779, 781, 783, 785, 787, 789, 791, 793, 795, 797, 799, 801, 803, 805, 807, 809, 811, 813, 815, 817, 819, 821, 823, 825, 827, 829, 831, 833, 835, 837, 839, 841, 843, 845, 847, 849, 851, 853, 855, 857, 859, 861, 863, 865, 867, 869] (by decide +kernel) (by decide +kernel), rfl, by decide⟩
def NL : List (String × Nat × MethodName × String) := [("LeasedBuilds$Flight", 17, ⟨"LeasedBuilds$Message", "<init>", "()V"⟩, "LeasedBuilds"), ("LeasedBuilds$Message", 11, ⟨"LeasedBuilds$Key", "<init>", "()V"⟩, "LeasedBuilds"), ("LeasedBuilds$Client", 34, ⟨"LeasedBuilds$Key", "<init>", "()V"⟩, "LeasedBuilds"), ("LeasedBuilds$Disk", 34, ⟨"LeasedBuilds$Key", "<init>", "()V"⟩, "LeasedBuilds"), ("LeasedBuilds$Queue", 21, ⟨"LeasedBuilds$Key", "<init>", "()V"⟩, "LeasedBuilds"), ("LeasedBuilds$Leases", 29, ⟨"LeasedBuilds$Key", "<init>", "()V"⟩, "LeasedBuilds"), ("LeasedBuilds", 40, ⟨"LeasedBuilds$Worker", "<init>", "()V"⟩, "LeasedBuilds"), ("LeasedBuilds$Worker", 11, ⟨"LeasedBuilds$Key", "<init>", "()V"⟩, "LeasedBuilds"), ("LeasedBuilds$Worker", 61, ⟨"LeasedBuilds", "digestOf", "(I)I"⟩, "LeasedBuilds"), ("LeasedBuilds$Client", 91, ⟨"LeasedBuilds", "digestOf", "(I)I"⟩, "LeasedBuilds"), ("LeasedBuilds$Message", 25, ⟨"LeasedBuilds", "digestOf", "(I)I"⟩, "LeasedBuilds")]
