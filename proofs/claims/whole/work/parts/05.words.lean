/-! Own rows over the kit's W: the locals as a list, what a body rests on in one bundle (xC), one memory by cells (Rg). -/
def gW : List Cond := lw_tbl.filter goodWord
theorem gW_in {w : Cond} (h : w ∈ lw_tbl) (hg : goodWord w = true) : w ∈ gW := List.mem_filter.mpr ⟨h, hg⟩
theorem gW_good {w : Cond} (h : w ∈ gW) : goodWord w = true := (List.mem_filter.mp h).2
theorem gT1 {w : Cond} (h : w ∈ tables_1_1) : w ∈ lw_tbl := List.mem_append_right _ (List.mem_append_left _ h)
theorem gT2 {w : Cond} (h : w ∈ tables_1_2) : w ∈ lw_tbl := List.mem_append_right _ (List.mem_append_right _ (List.mem_append_left _ h))
theorem gT3 {w : Cond} (h : w ∈ tables_1_3) : w ∈ lw_tbl := List.mem_append_right _ (List.mem_append_right _ (List.mem_append_right _ (List.mem_append_left _ h)))
theorem gT4 {w : Cond} (h : w ∈ tables_1_4) : w ∈ lw_tbl := List.mem_append_right _ (List.mem_append_right _ (List.mem_append_right _ (List.mem_append_right _ (List.mem_append_left _ h))))
theorem gT5' {w : Cond} (h : w ∈ (tables_1_5 ++ (tables_1_6 ++ (tables_1_7 ++ (tables_1_8 ++ (tables_1_9 ++ (tables_1_10))))))) : w ∈ lw_tbl := List.mem_append_right _ (List.mem_append_right _ (List.mem_append_right _ (List.mem_append_right _ (List.mem_append_right _ (h)))))
theorem gT5 {w : Cond} (h : w ∈ tables_1_5) : w ∈ lw_tbl := gT5' (List.mem_append_left _ h)
theorem gT6 {w : Cond} (h : w ∈ tables_1_6) : w ∈ lw_tbl := gT5' (List.mem_append_right _ (List.mem_append_left _ h))
theorem gT7 {w : Cond} (h : w ∈ tables_1_7) : w ∈ lw_tbl := gT5' (List.mem_append_right _ (List.mem_append_right _ (List.mem_append_left _ h)))
theorem gT8 {w : Cond} (h : w ∈ tables_1_8) : w ∈ lw_tbl := gT5' (List.mem_append_right _ (List.mem_append_right _ (List.mem_append_right _ (List.mem_append_left _ h))))
theorem gT9' {w : Cond} (h : w ∈ (tables_1_9 ++ (tables_1_10))) : w ∈ lw_tbl := gT5' (List.mem_append_right _ (List.mem_append_right _ (List.mem_append_right _ (List.mem_append_right _ (h)))))
theorem gT9 {w : Cond} (h : w ∈ tables_1_9) : w ∈ lw_tbl := gT9' (List.mem_append_left _ h)
theorem gT10 {w : Cond} (h : w ∈ tables_1_10) : w ∈ lw_tbl := gT9' (List.mem_append_right _ h)
abbrev wsG (y : MethodName) (b : ByteArray) (n : Nat) (r : Option FieldType) : List Cond := Cond.code y b n r :: gW
theorem wsG_good {y : MethodName} {b : ByteArray} {n : Nat} {r : Option FieldType} (hc : Cond.code y b n r ∈ gW) : GoodIn gW (wsG y b n r) := by
  intro w hw
  rcases List.mem_cons.mp hw with rfl | h
  · exact ⟨hc, good_of_word (gW_good hc)⟩
  · exact ⟨h, good_of_word (gW_good h)⟩
abbrev xcl : List vw_C := [(RX0, TX0, 1), (RX1, TX1, 3), (RX2, TX2, 7), (RX3, TX3, 3), (RX4, TX4, 7), (RX5, TX5, 11), (RX6, TX6, 4), (RX7, TX7, 11), (RX8, TX8, 3), (RX9, TX9, 4), (RX10, TX10, 12), (RX11, TX11, 8), (RX12, TX12, 22)]
abbrev xty (cA : Nat → ClassId) : List (ClassId × FieldType) := [(cA 0, .int), (cA 1, .long), (cA 2, .byte), (cA 3, .object RX9), (cA 4, .object RX2), (cA 5, .object RX4), (cA 6, .object RX6), (cA 7, .object RX10), (cA 8, .object RX5)]
/-- the links to a nest mate's private methods -/
def xnw : List Cond := [.methodLinkNest "PortDues$Invoice" 44 yX11_contains "PortDues", .methodLinkNest "PortDues$Reports" 100 yX11_contains "PortDues", .methodLinkNest "PortDues$Tariff" 72 yX11_setBelow "PortDues", .methodLinkNest "PortDues$Ledger" 41 yX9_init "PortDues", .methodLinkNest "PortDues$Ledger" 42 yX2_init "PortDues", .methodLinkNest "PortDues$Ledger" 43 yX4_init "PortDues", .methodLinkNest "PortDues$Ledger" 44 yX6_init "PortDues", .methodLinkNest "PortDues$Ledger" 45 yX10_init "PortDues"]
/-- a class's facts -/
def xCF (ci : Nat) (Cn : String) (T : u_T) (N : Nat) (ty0 : Nat → FieldType) : Prop := xcl[ci]? = some (Cn, T, N) ∧ (∀ w ∈ u_ws Cn T N, w ∈ gW) ∧ (∀ k, k < N → parseFieldDescriptor (T k).2.2.1 = some (ty0 k)) ∧ ∀ a, a < N → ∀ b, b < N → a ≠ b → (T a).2.1 ≠ (T b).2.1
/-- a link to a field -/
def xFL (own : String) (ix ci k : Nat) (Cn : String) (T : u_T) (N : Nat) (ty0 : Nat → FieldType) : Prop := xCF ci Cn T N ty0 ∧ k < N ∧ Cond.fieldLink own ix (T k).1 (T k).2.1 (T k).2.2.1 ∈ gW
/-- a link to an instance method, one to a static one -/
def xMV (own : String) (ix : Nat) (Cn : String) (y : MethodName) (b : ByteArray) (n : Nat) (r : Option FieldType) (k : Nat) : Prop :=
  Cond.methodLink own ix y ∈ gW ∧ Cond.instanceMethod y ∈ gW ∧ Cond.selects Cn y y ∈ gW ∧ Cond.initialized Cn ∈ gW ∧ Cond.code y b n r ∈ gW ∧ y.cls = Cn ∧ y.cls ≠ "java/lang/invoke/MethodHandle" ∧ y.cls ≠ "java/lang/invoke/VarHandle" ∧ (parseMethodDescriptor y.desc).map (fun d => d.parameters.length) = some k
def xMS (own : String) (ix : Nat) (y : MethodName) (b : ByteArray) (n : Nat) (r : Option FieldType) (k : Nat) : Prop :=
  Cond.methodLink own ix y ∈ gW ∧ Cond.static y ∈ gW ∧ Cond.initialized y.cls ∈ gW ∧ Cond.code y b n r ∈ gW ∧ y.cls ≠ "java/lang/invoke/MethodHandle" ∧ y.cls ≠ "java/lang/invoke/VarHandle" ∧ (parseMethodDescriptor y.desc).map (fun d => d.parameters.length) = some k
def xMN (own : String) (ix : Nat) (y : MethodName) (host : String) (b : ByteArray) (n : Nat) (r : Option FieldType) (k : Nat) : Prop :=
  Cond.methodLinkNest own ix y host ∈ xnw ∧ Cond.static y ∈ gW ∧ Cond.initialized y.cls ∈ gW ∧ Cond.code y b n r ∈ gW ∧ y.cls ≠ "java/lang/invoke/MethodHandle" ∧ y.cls ≠ "java/lang/invoke/VarHandle" ∧ (parseMethodDescriptor y.desc).map (fun d => d.parameters.length) = some k

