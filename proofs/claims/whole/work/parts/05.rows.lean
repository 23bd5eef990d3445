/-! Own rows over the kit's W: the locals as a list, what a body rests on in one bundle (xC), one memory by cells (Rg). -/
def gW : List Cond := lw_tbl.filter goodWord
theorem gW_in {w : Cond} (h : w ∈ lw_tbl) (hg : goodWord w = true) : w ∈ gW := List.mem_filter.mpr ⟨h, hg⟩
theorem gW_good {w : Cond} (h : w ∈ gW) : goodWord w = true := (List.mem_filter.mp h).2
theorem gT1 {w : Cond} (h : w ∈ tables_1_1) : w ∈ lw_tbl := List.mem_append_right _ (List.mem_append_left _ h)
theorem gT2 {w : Cond} (h : w ∈ tables_1_2) : w ∈ lw_tbl := List.mem_append_right _ (List.mem_append_right _ (List.mem_append_left _ h))
theorem gT3 {w : Cond} (h : w ∈ tables_1_3) : w ∈ lw_tbl := List.mem_append_right _ (List.mem_append_right _ (List.mem_append_right _ (List.mem_append_left _ h)))
theorem gT4 {w : Cond} (h : w ∈ tables_1_4) : w ∈ lw_tbl := List.mem_append_right _ (List.mem_append_right _ (List.mem_append_right _ (List.mem_append_right _ (List.mem_append_left _ h))))
theorem gT5' {w : Cond} (h : w ∈ (tables_1_5 ++ (tables_1_6 ++ (tables_1_7 ++ (tables_1_8 ++ (tables_1_9 ++ (tables_1_10 ++ tables_1_11))))))) : w ∈ lw_tbl := List.mem_append_right _ (List.mem_append_right _ (List.mem_append_right _ (List.mem_append_right _ (List.mem_append_right _ h))))
theorem gT5 {w : Cond} (h : w ∈ tables_1_5) : w ∈ lw_tbl := gT5' (List.mem_append_left _ h)
theorem gT6 {w : Cond} (h : w ∈ tables_1_6) : w ∈ lw_tbl := gT5' (List.mem_append_right _ (List.mem_append_left _ h))
theorem gT7 {w : Cond} (h : w ∈ tables_1_7) : w ∈ lw_tbl := gT5' (List.mem_append_right _ (List.mem_append_right _ (List.mem_append_left _ h)))
theorem gT8 {w : Cond} (h : w ∈ tables_1_8) : w ∈ lw_tbl := gT5' (List.mem_append_right _ (List.mem_append_right _ (List.mem_append_right _ (List.mem_append_left _ h))))
theorem gT9' {w : Cond} (h : w ∈ (tables_1_9 ++ (tables_1_10 ++ tables_1_11))) : w ∈ lw_tbl := gT5' (List.mem_append_right _ (List.mem_append_right _ (List.mem_append_right _ (List.mem_append_right _ h))))
theorem gT9 {w : Cond} (h : w ∈ tables_1_9) : w ∈ lw_tbl := gT9' (List.mem_append_left _ h)
theorem gT10 {w : Cond} (h : w ∈ tables_1_10) : w ∈ lw_tbl := gT9' (List.mem_append_right _ (List.mem_append_left _ h))
theorem gT11 {w : Cond} (h : w ∈ tables_1_11) : w ∈ lw_tbl := gT9' (List.mem_append_right _ (List.mem_append_right _ h))
abbrev wsG (y : MethodName) (b : ByteArray) (n : Nat) (r : Option FieldType) : List Cond := Cond.code y b n r :: gW
theorem wsG_good {y : MethodName} {b : ByteArray} {n : Nat} {r : Option FieldType} (hc : Cond.code y b n r ∈ gW) : GoodIn gW (wsG y b n r) := by
  intro w hw
  rcases List.mem_cons.mp hw with rfl | h
  · exact ⟨hc, good_of_word (gW_good hc)⟩
  · exact ⟨h, good_of_word (gW_good h)⟩
abbrev xcl : List vw_C := [(RX0, TX0, 1), (RX1, TX1, 3), (RX2, TX2, 7), (RX3, TX3, 3), (RX4, TX4, 7), (RX5, TX5, 11), (RX6, TX6, 4), (RX7, TX7, 11), (RX8, TX8, 3), (RX9, TX9, 3), (RX10, TX10, 12), (RX11, TX11, 8), (RX12, TX12, 22), (RJ0, TJ0, 4), (RJ4, TJ4, 4)]
abbrev xty (cA : Nat → ClassId) : List (ClassId × FieldType) := [(cA 0, .int), (cA 1, .long), (cA 2, .byte), (cA 3, .object RX9), (cA 4, .object RX2), (cA 5, .object RX4), (cA 6, .object RX6), (cA 7, .object RX10), (cA 8, .object RX5)]
/-- the links to a nest mate's private methods -/
def xnw : List Cond := [.methodLinkNest "PortDues$Invoice" 44 yX11_contains "PortDues", .methodLinkNest "PortDues$Reports" 102 yX11_contains "PortDues", .methodLinkNest "PortDues$Tariff" 72 yX11_setBelow "PortDues"]
/-- what a state says of the tables -/
def xK (D : va_G) (cA : Nat → ClassId) (U : State) : Prop := va_K D xcl (xty cA) U ∧ ∀ w ∈ xnw, va_Nw w U
theorem xK.warm {D : va_G} {cA : Nat → ClassId} {s U : State} (hW : s.WarmedH U.vm) (h : xK D cA s) : xK D cA U :=
  ⟨va_K.moved hW.alike h.1, fun w hw => by
    have h1 := h.2 w hw
    simp only [xnw, List.mem_cons, List.not_mem_nil, or_false] at hw
    rcases hw with rfl | rfl | rfl <;> exact va_Nw.warmM hW h1⟩
theorem xK.call {D : va_G} {cA : Nat → ClassId} {U : State} {g : JFrame} {mk : MethodId} {a : Array Value} (h : xK D cA U) : xK D cA (U.calling g mk a) :=
  ⟨va_K.moved (u := U) (U := U.calling g mk a) (Vm.Alike.refl U.vm) h.1, fun w hw => by
    have h1 := h.2 w hw
    simp only [xnw, List.mem_cons, List.not_mem_nil, or_false] at hw
    rcases hw with rfl | rfl | rfl <;> exact va_Nw.same rfl rfl h1⟩
def lvg : List (Nat × Value) → Nat → Option Value
  | [], _ => none
  | (j, v) :: t, i => bif Nat.beq j i then some v else lvg t i
theorem lvg_mem {v : Value} {i : Nat} : ∀ (l : List (Nat × Value)), lvg l i = some v → (i, v) ∈ l
  | [], h => by cases h
  | (j, w) :: t, h => by
    unfold lvg at h
    cases hj : Nat.beq j i with
    | true =>
      rw [hj] at h
      have hi := Nat.eq_of_beq_eq_true hj
      subst hi
      cases h
      exact List.mem_cons_self
    | false =>
      rw [hj] at h
      exact List.mem_cons_of_mem _ (lvg_mem t h)
theorem lvg_at {ls : Array Slot} {nL i : Nat} {lv : List (Nat × Value)} {v : Value} (h : lv_has ls nL lv) (hv : lvg lv i = some v) : ls[i]? = some (.val v) := h.2.2 (i, v) (lvg_mem lv hv)
/-- what a body rests on -/
def xC (D : va_G) (cA : Nat → ClassId) (own : String) (cc : ByteArray) (nL : Nat) (rt : Option FieldType) (p : Program) (s : State) (m : MethodId) (args : Array Value) (meth : Method) (c : Code) : Prop :=
  p.tables.exec = Jvm.exec ∧ c.code = cc ∧ meth.sig.returnType = rt ∧ c.maxLocals = nL ∧ s.vm.findClass own = some m.cls ∧ (∀ w ∈ gW, w.before args s = true) ∧ meth.locks = false ∧ xK D cA s
def xW (p : Program) (l : Launch) (e : Env) (R : Room) (s : State) (m : MethodId) (args : Array Value) (below : List Frame) (meth : Method) (c : Code) (nL : Nat) (Q : State → Prop) (H : Heap) (locs : List Loc) (cells slots : Nat) (pc : Nat) (lv : List (Nat × Value)) (st : List Value) : Prop :=
  ∀ ls : Array Slot, lv_has ls nL lv → W p l e R s m args below meth c H locs cells slots Q (F0 m pc ls st)
/-- a boolean on the stack -/
def bI (b : Bool) : Int32 := if b then 1 else 0
theorem bI_nar (b : Bool) : narrow .boolean (.int (bI b)) = .int (bI b) := by cases b <;> rfl
theorem bI_fit (b : Bool) : fits .boolean (.int (bI b)) = true := by cases b <;> rfl
theorem bI_0 {b : Bool} : bI b = 0 ↔ b = false := by cases b <;> simp [bI]
theorem bI_n0 {b : Bool} : ¬ bI b = 0 ↔ b = true := by cases b <;> simp [bI]
/-- a method's start: its arguments, what it knows of the tables, its world -/
def xP (D : va_G) (cA : Nat → ClassId) (av : List Value) (Wd : Heap → Prop) : Array Value → State → Prop := fun v U => v = av.toArray ∧ xK D cA U ∧ Wd U.heap
theorem xP_blind {D : va_G} {cA : Nat → ClassId} {av : List Value} {Wd : Heap → Prop} : FrameBlind (xP D cA av Wd) := fun _ _ _ _ h => ⟨h.1, h.2.1.call, h.2.2⟩
/-- the end of a method that only reads -/
def xQr (v : Option Value) : Array Value → State → Outcome → State → Prop := fun _ st o t => o = .returned v ∧ t.heap = st.heap
/-- the end of a method that writes in A -/
def xQm (v : Option Value) (Wd : Heap → Prop) (A : Nat → Prop) : Array Value → State → Outcome → State → Prop := fun _ st o t => o = .returned v ∧ Wd t.heap ∧ va_F A st t
def xN : Addr → Prop := fun _ => False
theorem x_start {l : Launch} {y : MethodName} {b : ByteArray} {n : Nat} {r : Option FieldType} {rm : Room} {av : List Value} {Wd : Heap → Prop} {Qc : Array Value → State → Outcome → State → Prop} {mc ms : Nat} {free : Addr → Prop} {D : va_G} {cA : Nat → ClassId}
    {own : String} (ho : y.cls = own) (hy : plainName own = true) (hn : (lg_sl av).length ≤ n)
    (body : ∀ (p : Program) (e : Env) (s : State) (m : MethodId) (args : Array Value) (below : List Frame) (meth : Method) (c : Code), xC D cA own b n r p s m args meth c → Wd s.heap → xW p l e rm s m args below meth c n (MQ below Qc args s mc ms free) s.heap [] 0 0 0 (lv_args 0 av) []) : Met l y (wsG y b n r) rm (xP D cA av Wd) Qc mc ms free := by
  subst ho
  refine Met.ofW (cc := b) (maxL := n) (ret := r) hy rfl ?_
  intro p e s m args below meth c s₁ B hml hv
  obtain ⟨rfl, hK, hWd⟩ := hv
  have hts := atoms_spec (ws := wsG y b n r) B.pre
  rw [lg_entry_eq]
  exact body p e s m av.toArray below meth c ⟨B.exec, B.bytes, B.returns, hml, findClass_of_methodNamed B.named, fun w hw => hts w (List.mem_cons_of_mem _ hw), B.notSynchronized, hK⟩ hWd _ (lv_entry av hn)
section XR
variable {p : Program} {l : Launch} {e : Env} {R : Room} {s : State} {m : MethodId} {args : Array Value} {below : List Frame} {meth : Method} {c : Code} {nL : Nat} {Q : State → Prop} {H : Heap} {locs : List Loc} {cells slots : Nat} {pc : Nat} {lv : List (Nat × Value)} {st : List Value}
  {D : va_G} {cA : Nat → ClassId} {own : String} {cc : ByteArray} {rt : Option FieldType}
theorem x_iconst {n : Int} (v : Int32) (C : xC D cA own cc nL rt p s m args meth c) (hd : decode cc pc = .ok (.iconst n, 1)) (hv : Int32.ofInt n = v) (kk : xW p l e R s m args below meth c nL Q H locs cells slots (pc + 1) lv (.int v :: st)) : xW p l e R s m args below meth c nL Q H locs cells slots pc lv (st) := fun ls hl => lv_iconst C.1 C.2.1 hd hv (kk ls hl)
theorem x_bipush {n : Int} (v : Int32) (C : xC D cA own cc nL rt p s m args meth c) (hd : decode cc pc = .ok (.bipush n, 2)) (hv : (Int8.ofInt n).toInt32 = v) (kk : xW p l e R s m args below meth c nL Q H locs cells slots (pc + 2) lv (.int v :: st)) : xW p l e R s m args below meth c nL Q H locs cells slots pc lv (st) := fun ls hl => lv_bipush C.1 C.2.1 hd hv (kk ls hl)
theorem x_sipush {n : Int} (v : Int32) (C : xC D cA own cc nL rt p s m args meth c) (hd : decode cc pc = .ok (.sipush n, 3)) (hv : (Int16.ofInt n).toInt32 = v) (kk : xW p l e R s m args below meth c nL Q H locs cells slots (pc + 3) lv (.int v :: st)) : xW p l e R s m args below meth c nL Q H locs cells slots pc lv (st) := fun ls hl => lv_sipush C.1 C.2.1 hd hv (kk ls hl)
theorem x_lconst {n : Fin 2} (v : Int64) (C : xC D cA own cc nL rt p s m args meth c) (hd : decode cc pc = .ok (.lconst n, 1)) (hv : Int64.ofNat (n : Nat) = v) (kk : xW p l e R s m args below meth c nL Q H locs cells slots (pc + 1) lv (.long v :: st)) : xW p l e R s m args below meth c nL Q H locs cells slots pc lv (st) := fun ls hl => lv_lconst C.1 C.2.1 hd hv (kk ls hl)
theorem x_iload_n {k : Fin 4} {x : Int32} (C : xC D cA own cc nL rt p s m args meth c) (hd : decode cc pc = .ok (.iload_n k, 1)) (hv : lvg lv (k : Nat) = some (.int x)) (kk : xW p l e R s m args below meth c nL Q H locs cells slots (pc + 1) lv (.int x :: st)) : xW p l e R s m args below meth c nL Q H locs cells slots pc lv (st) := fun ls hl => lv_iload_n C.1 C.2.1 hd rfl (lvg_at hl hv) (kk ls hl)
theorem x_iload {i : Nat} {x : Int32} (C : xC D cA own cc nL rt p s m args meth c) (hd : decode cc pc = .ok (.iload i, 2)) (hv : lvg lv i = some (.int x)) (kk : xW p l e R s m args below meth c nL Q H locs cells slots (pc + 2) lv (.int x :: st)) : xW p l e R s m args below meth c nL Q H locs cells slots pc lv (st) := fun ls hl => lv_iload C.1 C.2.1 hd (lvg_at hl hv) (kk ls hl)
theorem x_lload_n {k : Fin 4} {x : Int64} (C : xC D cA own cc nL rt p s m args meth c) (hd : decode cc pc = .ok (.lload_n k, 1)) (hv : lvg lv (k : Nat) = some (.long x)) (kk : xW p l e R s m args below meth c nL Q H locs cells slots (pc + 1) lv (.long x :: st)) : xW p l e R s m args below meth c nL Q H locs cells slots pc lv (st) := fun ls hl => lv_lload_n C.1 C.2.1 hd rfl (lvg_at hl hv) (kk ls hl)
theorem x_lload {i : Nat} {x : Int64} (C : xC D cA own cc nL rt p s m args meth c) (hd : decode cc pc = .ok (.lload i, 2)) (hv : lvg lv i = some (.long x)) (kk : xW p l e R s m args below meth c nL Q H locs cells slots (pc + 2) lv (.long x :: st)) : xW p l e R s m args below meth c nL Q H locs cells slots pc lv (st) := fun ls hl => lv_lload C.1 C.2.1 hd (lvg_at hl hv) (kk ls hl)
theorem x_aload_n {k : Fin 4} {x : Nat} (C : xC D cA own cc nL rt p s m args meth c) (hd : decode cc pc = .ok (.aload_n k, 1)) (hv : lvg lv (k : Nat) = some (.ref x)) (kk : xW p l e R s m args below meth c nL Q H locs cells slots (pc + 1) lv (.ref x :: st)) : xW p l e R s m args below meth c nL Q H locs cells slots pc lv (st) := fun ls hl => lv_aload_n C.1 C.2.1 hd rfl (lvg_at hl hv) (kk ls hl)
theorem x_aload {i : Nat} {x : Nat} (C : xC D cA own cc nL rt p s m args meth c) (hd : decode cc pc = .ok (.aload i, 2)) (hv : lvg lv i = some (.ref x)) (kk : xW p l e R s m args below meth c nL Q H locs cells slots (pc + 2) lv (.ref x :: st)) : xW p l e R s m args below meth c nL Q H locs cells slots pc lv (st) := fun ls hl => lv_aload C.1 C.2.1 hd (lvg_at hl hv) (kk ls hl)
theorem x_istore {i : Nat} {x : Int32} (lv' : List (Nat × Value)) (C : xC D cA own cc nL rt p s m args meth c) (hd : decode cc pc = .ok (.istore i, 2)) (hn : i < nL) (hl' : (i, Value.int x) :: lv.filter (fun q : Nat × Value => !(q.1 == i) && !(q.1 + 1 == i && q.2.category == 2)) = lv') (kk : xW p l e R s m args below meth c nL Q H locs cells slots (pc + 2) lv' st) : xW p l e R s m args below meth c nL Q H locs cells slots pc lv (.int x :: st) := fun ls hl => lv_istore C.1 C.2.1 hd hl hn hl' kk
theorem x_istore_n {k : Fin 4} {i : Nat} {x : Int32} (lv' : List (Nat × Value)) (C : xC D cA own cc nL rt p s m args meth c) (hd : decode cc pc = .ok (.istore_n k, 1)) (hi : (k : Nat) = i) (hn : i < nL) (hl' : (i, Value.int x) :: lv.filter (fun q : Nat × Value => !(q.1 == i) && !(q.1 + 1 == i && q.2.category == 2)) = lv') (kk : xW p l e R s m args below meth c nL Q H locs cells slots (pc + 1) lv' st) : xW p l e R s m args below meth c nL Q H locs cells slots pc lv (.int x :: st) := fun ls hl => lv_istore_n C.1 C.2.1 hd hi hl hn hl' kk
theorem x_lstore {i : Nat} {x : Int64} (lv' : List (Nat × Value)) (C : xC D cA own cc nL rt p s m args meth c) (hd : decode cc pc = .ok (.lstore i, 2)) (hn : i + 1 < nL) (hl' : (i, Value.long x) :: lv.filter (fun q : Nat × Value => !(q.1 == i) && (!(q.1 == i + 1) && !(q.1 + 1 == i && q.2.category == 2))) = lv') (kk : xW p l e R s m args below meth c nL Q H locs cells slots (pc + 2) lv' st) : xW p l e R s m args below meth c nL Q H locs cells slots pc lv (.long x :: st) := fun ls hl => lv_lstore C.1 C.2.1 hd hl hn hl' kk
theorem x_lstore_n {k : Fin 4} {i : Nat} {x : Int64} (lv' : List (Nat × Value)) (C : xC D cA own cc nL rt p s m args meth c) (hd : decode cc pc = .ok (.lstore_n k, 1)) (hi : (k : Nat) = i) (hn : i + 1 < nL) (hl' : (i, Value.long x) :: lv.filter (fun q : Nat × Value => !(q.1 == i) && (!(q.1 == i + 1) && !(q.1 + 1 == i && q.2.category == 2))) = lv') (kk : xW p l e R s m args below meth c nL Q H locs cells slots (pc + 1) lv' st) : xW p l e R s m args below meth c nL Q H locs cells slots pc lv (.long x :: st) := fun ls hl => lv_lstore_n C.1 C.2.1 hd hi hl hn hl' kk
theorem x_astore {i : Nat} {x : Nat} (lv' : List (Nat × Value)) (C : xC D cA own cc nL rt p s m args meth c) (hd : decode cc pc = .ok (.astore i, 2)) (hn : i < nL) (hl' : (i, Value.ref x) :: lv.filter (fun q : Nat × Value => !(q.1 == i) && !(q.1 + 1 == i && q.2.category == 2)) = lv') (kk : xW p l e R s m args below meth c nL Q H locs cells slots (pc + 2) lv' st) : xW p l e R s m args below meth c nL Q H locs cells slots pc lv (.ref x :: st) := fun ls hl => lv_astore C.1 C.2.1 hd hl hn hl' kk
theorem x_astore_n {k : Fin 4} {i : Nat} {x : Nat} (lv' : List (Nat × Value)) (C : xC D cA own cc nL rt p s m args meth c) (hd : decode cc pc = .ok (.astore_n k, 1)) (hi : (k : Nat) = i) (hn : i < nL) (hl' : (i, Value.ref x) :: lv.filter (fun q : Nat × Value => !(q.1 == i) && !(q.1 + 1 == i && q.2.category == 2)) = lv') (kk : xW p l e R s m args below meth c nL Q H locs cells slots (pc + 1) lv' st) : xW p l e R s m args below meth c nL Q H locs cells slots pc lv (.ref x :: st) := fun ls hl => lv_astore_n C.1 C.2.1 hd hi hl hn hl' kk
theorem lvg_ix {v : Value} {i : Nat} {l : List (Nat × Value)} (h : lvg l i = some v) : ∃ k : Nat, l[k]? = some (i, v) := List.getElem?_of_mem (lvg_mem l h)
theorem x_iinc {i : Nat} {n : Int} {x : Int32} (v : Int32) (lv' : List (Nat × Value)) (C : xC D cA own cc nL rt p s m args meth c) (hd : decode cc pc = .ok (.iinc i n, 3)) (hx : lvg lv i = some (.int x)) (hv : x + Int32.ofInt n = v) (hn : i < nL) (hl' : (i, Value.int v) :: lv.filter (fun q : Nat × Value => !(q.1 == i) && !(q.1 + 1 == i && q.2.category == 2)) = lv') (kk : xW p l e R s m args below meth c nL Q H locs cells slots (pc + 3) lv' st) : xW p l e R s m args below meth c nL Q H locs cells slots pc lv st := fun ls hl => by
  obtain ⟨k, hk⟩ := lvg_ix hx
  exact lv_iinc C.1 C.2.1 hd hl hk hv hn hl' kk
theorem x_iadd {x y : Int32} (C : xC D cA own cc nL rt p s m args meth c) (hd : decode cc pc = .ok (.iadd, 1)) (kk : xW p l e R s m args below meth c nL Q H locs cells slots (pc + 1) lv (.int (x + y) :: st)) : xW p l e R s m args below meth c nL Q H locs cells slots pc lv (.int y :: .int x :: st) := fun ls hl => lv_iadd C.1 C.2.1 hd (kk ls hl)
theorem x_isub {x y : Int32} (C : xC D cA own cc nL rt p s m args meth c) (hd : decode cc pc = .ok (.isub, 1)) (kk : xW p l e R s m args below meth c nL Q H locs cells slots (pc + 1) lv (.int (x - y) :: st)) : xW p l e R s m args below meth c nL Q H locs cells slots pc lv (.int y :: .int x :: st) := fun ls hl => lv_isub C.1 C.2.1 hd (kk ls hl)
theorem x_imul {x y : Int32} (C : xC D cA own cc nL rt p s m args meth c) (hd : decode cc pc = .ok (.imul, 1)) (kk : xW p l e R s m args below meth c nL Q H locs cells slots (pc + 1) lv (.int (x * y) :: st)) : xW p l e R s m args below meth c nL Q H locs cells slots pc lv (.int y :: .int x :: st) := fun ls hl => lv_imul C.1 C.2.1 hd (kk ls hl)
theorem x_iand {x y : Int32} (C : xC D cA own cc nL rt p s m args meth c) (hd : decode cc pc = .ok (.iand, 1)) (kk : xW p l e R s m args below meth c nL Q H locs cells slots (pc + 1) lv (.int (x &&& y) :: st)) : xW p l e R s m args below meth c nL Q H locs cells slots pc lv (.int y :: .int x :: st) := fun ls hl => lv_iand C.1 C.2.1 hd (kk ls hl)
theorem x_ior {x y : Int32} (C : xC D cA own cc nL rt p s m args meth c) (hd : decode cc pc = .ok (.ior, 1)) (kk : xW p l e R s m args below meth c nL Q H locs cells slots (pc + 1) lv (.int (x ||| y) :: st)) : xW p l e R s m args below meth c nL Q H locs cells slots pc lv (.int y :: .int x :: st) := fun ls hl => lv_ior C.1 C.2.1 hd (kk ls hl)
theorem x_ixor {x y : Int32} (C : xC D cA own cc nL rt p s m args meth c) (hd : decode cc pc = .ok (.ixor, 1)) (kk : xW p l e R s m args below meth c nL Q H locs cells slots (pc + 1) lv (.int (x ^^^ y) :: st)) : xW p l e R s m args below meth c nL Q H locs cells slots pc lv (.int y :: .int x :: st) := fun ls hl => lv_ixor C.1 C.2.1 hd (kk ls hl)
theorem x_ishl {x y : Int32} (C : xC D cA own cc nL rt p s m args meth c) (hd : decode cc pc = .ok (.ishl, 1)) (kk : xW p l e R s m args below meth c nL Q H locs cells slots (pc + 1) lv (.int (x <<< (y &&& 31)) :: st)) : xW p l e R s m args below meth c nL Q H locs cells slots pc lv (.int y :: .int x :: st) := fun ls hl => lv_ishl C.1 C.2.1 hd (kk ls hl)
theorem x_ishr {x y : Int32} (C : xC D cA own cc nL rt p s m args meth c) (hd : decode cc pc = .ok (.ishr, 1)) (kk : xW p l e R s m args below meth c nL Q H locs cells slots (pc + 1) lv (.int (x >>> (y &&& 31)) :: st)) : xW p l e R s m args below meth c nL Q H locs cells slots pc lv (.int y :: .int x :: st) := fun ls hl => lv_ishr C.1 C.2.1 hd (kk ls hl)
theorem x_idiv {x y : Int32} (C : xC D cA own cc nL rt p s m args meth c) (hd : decode cc pc = .ok (.idiv, 1)) (hy : ¬ y = 0) (kk : xW p l e R s m args below meth c nL Q H locs cells slots (pc + 1) lv (.int (x / y) :: st)) : xW p l e R s m args below meth c nL Q H locs cells slots pc lv (.int y :: .int x :: st) := fun ls hl => lv_idiv C.1 C.2.1 hd hy (kk ls hl)
theorem x_irem {x y : Int32} (C : xC D cA own cc nL rt p s m args meth c) (hd : decode cc pc = .ok (.irem, 1)) (hy : ¬ y = 0) (kk : xW p l e R s m args below meth c nL Q H locs cells slots (pc + 1) lv (.int (x - x / y * y) :: st)) : xW p l e R s m args below meth c nL Q H locs cells slots pc lv (.int y :: .int x :: st) := fun ls hl => lv_irem C.1 C.2.1 hd hy (kk ls hl)
theorem x_ldiv {x y : Int64} (C : xC D cA own cc nL rt p s m args meth c) (hd : decode cc pc = .ok (.ldiv, 1)) (hy : ¬ y = 0) (kk : xW p l e R s m args below meth c nL Q H locs cells slots (pc + 1) lv (.long (x / y) :: st)) : xW p l e R s m args below meth c nL Q H locs cells slots pc lv (.long y :: .long x :: st) := fun ls hl => lv_ldiv C.1 C.2.1 hd hy (kk ls hl)
theorem x_lrem {x y : Int64} (C : xC D cA own cc nL rt p s m args meth c) (hd : decode cc pc = .ok (.lrem, 1)) (hy : ¬ y = 0) (kk : xW p l e R s m args below meth c nL Q H locs cells slots (pc + 1) lv (.long (x - x / y * y) :: st)) : xW p l e R s m args below meth c nL Q H locs cells slots pc lv (.long y :: .long x :: st) := fun ls hl => lv_lrem C.1 C.2.1 hd hy (kk ls hl)
theorem x_iushr {x y : Int32} (C : xC D cA own cc nL rt p s m args meth c) (hd : decode cc pc = .ok (.iushr, 1)) (kk : xW p l e R s m args below meth c nL Q H locs cells slots (pc + 1) lv (.int ((x.toUInt32 >>> (y.toUInt32 &&& Int32.toUInt32 31)).toInt32) :: st)) : xW p l e R s m args below meth c nL Q H locs cells slots pc lv (.int y :: .int x :: st) := fun ls hl => lv_iushr C.1 C.2.1 hd rfl (kk ls hl)
theorem x_ineg {x : Int32} (C : xC D cA own cc nL rt p s m args meth c) (hd : decode cc pc = .ok (.ineg, 1)) (kk : xW p l e R s m args below meth c nL Q H locs cells slots (pc + 1) lv (.int (-x) :: st)) : xW p l e R s m args below meth c nL Q H locs cells slots pc lv (.int x :: st) := fun ls hl => lv_ineg C.1 C.2.1 hd (kk ls hl)
theorem x_lneg {x : Int64} (C : xC D cA own cc nL rt p s m args meth c) (hd : decode cc pc = .ok (.lneg, 1)) (kk : xW p l e R s m args below meth c nL Q H locs cells slots (pc + 1) lv (.long (-x) :: st)) : xW p l e R s m args below meth c nL Q H locs cells slots pc lv (.long x :: st) := fun ls hl => lv_lneg C.1 C.2.1 hd (kk ls hl)
theorem x_i2l {x : Int32} (C : xC D cA own cc nL rt p s m args meth c) (hd : decode cc pc = .ok (.i2l, 1)) (kk : xW p l e R s m args below meth c nL Q H locs cells slots (pc + 1) lv (.long x.toInt64 :: st)) : xW p l e R s m args below meth c nL Q H locs cells slots pc lv (.int x :: st) := fun ls hl => lv_i2l C.1 C.2.1 hd rfl (kk ls hl)
theorem x_l2i {x : Int64} (C : xC D cA own cc nL rt p s m args meth c) (hd : decode cc pc = .ok (.l2i, 1)) (kk : xW p l e R s m args below meth c nL Q H locs cells slots (pc + 1) lv (.int x.toInt32 :: st)) : xW p l e R s m args below meth c nL Q H locs cells slots pc lv (.long x :: st) := fun ls hl => lv_l2i C.1 C.2.1 hd rfl (kk ls hl)
theorem x_i2b {x : Int32} (C : xC D cA own cc nL rt p s m args meth c) (hd : decode cc pc = .ok (.i2b, 1)) (kk : xW p l e R s m args below meth c nL Q H locs cells slots (pc + 1) lv (.int x.toInt8.toInt32 :: st)) : xW p l e R s m args below meth c nL Q H locs cells slots pc lv (.int x :: st) := fun ls hl => lv_i2b C.1 C.2.1 hd rfl (kk ls hl)
theorem x_i2c {x : Int32} (C : xC D cA own cc nL rt p s m args meth c) (hd : decode cc pc = .ok (.i2c, 1)) (kk : xW p l e R s m args below meth c nL Q H locs cells slots (pc + 1) lv (.int (x.toUInt32 % 65536).toInt32 :: st)) : xW p l e R s m args below meth c nL Q H locs cells slots pc lv (.int x :: st) := fun ls hl => lv_i2c C.1 C.2.1 hd rfl (kk ls hl)
theorem x_ladd {x y : Int64} (C : xC D cA own cc nL rt p s m args meth c) (hd : decode cc pc = .ok (.ladd, 1)) (kk : xW p l e R s m args below meth c nL Q H locs cells slots (pc + 1) lv (.long (x + y) :: st)) : xW p l e R s m args below meth c nL Q H locs cells slots pc lv (.long y :: .long x :: st) := fun ls hl => lv_ladd C.1 C.2.1 hd (kk ls hl)
theorem x_lsub {x y : Int64} (C : xC D cA own cc nL rt p s m args meth c) (hd : decode cc pc = .ok (.lsub, 1)) (kk : xW p l e R s m args below meth c nL Q H locs cells slots (pc + 1) lv (.long (x - y) :: st)) : xW p l e R s m args below meth c nL Q H locs cells slots pc lv (.long y :: .long x :: st) := fun ls hl => lv_lsub C.1 C.2.1 hd (kk ls hl)
theorem x_lmul {x y : Int64} (C : xC D cA own cc nL rt p s m args meth c) (hd : decode cc pc = .ok (.lmul, 1)) (kk : xW p l e R s m args below meth c nL Q H locs cells slots (pc + 1) lv (.long (x * y) :: st)) : xW p l e R s m args below meth c nL Q H locs cells slots pc lv (.long y :: .long x :: st) := fun ls hl => lv_lmul C.1 C.2.1 hd (kk ls hl)
theorem x_dup {va : Value} (C : xC D cA own cc nL rt p s m args meth c) (hd : decode cc pc = .ok (.dup, 1)) (hva : va.category = 1) (kk : xW p l e R s m args below meth c nL Q H locs cells slots (pc + 1) lv (va :: va :: st)) : xW p l e R s m args below meth c nL Q H locs cells slots pc lv (va :: st) := fun ls hl => lv_dup C.1 C.2.1 hd hva (kk ls hl)
theorem x_pop {va : Value} (C : xC D cA own cc nL rt p s m args meth c) (hd : decode cc pc = .ok (.pop, 1)) (hva : va.category = 1) (kk : xW p l e R s m args below meth c nL Q H locs cells slots (pc + 1) lv (st)) : xW p l e R s m args below meth c nL Q H locs cells slots pc lv (va :: st) := fun ls hl => lv_pop C.1 C.2.1 hd hva (kk ls hl)
theorem x_dup_x1 {va vb : Value} (C : xC D cA own cc nL rt p s m args meth c) (hd : decode cc pc = .ok (.dup_x1, 1)) (hva : va.category = 1) (hvb : vb.category = 1) (kk : xW p l e R s m args below meth c nL Q H locs cells slots (pc + 1) lv (va :: vb :: va :: st)) : xW p l e R s m args below meth c nL Q H locs cells slots pc lv (va :: vb :: st) := fun ls hl => lv_dup_x1 C.1 C.2.1 hd hva hvb (kk ls hl)
theorem x_dup2_11 {va vb : Value} (C : xC D cA own cc nL rt p s m args meth c) (hd : decode cc pc = .ok (.dup2, 1)) (hva : va.category = 1) (hvb : vb.category = 1) (kk : xW p l e R s m args below meth c nL Q H locs cells slots (pc + 1) lv (va :: vb :: va :: vb :: st)) : xW p l e R s m args below meth c nL Q H locs cells slots pc lv (va :: vb :: st) := fun ls hl => lv_dup2_11 C.1 C.2.1 hd hva hvb (kk ls hl)
theorem x_dup2_2 {va : Value} (C : xC D cA own cc nL rt p s m args meth c) (hd : decode cc pc = .ok (.dup2, 1)) (hva : va.category = 2) (kk : xW p l e R s m args below meth c nL Q H locs cells slots (pc + 1) lv (va :: va :: st)) : xW p l e R s m args below meth c nL Q H locs cells slots pc lv (va :: st) := fun ls hl => lv_dup2_2 C.1 C.2.1 hd hva (kk ls hl)
theorem x_goto {off : Int} (tgt : Nat) (C : xC D cA own cc nL rt p s m args meth c) (hd : decode cc pc = .ok (.goto off, 3)) (ht : (pc : Int) + off = (tgt : Int)) (kk : xW p l e R s m args below meth c nL Q H locs cells slots tgt lv st) : xW p l e R s m args below meth c nL Q H locs cells slots pc lv st := fun ls hl => lv_goto C.1 C.2.1 hd ht (kk ls hl)
theorem x_icmp_eq {x y : Int32} {off : Int} (tgt : Nat) (C : xC D cA own cc nL rt p s m args meth c) (hd : decode cc pc = .ok (.if_icmp .eq off, 3)) (ht : (pc : Int) + off = (tgt : Int)) (kt : x = y → xW p l e R s m args below meth c nL Q H locs cells slots tgt lv st) (kf : ¬ x = y → xW p l e R s m args below meth c nL Q H locs cells slots (pc + 3) lv st) : xW p l e R s m args below meth c nL Q H locs cells slots pc lv (.int y :: .int x :: st) := fun ls hl => lv_icmp_eq C.1 C.2.1 hd ht (fun h => kt h ls hl) (fun h => kf h ls hl)
theorem x_if_eq {x : Int32} {off : Int} (tgt : Nat) (C : xC D cA own cc nL rt p s m args meth c) (hd : decode cc pc = .ok (.ifCond .eq off, 3)) (ht : (pc : Int) + off = (tgt : Int)) (kt : x = 0 → xW p l e R s m args below meth c nL Q H locs cells slots tgt lv st) (kf : ¬ x = 0 → xW p l e R s m args below meth c nL Q H locs cells slots (pc + 3) lv st) : xW p l e R s m args below meth c nL Q H locs cells slots pc lv (.int x :: st) := fun ls hl => lv_if_eq C.1 C.2.1 hd ht (fun h => kt h ls hl) (fun h => kf h ls hl)
theorem x_icmp_ne {x y : Int32} {off : Int} (tgt : Nat) (C : xC D cA own cc nL rt p s m args meth c) (hd : decode cc pc = .ok (.if_icmp .ne off, 3)) (ht : (pc : Int) + off = (tgt : Int)) (kt : ¬ x = y → xW p l e R s m args below meth c nL Q H locs cells slots tgt lv st) (kf : x = y → xW p l e R s m args below meth c nL Q H locs cells slots (pc + 3) lv st) : xW p l e R s m args below meth c nL Q H locs cells slots pc lv (.int y :: .int x :: st) := fun ls hl => lv_icmp_ne C.1 C.2.1 hd ht (fun h => kt h ls hl) (fun h => kf h ls hl)
theorem x_if_ne {x : Int32} {off : Int} (tgt : Nat) (C : xC D cA own cc nL rt p s m args meth c) (hd : decode cc pc = .ok (.ifCond .ne off, 3)) (ht : (pc : Int) + off = (tgt : Int)) (kt : ¬ x = 0 → xW p l e R s m args below meth c nL Q H locs cells slots tgt lv st) (kf : x = 0 → xW p l e R s m args below meth c nL Q H locs cells slots (pc + 3) lv st) : xW p l e R s m args below meth c nL Q H locs cells slots pc lv (.int x :: st) := fun ls hl => lv_if_ne C.1 C.2.1 hd ht (fun h => kt h ls hl) (fun h => kf h ls hl)
theorem x_icmp_lt {x y : Int32} {off : Int} (tgt : Nat) (C : xC D cA own cc nL rt p s m args meth c) (hd : decode cc pc = .ok (.if_icmp .lt off, 3)) (ht : (pc : Int) + off = (tgt : Int)) (kt : x < y → xW p l e R s m args below meth c nL Q H locs cells slots tgt lv st) (kf : ¬ x < y → xW p l e R s m args below meth c nL Q H locs cells slots (pc + 3) lv st) : xW p l e R s m args below meth c nL Q H locs cells slots pc lv (.int y :: .int x :: st) := fun ls hl => lv_icmp_lt C.1 C.2.1 hd ht (fun h => kt h ls hl) (fun h => kf h ls hl)
theorem x_if_lt {x : Int32} {off : Int} (tgt : Nat) (C : xC D cA own cc nL rt p s m args meth c) (hd : decode cc pc = .ok (.ifCond .lt off, 3)) (ht : (pc : Int) + off = (tgt : Int)) (kt : x < 0 → xW p l e R s m args below meth c nL Q H locs cells slots tgt lv st) (kf : ¬ x < 0 → xW p l e R s m args below meth c nL Q H locs cells slots (pc + 3) lv st) : xW p l e R s m args below meth c nL Q H locs cells slots pc lv (.int x :: st) := fun ls hl => lv_if_lt C.1 C.2.1 hd ht (fun h => kt h ls hl) (fun h => kf h ls hl)
theorem x_icmp_ge {x y : Int32} {off : Int} (tgt : Nat) (C : xC D cA own cc nL rt p s m args meth c) (hd : decode cc pc = .ok (.if_icmp .ge off, 3)) (ht : (pc : Int) + off = (tgt : Int)) (kt : y ≤ x → xW p l e R s m args below meth c nL Q H locs cells slots tgt lv st) (kf : ¬ y ≤ x → xW p l e R s m args below meth c nL Q H locs cells slots (pc + 3) lv st) : xW p l e R s m args below meth c nL Q H locs cells slots pc lv (.int y :: .int x :: st) := fun ls hl => lv_icmp_ge C.1 C.2.1 hd ht (fun h => kt h ls hl) (fun h => kf h ls hl)
theorem x_if_ge {x : Int32} {off : Int} (tgt : Nat) (C : xC D cA own cc nL rt p s m args meth c) (hd : decode cc pc = .ok (.ifCond .ge off, 3)) (ht : (pc : Int) + off = (tgt : Int)) (kt : 0 ≤ x → xW p l e R s m args below meth c nL Q H locs cells slots tgt lv st) (kf : ¬ 0 ≤ x → xW p l e R s m args below meth c nL Q H locs cells slots (pc + 3) lv st) : xW p l e R s m args below meth c nL Q H locs cells slots pc lv (.int x :: st) := fun ls hl => lv_if_ge C.1 C.2.1 hd ht (fun h => kt h ls hl) (fun h => kf h ls hl)
theorem x_icmp_gt {x y : Int32} {off : Int} (tgt : Nat) (C : xC D cA own cc nL rt p s m args meth c) (hd : decode cc pc = .ok (.if_icmp .gt off, 3)) (ht : (pc : Int) + off = (tgt : Int)) (kt : y < x → xW p l e R s m args below meth c nL Q H locs cells slots tgt lv st) (kf : ¬ y < x → xW p l e R s m args below meth c nL Q H locs cells slots (pc + 3) lv st) : xW p l e R s m args below meth c nL Q H locs cells slots pc lv (.int y :: .int x :: st) := fun ls hl => lv_icmp_gt C.1 C.2.1 hd ht (fun h => kt h ls hl) (fun h => kf h ls hl)
theorem x_if_gt {x : Int32} {off : Int} (tgt : Nat) (C : xC D cA own cc nL rt p s m args meth c) (hd : decode cc pc = .ok (.ifCond .gt off, 3)) (ht : (pc : Int) + off = (tgt : Int)) (kt : 0 < x → xW p l e R s m args below meth c nL Q H locs cells slots tgt lv st) (kf : ¬ 0 < x → xW p l e R s m args below meth c nL Q H locs cells slots (pc + 3) lv st) : xW p l e R s m args below meth c nL Q H locs cells slots pc lv (.int x :: st) := fun ls hl => lv_if_gt C.1 C.2.1 hd ht (fun h => kt h ls hl) (fun h => kf h ls hl)
theorem x_icmp_le {x y : Int32} {off : Int} (tgt : Nat) (C : xC D cA own cc nL rt p s m args meth c) (hd : decode cc pc = .ok (.if_icmp .le off, 3)) (ht : (pc : Int) + off = (tgt : Int)) (kt : x ≤ y → xW p l e R s m args below meth c nL Q H locs cells slots tgt lv st) (kf : ¬ x ≤ y → xW p l e R s m args below meth c nL Q H locs cells slots (pc + 3) lv st) : xW p l e R s m args below meth c nL Q H locs cells slots pc lv (.int y :: .int x :: st) := fun ls hl => lv_icmp_le C.1 C.2.1 hd ht (fun h => kt h ls hl) (fun h => kf h ls hl)
theorem x_if_le {x : Int32} {off : Int} (tgt : Nat) (C : xC D cA own cc nL rt p s m args meth c) (hd : decode cc pc = .ok (.ifCond .le off, 3)) (ht : (pc : Int) + off = (tgt : Int)) (kt : x ≤ 0 → xW p l e R s m args below meth c nL Q H locs cells slots tgt lv st) (kf : ¬ x ≤ 0 → xW p l e R s m args below meth c nL Q H locs cells slots (pc + 3) lv st) : xW p l e R s m args below meth c nL Q H locs cells slots pc lv (.int x :: st) := fun ls hl => lv_if_le C.1 C.2.1 hd ht (fun h => kt h ls hl) (fun h => kf h ls hl)
theorem x_ifB_eq {b : Bool} {off : Int} (tgt : Nat) (C : xC D cA own cc nL rt p s m args meth c) (hd : decode cc pc = .ok (.ifCond .eq off, 3)) (ht : (pc : Int) + off = (tgt : Int)) (kt : b = false → xW p l e R s m args below meth c nL Q H locs cells slots tgt lv st) (kf : b = true → xW p l e R s m args below meth c nL Q H locs cells slots (pc + 3) lv st) : xW p l e R s m args below meth c nL Q H locs cells slots pc lv (.int (bI b) :: st) := fun ls hl => lv_if_eq C.1 C.2.1 hd ht (fun h => kt (bI_0.mp h) ls hl) (fun h => kf (bI_n0.mp h) ls hl)
theorem x_ifB_ne {b : Bool} {off : Int} (tgt : Nat) (C : xC D cA own cc nL rt p s m args meth c) (hd : decode cc pc = .ok (.ifCond .ne off, 3)) (ht : (pc : Int) + off = (tgt : Int)) (kt : b = true → xW p l e R s m args below meth c nL Q H locs cells slots tgt lv st) (kf : b = false → xW p l e R s m args below meth c nL Q H locs cells slots (pc + 3) lv st) : xW p l e R s m args below meth c nL Q H locs cells slots pc lv (.int (bI b) :: st) := fun ls hl => lv_if_ne C.1 C.2.1 hd ht (fun h => kt (bI_n0.mp h) ls hl) (fun h => kf (bI_0.mp h) ls hl)
theorem x_lcmp_eq {x y : Int64} {off : Int} (tgt : Nat) (C : xC D cA own cc nL rt p s m args meth c) (hd0 : decode cc pc = .ok (.lcmp, 1)) (hd : decode cc (pc + 1) = .ok (.ifCond .eq off, 3)) (ht : ((pc + 1 : Nat) : Int) + off = (tgt : Int)) (kt : x = y → xW p l e R s m args below meth c nL Q H locs cells slots tgt lv st) (kf : ¬ x = y → xW p l e R s m args below meth c nL Q H locs cells slots (pc + 1 + 3) lv st) : xW p l e R s m args below meth c nL Q H locs cells slots pc lv (.long y :: .long x :: st) := fun ls hl => W.lcmp C.1 C.2.1 hd0 (lv_if_eq C.1 C.2.1 hd ht (fun h => kt (lg_cmp_eq x y |>.mp h) ls hl) (fun h => kf (fun z => h (lg_cmp_eq x y |>.mpr z)) ls hl))
theorem x_lcmp_ne {x y : Int64} {off : Int} (tgt : Nat) (C : xC D cA own cc nL rt p s m args meth c) (hd0 : decode cc pc = .ok (.lcmp, 1)) (hd : decode cc (pc + 1) = .ok (.ifCond .ne off, 3)) (ht : ((pc + 1 : Nat) : Int) + off = (tgt : Int)) (kt : ¬ x = y → xW p l e R s m args below meth c nL Q H locs cells slots tgt lv st) (kf : x = y → xW p l e R s m args below meth c nL Q H locs cells slots (pc + 1 + 3) lv st) : xW p l e R s m args below meth c nL Q H locs cells slots pc lv (.long y :: .long x :: st) := fun ls hl => W.lcmp C.1 C.2.1 hd0 (lv_if_ne C.1 C.2.1 hd ht (fun h => kt (fun z => h (lg_cmp_eq x y |>.mpr z)) ls hl) (fun h => kf (lg_cmp_eq x y |>.mp h) ls hl))
theorem x_lcmp_lt {x y : Int64} {off : Int} (tgt : Nat) (C : xC D cA own cc nL rt p s m args meth c) (hd0 : decode cc pc = .ok (.lcmp, 1)) (hd : decode cc (pc + 1) = .ok (.ifCond .lt off, 3)) (ht : ((pc + 1 : Nat) : Int) + off = (tgt : Int)) (kt : x < y → xW p l e R s m args below meth c nL Q H locs cells slots tgt lv st) (kf : ¬ x < y → xW p l e R s m args below meth c nL Q H locs cells slots (pc + 1 + 3) lv st) : xW p l e R s m args below meth c nL Q H locs cells slots pc lv (.long y :: .long x :: st) := fun ls hl => W.lcmp C.1 C.2.1 hd0 (lv_if_lt C.1 C.2.1 hd ht (fun h => kt (lg_cmp_lt x y |>.mp h) ls hl) (fun h => kf (fun z => h (lg_cmp_lt x y |>.mpr z)) ls hl))
theorem x_lcmp_ge {x y : Int64} {off : Int} (tgt : Nat) (C : xC D cA own cc nL rt p s m args meth c) (hd0 : decode cc pc = .ok (.lcmp, 1)) (hd : decode cc (pc + 1) = .ok (.ifCond .ge off, 3)) (ht : ((pc + 1 : Nat) : Int) + off = (tgt : Int)) (kt : y ≤ x → xW p l e R s m args below meth c nL Q H locs cells slots tgt lv st) (kf : ¬ y ≤ x → xW p l e R s m args below meth c nL Q H locs cells slots (pc + 1 + 3) lv st) : xW p l e R s m args below meth c nL Q H locs cells slots pc lv (.long y :: .long x :: st) := fun ls hl => W.lcmp C.1 C.2.1 hd0 (lv_if_ge C.1 C.2.1 hd ht (fun h => kt (lg_cmp_ge x y |>.mp h) ls hl) (fun h => kf (fun z => h (lg_cmp_ge x y |>.mpr z)) ls hl))
theorem x_lcmp_gt {x y : Int64} {off : Int} (tgt : Nat) (C : xC D cA own cc nL rt p s m args meth c) (hd0 : decode cc pc = .ok (.lcmp, 1)) (hd : decode cc (pc + 1) = .ok (.ifCond .gt off, 3)) (ht : ((pc + 1 : Nat) : Int) + off = (tgt : Int)) (kt : y < x → xW p l e R s m args below meth c nL Q H locs cells slots tgt lv st) (kf : ¬ y < x → xW p l e R s m args below meth c nL Q H locs cells slots (pc + 1 + 3) lv st) : xW p l e R s m args below meth c nL Q H locs cells slots pc lv (.long y :: .long x :: st) := fun ls hl => W.lcmp C.1 C.2.1 hd0 (lv_if_gt C.1 C.2.1 hd ht (fun h => kt (lg_cmp_gt x y |>.mp h) ls hl) (fun h => kf (fun z => h (lg_cmp_gt x y |>.mpr z)) ls hl))
theorem x_lcmp_le {x y : Int64} {off : Int} (tgt : Nat) (C : xC D cA own cc nL rt p s m args meth c) (hd0 : decode cc pc = .ok (.lcmp, 1)) (hd : decode cc (pc + 1) = .ok (.ifCond .le off, 3)) (ht : ((pc + 1 : Nat) : Int) + off = (tgt : Int)) (kt : x ≤ y → xW p l e R s m args below meth c nL Q H locs cells slots tgt lv st) (kf : ¬ x ≤ y → xW p l e R s m args below meth c nL Q H locs cells slots (pc + 1 + 3) lv st) : xW p l e R s m args below meth c nL Q H locs cells slots pc lv (.long y :: .long x :: st) := fun ls hl => W.lcmp C.1 C.2.1 hd0 (lv_if_le C.1 C.2.1 hd ht (fun h => kt (lg_cmp_le x y |>.mp h) ls hl) (fun h => kf (fun z => h (lg_cmp_le x y |>.mpr z)) ls hl))
theorem x_topi {x : Int32} (y : Int32) (h : x = y) (kk : xW p l e R s m args below meth c nL Q H locs cells slots pc lv (.int y :: st)) : xW p l e R s m args below meth c nL Q H locs cells slots pc lv (.int x :: st) := h ▸ kk
theorem x_nami {x : Int32} (kk : ∀ y : Int32, x = y → xW p l e R s m args below meth c nL Q H locs cells slots pc lv (.int y :: st)) : xW p l e R s m args below meth c nL Q H locs cells slots pc lv (.int x :: st) := kk x rfl
theorem x_topl {x : Int64} (y : Int64) (h : x = y) (kk : xW p l e R s m args below meth c nL Q H locs cells slots pc lv (.long y :: st)) : xW p l e R s m args below meth c nL Q H locs cells slots pc lv (.long x :: st) := h ▸ kk
theorem x_sub (lv' : List (Nat × Value)) (ks : List Nat) (hl' : lv_pick lv ks = lv') (kk : xW p l e R s m args below meth c nL Q H locs cells slots pc lv' st) : xW p l e R s m args below meth c nL Q H locs cells slots pc lv st := fun ls hl => kk ls (lv_sub hl ks hl')
theorem x_widen {k n : Nat} (h1 : cells ≤ k) (h2 : slots ≤ n) (kk : xW p l e R s m args below meth c nL Q H locs k n pc lv st) : xW p l e R s m args below meth c nL Q H locs cells slots pc lv st := fun ls hl => W.widen h1 h2 (kk ls hl)
theorem x_ldc {ix : Nat} (v : Int32) (C : xC D cA own cc nL rt p s m args meth c) (hw : Cond.constant own ix v ∈ gW) (hd : decode cc pc = .ok (.ldc ix, 2)) (kk : xW p l e R s m args below meth c nL Q H locs cells slots (pc + 2) lv (.int v :: st)) : xW p l e R s m args below meth c nL Q H locs cells slots pc lv st := fun ls hl => lv_ldc C.1 C.2.1 C.2.2.2.2.1 (C.2.2.2.2.2.1 _ hw) hd (kk ls hl)
theorem x_ldcw {ix : Nat} (v : Int32) (C : xC D cA own cc nL rt p s m args meth c) (hw : Cond.constant own ix v ∈ gW) (hd : decode cc pc = .ok (.ldc_w ix, 3)) (kk : xW p l e R s m args below meth c nL Q H locs cells slots (pc + 3) lv (.int v :: st)) : xW p l e R s m args below meth c nL Q H locs cells slots pc lv st := fun ls hl => lv_ldcw C.1 C.2.1 C.2.2.2.2.1 (C.2.2.2.2.2.1 _ hw) hd (kk ls hl)
theorem x_ldc2 {ix : Nat} (v : Int64) (C : xC D cA own cc nL rt p s m args meth c) (hw : Cond.constantLong own ix v ∈ gW) (hd : decode cc pc = .ok (.ldc2_w ix, 3)) (kk : xW p l e R s m args below meth c nL Q H locs cells slots (pc + 3) lv (.long v :: st)) : xW p l e R s m args below meth c nL Q H locs cells slots pc lv st := fun ls hl => lv_ldc2 C.1 C.2.1 C.2.2.2.2.1 (C.2.2.2.2.2.1 _ hw) hd (kk ls hl)
theorem x_tabIn {dflt lo hi : Int} {offs : Array Int} {len : Nat} {x : Int32} {off : Int} (v : Int) (tgt : Nat) (C : xC D cA own cc nL rt p s m args meth c) (hd : decode cc pc = .ok (.tableswitch dflt lo hi offs, len)) (hv : x.toInt = v) (h1 : ¬ v < lo) (h2 : ¬ hi < v) (ho : offs[(v - lo).toNat]? = some off) (ht : (pc : Int) + off = (tgt : Int)) (kk : xW p l e R s m args below meth c nL Q H locs cells slots tgt lv st) : xW p l e R s m args below meth c nL Q H locs cells slots pc lv (.int x :: st) := fun ls hl => lv_tableIn C.1 C.2.1 hd (by rw [hv]; exact h1) (by rw [hv]; exact h2) (by rw [hv]; exact ho) ht (kk ls hl)
theorem x_tabOut {dflt lo hi : Int} {offs : Array Int} {len : Nat} {x : Int32} (tgt : Nat) (C : xC D cA own cc nL rt p s m args meth c) (hd : decode cc pc = .ok (.tableswitch dflt lo hi offs, len)) (h : x.toInt < lo ∨ hi < x.toInt) (ht : (pc : Int) + dflt = (tgt : Int)) (kk : xW p l e R s m args below meth c nL Q H locs cells slots tgt lv st) : xW p l e R s m args below meth c nL Q H locs cells slots pc lv (.int x :: st) := fun ls hl => lv_tableOut C.1 C.2.1 hd h ht (kk ls hl)
theorem x_iretR {v : Int32} (C : xC D cA own cc nL rt p s m args meth c) (hr : rt = some .int) (hd : decode cc pc = .ok (.ireturn, 1)) {v0 : Option Value} (hv : (some (.int v)) = v0) : xW p l e R s m args below meth c nL (MQ below (xQr v0) args s 0 0 xN) s.heap [] 0 0 pc lv [.int v] := fun ls hl => W.iret C.1 C.2.1 (C.2.2.1.trans hr) (fun t ht hW => ⟨by rw [hv], ht⟩) (fun q h => by cases h) hd C.2.2.2.2.2.2.1
theorem x_iretM {v : Int32} (C : xC D cA own cc nL rt p s m args meth c) (hr : rt = some .int) (hd : decode cc pc = .ok (.ireturn, 1)) {v0 : Option Value} {Wd : Heap → Prop} {A : Nat → Prop} (hv : (some (.int v)) = v0) (hw : Wd H) (hS : va_S A s.heap H locs) : xW p l e R s m args below meth c nL (MQ below (xQm v0 Wd A) args s cells slots A) H locs cells slots pc lv [.int v] := fun ls hl => W.iret C.1 C.2.1 (C.2.2.1.trans hr) (fun t ht hW => ⟨by rw [hv], by rw [ht]; exact hw, hS.F ht⟩) hS.2.2 hd C.2.2.2.2.2.2.1
theorem x_zretR {v : Int32} {ty : FieldType} (C : xC D cA own cc nL rt p s m args meth c) (hr : rt = some ty) (hd : decode cc pc = .ok (.ireturn, 1)) (hn : narrow ty (.int v) = .int v) {v0 : Option Value} (hv : (some (.int v)) = v0) : xW p l e R s m args below meth c nL (MQ below (xQr v0) args s 0 0 xN) s.heap [] 0 0 pc lv [.int v] := fun ls hl => W.zret C.1 C.2.1 (C.2.2.1.trans hr) hn (fun t ht hW => ⟨by rw [hv], ht⟩) (fun q h => by cases h) hd C.2.2.2.2.2.2.1
theorem x_zretM {v : Int32} {ty : FieldType} (C : xC D cA own cc nL rt p s m args meth c) (hr : rt = some ty) (hd : decode cc pc = .ok (.ireturn, 1)) (hn : narrow ty (.int v) = .int v) {v0 : Option Value} {Wd : Heap → Prop} {A : Nat → Prop} (hv : (some (.int v)) = v0) (hw : Wd H) (hS : va_S A s.heap H locs) : xW p l e R s m args below meth c nL (MQ below (xQm v0 Wd A) args s cells slots A) H locs cells slots pc lv [.int v] := fun ls hl => W.zret C.1 C.2.1 (C.2.2.1.trans hr) hn (fun t ht hW => ⟨by rw [hv], by rw [ht]; exact hw, hS.F ht⟩) hS.2.2 hd C.2.2.2.2.2.2.1
theorem x_lretR {v : Int64} (C : xC D cA own cc nL rt p s m args meth c) (hr : rt = some .long) (hd : decode cc pc = .ok (.lreturn, 1)) {v0 : Option Value} (hv : (some (.long v)) = v0) : xW p l e R s m args below meth c nL (MQ below (xQr v0) args s 0 0 xN) s.heap [] 0 0 pc lv [.long v] := fun ls hl => W.lret C.1 C.2.1 (C.2.2.1.trans hr) (fun t ht hW => ⟨by rw [hv], ht⟩) (fun q h => by cases h) hd C.2.2.2.2.2.2.1
theorem x_lretM {v : Int64} (C : xC D cA own cc nL rt p s m args meth c) (hr : rt = some .long) (hd : decode cc pc = .ok (.lreturn, 1)) {v0 : Option Value} {Wd : Heap → Prop} {A : Nat → Prop} (hv : (some (.long v)) = v0) (hw : Wd H) (hS : va_S A s.heap H locs) : xW p l e R s m args below meth c nL (MQ below (xQm v0 Wd A) args s cells slots A) H locs cells slots pc lv [.long v] := fun ls hl => W.lret C.1 C.2.1 (C.2.2.1.trans hr) (fun t ht hW => ⟨by rw [hv], by rw [ht]; exact hw, hS.F ht⟩) hS.2.2 hd C.2.2.2.2.2.2.1
theorem x_vretR  (C : xC D cA own cc nL rt p s m args meth c) (hr : rt = none) (hd : decode cc pc = .ok (.return_, 1)) {v0 : Option Value} (hv : none = v0) : xW p l e R s m args below meth c nL (MQ below (xQr v0) args s 0 0 xN) s.heap [] 0 0 pc lv [] := fun ls hl => W.vret C.1 C.2.1 (C.2.2.1.trans hr) (fun t ht hW => ⟨by rw [hv], ht⟩) (fun q h => by cases h) hd C.2.2.2.2.2.2.1
theorem x_vretM  (C : xC D cA own cc nL rt p s m args meth c) (hr : rt = none) (hd : decode cc pc = .ok (.return_, 1)) {v0 : Option Value} {Wd : Heap → Prop} {A : Nat → Prop} (hv : none = v0) (hw : Wd H) (hS : va_S A s.heap H locs) : xW p l e R s m args below meth c nL (MQ below (xQm v0 Wd A) args s cells slots A) H locs cells slots pc lv [] := fun ls hl => W.vret C.1 C.2.1 (C.2.2.1.trans hr) (fun t ht hW => ⟨by rw [hv], by rw [ht]; exact hw, hS.F ht⟩) hS.2.2 hd C.2.2.2.2.2.2.1
theorem x_aretR {v : Nat} {ty : FieldType} (C : xC D cA own cc nL rt p s m args meth c) (hr : rt = some ty) (hd : decode cc pc = .ok (.areturn, 1)) (hn : (∃ n, ty = .object n) ∨ ∃ t, ty = .array t) {v0 : Option Value} (hv : (some (.ref v)) = v0) : xW p l e R s m args below meth c nL (MQ below (xQr v0) args s 0 0 xN) s.heap [] 0 0 pc lv [.ref v] := fun ls hl => W.aret C.1 C.2.1 (C.2.2.1.trans hr) hn (Or.inr ⟨_, rfl⟩) (fun t ht hW => ⟨by rw [hv], ht⟩) (fun q h => by cases h) hd C.2.2.2.2.2.2.1
theorem x_aretM {v : Nat} {ty : FieldType} (C : xC D cA own cc nL rt p s m args meth c) (hr : rt = some ty) (hd : decode cc pc = .ok (.areturn, 1)) (hn : (∃ n, ty = .object n) ∨ ∃ t, ty = .array t) {v0 : Option Value} {Wd : Heap → Prop} {A : Nat → Prop} (hv : (some (.ref v)) = v0) (hw : Wd H) (hS : va_S A s.heap H locs) : xW p l e R s m args below meth c nL (MQ below (xQm v0 Wd A) args s cells slots A) H locs cells slots pc lv [.ref v] := fun ls hl => W.aret C.1 C.2.1 (C.2.2.1.trans hr) hn (Or.inr ⟨_, rfl⟩) (fun t ht hW => ⟨by rw [hv], by rw [ht]; exact hw, hS.F ht⟩) hS.2.2 hd C.2.2.2.2.2.2.1
/-- a class's facts -/
def xCF (ci : Nat) (Cn : String) (T : u_T) (N : Nat) (ty0 : Nat → FieldType) : Prop := xcl[ci]? = some (Cn, T, N) ∧ (∀ w ∈ u_ws Cn T N, w ∈ gW) ∧ (∀ k, k < N → parseFieldDescriptor (T k).2.2.1 = some (ty0 k)) ∧ ∀ a, a < N → ∀ b, b < N → a ≠ b → (T a).2.1 ≠ (T b).2.1
/-- a link to a field -/
def xFL (own : String) (ix ci k : Nat) (Cn : String) (T : u_T) (N : Nat) (ty0 : Nat → FieldType) : Prop := xCF ci Cn T N ty0 ∧ k < N ∧ Cond.fieldLink own ix (T k).1 (T k).2.1 (T k).2.2.1 ∈ gW
theorem va_one {D : va_G} {cl : List vw_C} {q : Nat × va_E} {H : Heap} (h : va_at D cl q H) : va_P D cl [q] H := fun k x hk => by
  have hz : k < 1 := (List.getElem?_eq_some_iff.mp hk).1
  rw [show k = 0 by omega] at hk
  cases hk
  exact h
theorem va_oneD {A : Nat → Prop} {q : Nat × va_E} (h : A q.1) : va_D A [q] := ⟨fun i j x y hi hj _ => by
  have h1 := (List.getElem?_eq_some_iff.mp hi).1
  have h2 := (List.getElem?_eq_some_iff.mp hj).1
  simp at h1 h2
  omega, fun k x hk => by
  have hz : k < 1 := (List.getElem?_eq_some_iff.mp hk).1
  rw [show k = 0 by omega] at hk
  cases hk
  exact h⟩
theorem x_get {ix ci k N : Nat} {Cn : String} {T : u_T} {ty0 : Nat → FieldType} {a : Nat} {fs : List Value} (v : Value) (C : xC D cA own cc nL rt p s m args meth c) (FL : xFL own ix ci k Cn T N ty0) (hq : va_at D xcl (a, .inr (ci, fs)) H) (hv : fs[k]? = some v) (hd : decode cc pc = .ok (.getfield ix, 3)) (kk : xW p l e R s m args below meth c nL Q H locs cells slots (pc + 3) lv (v :: st)) : xW p l e R s m args below meth c nL Q H locs cells slots pc lv (.ref a :: st) := fun ls hl =>
  va_get (D := D) (Ts := gW) (C := Cn) (T := T) (N := N) C.1 C.2.1 C.2.2.2.2.2.1 FL.1.2.1 C.2.2.2.2.1 C.2.2.2.2.2.2.2.1 (va_one hq) 0 rfl FL.1.1 k FL.2.1 (C.2.2.2.2.2.1 _ FL.2.2) (fun _ h9 => h9) hv hd (kk ls hl)
theorem x_put0 {ix ci k N : Nat} {Cn : String} {T : u_T} {ty0 : Nat → FieldType} {a : Nat} {fs : List Value} {v : Value} {A : Nat → Prop} {H0 : Heap} (C : xC D cA own cc nL rt p s m args meth c) (FL : xFL own ix ci k Cn T N ty0) (hq : va_at D xcl (a, .inr (ci, fs)) H) (hfin : (T k).2.2.2 = false) (hn : narrow (ty0 k) v = v) (hfit : fits (ty0 k) v = true) (hlen : k < fs.length) (hd : decode cc pc = .ok (.putfield ix, 3)) (hS : va_S A H0 H locs) (hA : A a)
    (kk : ∀ (H1 : Heap) (locs1 : List Loc), va_at D xcl (a, .inr (ci, fs.set k v)) H1 → (∀ q : Nat, q ≠ a → H1[q]? = H[q]?) → H1.size = H.size → va_S A H0 H1 locs1 → xW p l e R s m args below meth c nL Q H1 locs1 cells slots (pc + 3) lv st) : xW p l e R s m args below meth c nL Q H locs cells slots pc lv (v :: .ref a :: st) := fun ls hl => by
  obtain ⟨hexec, hb, -, -, hown, hts, -, hK, -⟩ := C
  obtain ⟨⟨hc, hin, hty, hnm⟩, hk, hlink⟩ := FL
  have hlink := hts _ hlink
  have hap := va_apart (own := own) (D := D) (cl := xcl) (tys := xty cA) hts hin ty0 hty hnm hK hc
  obtain ⟨r, h1, cell, q1, q2, q3, q4⟩ := hq
  have hr : r = (Cn, T, N) := Option.some.inj (h1.symm.trans hc)
  subst hr
  obtain ⟨hSl, hfc, kC, hkC, hkind⟩ := hK.1 ci _ hc
  obtain ⟨cf, kf, fi, f, hi, hsl⟩ := hSl k hk
  have hlay := hts _ (hin _ (u_in_lay hk))
  unfold u_lay at hlay
  rw [if_neg (by rw [hfin]; decide)] at hlay
  have hst := (u_facts hfc hkC (u_lays hts hin hk) hi).1
  have h6 := u_store hfc hkC hkind hlay hi (hty k hk) hn hfit
  refine W.putK hexec hb (f := f) ⟨hown, hlink, ⟨_, _, _, hi⟩, hst⟩ (by rw [q2]; exact h6) q1 q3 (by rw [hsl]; exact k2_hasslot (q4 k hk)) rfl rfl hd fun H' e1 e2 e3 => ?_
  rw [hsl] at e1 ⊢
  exact kk H' _ ⟨_, hc, t_OB.to (V := updV (vp_V fs) k v) ⟨_, e1, q2, q3, t_set q4 hap hk v⟩ (fun j _ => vp_updV_set hlen v j)⟩ e3 e2 (hS.put e2 e3 hA) ls hl
theorem x_iald {a n : Nat} {f : Nat → Int32} {i : Int32} (C : xC D cA own cc nL rt p s m args meth c) (hq : va_at D xcl (a, .inl (cA 0, n, .inl f)) H) (hin : vp_in i n) (hd : decode cc pc = .ok (.iaload, 1)) (kk : xW p l e R s m args below meth c nL Q H locs cells slots (pc + 1) lv (.int (f i.toNatClampNeg) :: st)) : xW p l e R s m args below meth c nL Q H locs cells slots pc lv (.int i :: .ref a :: st) := fun ls hl => va_iald (D := D) (cl := xcl) (tys := xty cA) C.1 C.2.1 C.2.2.2.2.2.2.2.1 (va_one hq) 0 0 rfl rfl hin hd (kk ls hl)
theorem x_lald {a n : Nat} {f : Nat → Int64} {i : Int32} (C : xC D cA own cc nL rt p s m args meth c) (hq : va_at D xcl (a, .inl (cA 1, n, .inr (.inl f))) H) (hin : vp_in i n) (hd : decode cc pc = .ok (.laload, 1)) (kk : xW p l e R s m args below meth c nL Q H locs cells slots (pc + 1) lv (.long (f i.toNatClampNeg) :: st)) : xW p l e R s m args below meth c nL Q H locs cells slots pc lv (.int i :: .ref a :: st) := fun ls hl => va_lald (D := D) (cl := xcl) (tys := xty cA) C.1 C.2.1 C.2.2.2.2.2.2.2.1 (va_one hq) 0 1 rfl rfl hin hd (kk ls hl)
theorem x_bald {a n : Nat} {f : Nat → Int32} {i : Int32} (C : xC D cA own cc nL rt p s m args meth c) (hq : va_at D xcl (a, .inl (cA 2, n, .inl f)) H) (hin : vp_in i n) (hd : decode cc pc = .ok (.baload, 1)) (kk : xW p l e R s m args below meth c nL Q H locs cells slots (pc + 1) lv (.int (f i.toNatClampNeg) :: st)) : xW p l e R s m args below meth c nL Q H locs cells slots pc lv (.int i :: .ref a :: st) := fun ls hl => va_bald (D := D) (cl := xcl) (tys := xty cA) C.1 C.2.1 C.2.2.2.2.2.2.2.1 (va_one hq) 0 2 rfl rfl hin hd (kk ls hl)
theorem x_aald {a n : Nat} {f : Nat → Option Nat} {i : Int32} {k : Nat} {Cn : String} (t : Nat) {z : Nat} (C : xC D cA own cc nL rt p s m args meth c) (hq : va_at D xcl (a, .inl (cA t, n, .inr (.inr (.inr (.inr f))))) H) (ht : (xty cA)[t]? = some (cA t, .object Cn)) (hi : i = nI k) (hk : k < n) (hk31 : n < 2 ^ 31) (hf : f k = some z) (hd : decode cc pc = .ok (.aaload, 1)) (kk : xW p l e R s m args below meth c nL Q H locs cells slots (pc + 1) lv (.ref z :: st)) : xW p l e R s m args below meth c nL Q H locs cells slots pc lv (.int i :: .ref a :: st) := fun ls hl => by
  subst hi
  refine va_aldq (D := D) (cl := xcl) (tys := xty cA) C.1 C.2.1 C.2.2.2.2.2.2.2.1 (va_one hq) 0 t rfl ht (vp_in_nI hk hk31) hd ?_
  rw [nI_clamp (by omega), hf]
  exact kk ls hl
theorem x_alen {a t : Nat} {x : vp_A} {ty : FieldType} (v : Int32) (C : xC D cA own cc nL rt p s m args meth c) (hq : va_at D xcl (a, .inl (cA t, x)) H) (ht : (xty cA)[t]? = some (cA t, ty)) (hv : Int32.ofNat x.1 = v) (hd : decode cc pc = .ok (.arraylength, 1)) (kk : xW p l e R s m args below meth c nL Q H locs cells slots (pc + 1) lv (.int v :: st)) : xW p l e R s m args below meth c nL Q H locs cells slots pc lv (.ref a :: st) := fun ls hl => va_alen (D := D) (cl := xcl) (tys := xty cA) C.1 C.2.1 C.2.2.2.2.2.2.2.1 (va_one hq) 0 t rfl ht hv hd (kk ls hl)
theorem x_iast0 {a n : Nat} {f : Nat → Int32} {i : Int32} {x : Int32} {A : Nat → Prop} {H0 : Heap} (C : xC D cA own cc nL rt p s m args meth c) (hq : va_at D xcl (a, .inl (cA 0, n, .inl f)) H) (hin : vp_in i n) (hd : decode cc pc = .ok (.iastore, 1)) (hS : va_S A H0 H locs) (hA : A a)
    (kk : ∀ (H1 : Heap) (locs1 : List Loc), va_at D xcl (a, .inl (cA 0, n, .inl (upd f i.toNatClampNeg x))) H1 → (∀ q : Nat, q ≠ a → H1[q]? = H[q]?) → H1.size = H.size → va_S A H0 H1 locs1 → xW p l e R s m args below meth c nL Q H1 locs1 cells slots (pc + 1) lv st) : xW p l e R s m args below meth c nL Q H locs cells slots pc lv (.int x :: .int i :: .ref a :: st) := fun ls hl => by
  obtain ⟨hexec, hb, -, -, hown, hts, -, hK, -⟩ := C
  refine W.iast hexec hb hq ((hK.2 0 _ rfl).1 n (fun j => .int (f j))) (fun q => by cases q) (by show ¬ (i < 0 ∨ (arrV _ _ _).slots.size ≤ _); rw [arrV_size]; exact hin) rfl rfl hd fun H1 e z oq => ?_
  refine kk H1 _ ?_ oq z (hS.put z oq hA) ls hl
  show H1[a]? = some (vp_cell _ _)
  rw [e]
  rw [vp_cell_i, vp_cell_i, arrV_store]
  congr 2
  funext q
  by_cases hq : q = i.toNatClampNeg
  · subst hq
    simp [updV, upd]
    try rfl
  · simp [updV, upd, hq]
theorem x_last0 {a n : Nat} {f : Nat → Int64} {i : Int32} {x : Int64} {A : Nat → Prop} {H0 : Heap} (C : xC D cA own cc nL rt p s m args meth c) (hq : va_at D xcl (a, .inl (cA 1, n, .inr (.inl f))) H) (hin : vp_in i n) (hd : decode cc pc = .ok (.lastore, 1)) (hS : va_S A H0 H locs) (hA : A a)
    (kk : ∀ (H1 : Heap) (locs1 : List Loc), va_at D xcl (a, .inl (cA 1, n, .inr (.inl (vp_updL f i.toNatClampNeg x)))) H1 → (∀ q : Nat, q ≠ a → H1[q]? = H[q]?) → H1.size = H.size → va_S A H0 H1 locs1 → xW p l e R s m args below meth c nL Q H1 locs1 cells slots (pc + 1) lv st) : xW p l e R s m args below meth c nL Q H locs cells slots pc lv (.long x :: .int i :: .ref a :: st) := fun ls hl => by
  obtain ⟨hexec, hb, -, -, hown, hts, -, hK, -⟩ := C
  refine W.last hexec hb hq ((hK.2 1 _ rfl).1 n (fun j => .long (f j))) (fun q => by cases q) (by show ¬ (i < 0 ∨ (arrV _ _ _).slots.size ≤ _); rw [arrV_size]; exact hin) rfl rfl hd fun H1 e z oq => ?_
  refine kk H1 _ ?_ oq z (hS.put z oq hA) ls hl
  show H1[a]? = some (vp_cell _ _)
  rw [e]
  rw [vp_cell_l, vp_cell_l, arrV_store]
  congr 2
  funext q
  by_cases hq : q = i.toNatClampNeg
  · subst hq
    simp [updV, vp_updL]
    try rfl
  · simp [updV, vp_updL, hq]
theorem x_bast0 {a n : Nat} {f : Nat → Int32} {i : Int32} {x : Int32} {A : Nat → Prop} {H0 : Heap} (C : xC D cA own cc nL rt p s m args meth c) (hq : va_at D xcl (a, .inl (cA 2, n, .inl f)) H) (hin : vp_in i n) (hd : decode cc pc = .ok (.bastore, 1)) (hS : va_S A H0 H locs) (hA : A a)
    (kk : ∀ (H1 : Heap) (locs1 : List Loc), va_at D xcl (a, .inl (cA 2, n, .inl (upd f i.toNatClampNeg (vp_nar .byte x)))) H1 → (∀ q : Nat, q ≠ a → H1[q]? = H[q]?) → H1.size = H.size → va_S A H0 H1 locs1 → xW p l e R s m args below meth c nL Q H1 locs1 cells slots (pc + 1) lv st) : xW p l e R s m args below meth c nL Q H locs cells slots pc lv (.int x :: .int i :: .ref a :: st) := fun ls hl => by
  obtain ⟨hexec, hb, -, -, hown, hts, -, hK, -⟩ := C
  refine W.bast hexec hb hq ((hK.2 2 _ rfl).1 n (fun j => .int (f j))) (fun q => by cases q) (by show ¬ (i < 0 ∨ (arrV _ _ _).slots.size ≤ _); rw [arrV_size]; exact hin) rfl rfl hd fun H1 e z oq => ?_
  refine kk H1 _ ?_ oq z (hS.put z oq hA) ls hl
  show H1[a]? = some (vp_cell _ _)
  rw [e]
  rw [vp_cell_i, vp_cell_i, arrV_store]
  congr 2
  funext q
  by_cases hq : q = i.toNatClampNeg
  · subst hq
    simp [updV, upd, vp_nar]
    try rfl
  · simp [updV, upd, vp_nar, hq]
end XR
/-- a link to an instance method, one to a static one -/
def xMV (own : String) (ix : Nat) (Cn : String) (y : MethodName) (b : ByteArray) (n : Nat) (r : Option FieldType) (k : Nat) : Prop :=
  Cond.methodLink own ix y ∈ gW ∧ Cond.instanceMethod y ∈ gW ∧ Cond.selects Cn y y ∈ gW ∧ Cond.initialized Cn ∈ gW ∧ Cond.code y b n r ∈ gW ∧ y.cls = Cn ∧ y.cls ≠ "java/lang/invoke/MethodHandle" ∧ y.cls ≠ "java/lang/invoke/VarHandle" ∧ (parseMethodDescriptor y.desc).map (fun d => d.parameters.length) = some k
def xMS (own : String) (ix : Nat) (y : MethodName) (b : ByteArray) (n : Nat) (r : Option FieldType) (k : Nat) : Prop :=
  Cond.methodLink own ix y ∈ gW ∧ Cond.static y ∈ gW ∧ Cond.initialized y.cls ∈ gW ∧ Cond.code y b n r ∈ gW ∧ y.cls ≠ "java/lang/invoke/MethodHandle" ∧ y.cls ≠ "java/lang/invoke/VarHandle" ∧ (parseMethodDescriptor y.desc).map (fun d => d.parameters.length) = some k
def xMN (own : String) (ix : Nat) (y : MethodName) (host : String) (b : ByteArray) (n : Nat) (r : Option FieldType) (k : Nat) : Prop :=
  Cond.methodLinkNest own ix y host ∈ xnw ∧ Cond.static y ∈ gW ∧ Cond.initialized y.cls ∈ gW ∧ Cond.code y b n r ∈ gW ∧ y.cls ≠ "java/lang/invoke/MethodHandle" ∧ y.cls ≠ "java/lang/invoke/VarHandle" ∧ (parseMethodDescriptor y.desc).map (fun d => d.parameters.length) = some k
theorem xgood {ws : List Cond} (h : ∀ w ∈ ws, w ∈ gW) : GoodIn gW ws := fun w hw => ⟨h w hw, good_of_word (gW_good (h w hw))⟩
theorem xMV.good {own : String} {ix : Nat} {Cn : String} {y : MethodName} {b : ByteArray} {n : Nat} {r : Option FieldType} {k : Nat} (h : xMV own ix Cn y b n r k) : GoodIn gW (wsV own ix Cn y (wsG y b n r)) := by
  obtain ⟨h1, h2, h3, h4, h5, -⟩ := h
  refine xgood fun w hw => ?_
  simp only [wsV, List.cons_append, List.nil_append, List.mem_cons] at hw
  rcases hw with rfl | rfl | rfl | rfl | rfl | hw
  · exact h1
  · exact h2
  · exact h3
  · exact h4
  · exact h5
  · exact hw
theorem xMS.good {own : String} {ix : Nat} {y : MethodName} {b : ByteArray} {n : Nat} {r : Option FieldType} {k : Nat} (h : xMS own ix y b n r k) : GoodIn gW (va_wsS own ix y (wsG y b n r)) := by
  obtain ⟨h1, h2, h3, h4, -⟩ := h
  refine xgood fun w hw => ?_
  simp only [va_wsS, List.cons_append, List.nil_append, List.mem_cons] at hw
  rcases hw with rfl | rfl | rfl | rfl | hw
  · exact h1
  · exact h2
  · exact h3
  · exact h4
  · exact hw
/-- the room of a callee in a caller's -/
def xRm (rm R : Room) (mc ms n : Nat) : Prop := rm.cells = mc ∧ rm.slots = ms ∧ rm.frames + 1 ≤ R.frames ∧ 8 + (n + 11) + rm.locals ≤ R.locals
section XCALL
variable {p : Program} {l : Launch} {e : Env} {R : Room} {s : State} {m : MethodId} {args : Array Value} {below : List Frame} {meth : Method} {c : Code} {nL : Nat} {Q : State → Prop} {H : Heap} {locs : List Loc} {cells slots : Nat} {pc : Nat} {lv : List (Nat × Value)} {st : List Value}
  {D : va_G} {cA : Nat → ClassId} {own : String} {cc : ByteArray} {rt : Option FieldType}
  {ix n k ci N mc ms b : Nat} {Cn host : String} {y : MethodName} {bytes : ByteArray} {r : Option FieldType} {rm : Room} {As fs : List Value} {Wd Wd' : Heap → Prop} {T : u_T} {v : Option Value} {A0 A1 : Nat → Prop} {H0 : Heap}
theorem x_runV {Qc : Array Value → State → Outcome → State → Prop} {free : Nat → Prop} {ls : Array Slot} (rest : List Value) (hl : ls.size = nL) (C : xC D cA own cc nL rt p s m args meth c) (ML : xMV own ix Cn y bytes n r k) (hM : Met l y (wsG y bytes n r) rm (xP D cA (.ref b :: As) Wd) Qc mc ms free) (hrm : xRm rm R mc ms n) (hn : As.length = k) (hrecv : va_at D xcl (b, .inr (ci, fs)) H) (hci : xcl[ci]? = some (Cn, T, N)) (hWd : Wd H) (hro : (rest.map fun v => v.category).sum ≤ 8) (hcs : cells + mc ≤ R.cells ∧ slots + ms ≤ R.slots) (hd : decode cc pc = .ok (.invokevirtual ix, 3)) :
    va_Run p l e R s m args below meth c H locs cells slots mc ms (F0 m pc ls (As.reverse ++ .ref b :: rest)) rest (Qc (Value.ref b :: As).toArray) free :=
  va_runV (As := As) (rest := rest) ⟨C.1, C.2.1, C.2.2.2.1, C.2.2.2.2.1, C.2.2.2.2.2.1⟩ hM (cwV k C.2.2.2.2.2.1 ML.good rfl hrm.1 hrm.2.1 ML.2.2.2.2.2 hrm.2.2) ⟨xP_blind, va_recv C.2.2.2.2.2.2.2.1 (va_one hrecv) hci (q0 := 0) rfl, fun U hU hW => ⟨rfl, C.2.2.2.2.2.2.2.warm hW, by rw [hU]; exact hWd⟩⟩ rfl hn hl rfl (lv_room hro) hd hcs
theorem x_runS {Qc : Array Value → State → Outcome → State → Prop} {free : Nat → Prop} {ls : Array Slot} (rest : List Value) (hl : ls.size = nL) (C : xC D cA own cc nL rt p s m args meth c) (ML : xMS own ix y bytes n r k) (hM : Met l y (wsG y bytes n r) rm (xP D cA As Wd) Qc mc ms free) (hrm : xRm rm R mc ms n) (hn : As.length = k) (hWd : Wd H) (hro : (rest.map fun v => v.category).sum ≤ 8) (hcs : cells + mc ≤ R.cells ∧ slots + ms ≤ R.slots) (hd : decode cc pc = .ok (.invokestatic ix, 3)) :
    va_Run p l e R s m args below meth c H locs cells slots mc ms (F0 m pc ls (As.reverse ++ rest)) rest (Qc As.toArray) free :=
  va_runS (As := As) (rest := rest) ⟨C.1, C.2.1, C.2.2.2.1, C.2.2.2.2.1, C.2.2.2.2.2.1⟩ hM (va_cwS k C.2.2.2.2.2.1 ML.good rfl hrm.1 hrm.2.1 ML.2.2.2.2 hrm.2.2) ⟨xP_blind, fun U hU hW => ⟨rfl, C.2.2.2.2.2.2.2.warm hW, by rw [hU]; exact hWd⟩⟩ rfl hn hl rfl (lv_room hro) hd hcs
theorem x_runN {Qc : Array Value → State → Outcome → State → Prop} {free : Nat → Prop} {ls : Array Slot} (rest : List Value) (hl : ls.size = nL) (C : xC D cA own cc nL rt p s m args meth c) (ML : xMN own ix y host bytes n r k) (hM : Met l y (wsG y bytes n r) rm (xP D cA As Wd) Qc mc ms free) (hrm : xRm rm R mc ms n) (hn : As.length = k) (hWd : Wd H) (hro : (rest.map fun v => v.category).sum ≤ 8) (hcs : cells + mc ≤ R.cells ∧ slots + ms ≤ R.slots) (hd : decode cc pc = .ok (.invokestatic ix, 3)) :
    va_Run p l e R s m args below meth c H locs cells slots mc ms (F0 m pc ls (As.reverse ++ rest)) rest (Qc As.toArray) free := by
  obtain ⟨h1, h2, h3, h4, h5⟩ := ML
  exact va_runSN (As := As) (rest := rest) ⟨C.1, C.2.1, C.2.2.2.1, C.2.2.2.2.1, C.2.2.2.2.2.1⟩ hM ⟨va_cnB k C.2.2.2.2.2.1 (wsG_good h4) rfl hrm.1 hrm.2.1 (C.2.2.2.2.2.2.2.2 _ h1) (C.2.2.2.2.2.1 _ h3) h5 hrm.2.2, C.2.2.2.2.2.1 _ h2, trivial⟩ ⟨xP_blind, fun U hU hW => ⟨rfl, C.2.2.2.2.2.2.2.warm hW, by rw [hU]; exact hWd⟩⟩ rfl hn hl rfl (lv_room hro) hd hcs
theorem x_goR {rest st0 : List Value} {a : Array Value} (run : ∀ ls : Array Slot, ls.size = nL → va_Run p l e R s m args below meth c H locs cells slots 0 0 (F0 m pc ls st0) rest (xQr v a) xN) (kk : xW p l e R s m args below meth c nL Q H locs cells slots (pc + 3) lv (v.toList ++ rest)) : xW p l e R s m args below meth c nL Q H locs cells slots pc lv st0 := fun ls hl T hT X => by
  obtain ⟨v', st₀, t, T', L, h0, X', hL, e1, e2, ⟨hv, hh⟩, stp⟩ := run ls hl.1 T hT X
  cases hv
  obtain ⟨t2, a1, b1⟩ := kk ls hl T' (by rw [e1, hh, h0]) (Stand.forget X' (fun q h => False.elim (hL q h)))
  exact ⟨t2, stp t2 a1, b1⟩
theorem x_goM {rest st0 : List Value} {a : Array Value} (run : ∀ ls : Array Slot, ls.size = nL → va_Run p l e R s m args below meth c H locs cells slots mc ms (F0 m pc ls st0) rest (xQm v Wd' A1 a) A1) (hS : va_S A0 H0 H locs) (hA : ∀ q, A1 q → A0 q)
    (kk : ∀ (H1 : Heap) (locs1 : List Loc), Wd' H1 → H.size ≤ H1.size → (∀ q : Nat, q < H.size → ¬ A1 q → H1[q]? = H[q]?) → va_S A0 H0 H1 locs1 → xW p l e R s m args below meth c nL Q H1 locs1 (cells + mc) (slots + ms) (pc + 3) lv (v.toList ++ rest)) : xW p l e R s m args below meth c nL Q H locs cells slots pc lv st0 := fun ls hl T hT X => by
  obtain ⟨v', st₀, t, T', L, h0, X', hL, e1, e2, ⟨hv, hw, hz, hk⟩, stp⟩ := run ls hl.1 T hT X
  cases hv
  rw [h0] at hz hk
  obtain ⟨t2, a1, b1⟩ := kk t.heap (locs ++ L) hw hz hk ⟨Nat.le_trans hS.1 hz, fun q h1 h2 => (hk q (Nat.lt_of_lt_of_le h1 hS.1) (fun z => h2 (hA q z))).trans (hS.2.1 q h1 h2), fun q hq => by
    rcases List.mem_append.mp hq with h | h
    · exact hS.2.2 q h
    · exact hA _ (hL q h)⟩ ls hl T' e1 X'
  exact ⟨t2, stp t2 a1, b1⟩
end XCALL
