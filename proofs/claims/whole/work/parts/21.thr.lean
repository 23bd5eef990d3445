/-! Methods that throw (1 index, 2 argument, 3 state), ends with cells, arraycopy, rows of both worlds. -/
def exN : Nat → String
  | 1 => "java/lang/IndexOutOfBoundsException"
  | 2 => "java/lang/IllegalArgumentException"
  | _ => "java/lang/IllegalStateException"
def xexP : List String := ["java/lang/RuntimeException", "java/lang/Exception"]
def xdcl : List MethodName := [Bundle.initS "java/lang/RuntimeException", Bundle.initS "java/lang/Exception", Bundle.initS Bundle.tN]
def xOut (s0 : State) : Nat → Prop := fun q => s0.heap.size ≤ q
/-- what a throw needs of the start -/
def xThr (s0 : State) : Prop := vx_Zq Bundle.tN "UNASSIGNED_STACK" Bundle.steD (xOut s0) s0 s0.heap ∧ vx_Zq Bundle.tN "SUPPRESSED_SENTINEL" Bundle.listD (xOut s0) s0 s0.heap ∧ ((∀ k, va_Nw (.castable (exN k) (exN k)) s0) ∧ ∀ y ∈ xdcl, va_Nw (.declares y) s0) ∧ (∃ a, vk_R "PortDues" 410 "there is no such number" a s0) ∧ (∃ a, vk_R "PortDues" 417 "a value is out of range" a s0) ∧ (∃ a, vk_R "PortDues" 422 "this is not possible now" a s0)
/-- the end of a method that may throw: it returns -/
def xQt {β : Type} (vf : β → Option Value) (Wf : β → Heap → Prop) (A : Nat → Prop) (r : Thr β) : Array Value → State → Outcome → State → Prop := fun _ st o t => ∃ q, r = .ok q ∧ o = .returned (vf q) ∧ Wf q t.heap ∧ va_F A st t
/-- the end of a method that may throw: it throws -/
def xXt {β : Type} (Wd : Heap → Prop) (A : Nat → Prop) (r : Thr β) : String → State → State → Prop := fun E st t => ∃ k, r = .error k ∧ E = exN k ∧ Wd t.heap ∧ va_F A st t
/-- what a body that throws has besides: no handlers, the start's heap -/
def xTt (c : Code) (s s0 : State) (b : Nat) : Prop := (∀ x ∈ c.exceptionTable.toList, False) ∧ extS s0 s.heap ∧ s0.heap.size ≤ b
theorem rt_o {α : Type} {q : α} {r : Thr α} (h : some (Except.ok q : Thr α) = some r) : r = .ok q := by cases h; rfl
theorem rt_x {α : Type} {k : Nat} {r : Thr α} (h : some (Except.error k : Thr α) = some r) : r = .error k := by cases h; rfl
theorem vx_Zq_at {s0 s : State} {n d : String} {b N : Nat} (h : vx_Zq Bundle.tN n d (xOut s0) s0 s0.heap) (hW : s0.WarmedH s.vm) (hx : extS s0 s.heap) (hb : s0.heap.size ≤ b) : vx_Zq Bundle.tN n d (xA b N s.heap.size) s s.heap :=
  ((vx_Zq.moved hW.alike h).kept (fun a _ hn => hx.2 a (Nat.not_le.mp hn))).narrow (fun q hq => hq.elim (fun z => Nat.le_trans hb z.1) (fun z => Nat.le_trans hx.1 z))
theorem WC.ext {D : va_G} {cA : Nat → ClassId} {s0 : State} {z b : Nat} {ν : Mm} {H H1 : Heap} (h : WC D cA s0 z b ν H) (hz : H.size ≤ H1.size) (hq : ∀ q : Nat, q < H.size → H1[q]? = H[q]?) : WC D cA s0 z b ν H1 := by
  obtain ⟨h1, h2, h3, h4, nm, hR⟩ := h
  exact ⟨h1, h2, Nat.le_trans h3 hz, ⟨Nat.le_trans h4.1 hz, fun q hq' => (hq q (Nat.lt_of_lt_of_le hq' h4.1)).trans (h4.2 q hq')⟩, nm, hR.kept (fun q _ g2 => hq q (by omega))⟩
theorem arrV_same {cI : ClassId} {N : Nat} {f g : Nat → Value} (h : ∀ j, j < N → f j = g j) : arrV cI N f = arrV cI N g := by
  unfold arrV
  rw [show (fun j : Fin N => f j.val) = fun j => g j.val from funext fun j => h j.val j.isLt]
section TROWS
variable {p : Program} {l : Launch} {e : Env} {R : Room} {s : State} {m : MethodId} {args : Array Value} {below : List Frame} {meth : Method} {c : Code} {nL : Nat} {Q : State → Prop} {H : Heap} {locs : List Loc} {cells slots : Nat} {pc : Nat} {lv : List (Nat × Value)} {st : List Value}
  {D : va_G} {cA : Nat → ClassId} {s0 : State} {own : String} {cc : ByteArray} {rt : Option FieldType} {z b : Nat} {ν : Mm}
theorem t_start {l : Launch} {y : MethodName} {bb : ByteArray} {n : Nat} {r : Option FieldType} {rm : Room} {av : List Value} {sz : Nat} {Qc : Array Value → State → Outcome → State → Prop} {XC : String → State → State → Prop} {mc ms : Nat} {free : Addr → Prop} {D : va_G} {cA : Nat → ClassId} {s0 : State} {z b : Nat} {ν : Mm}
    {own : String} (lv : List (Nat × Value)) (hlv : lv_args 0 av = lv) (ho : y.cls = own) (hy : plainName own = true) (hn : (lg_sl av).length ≤ n)
    (body : ∀ (p : Program) (e : Env) (s : State) (m : MethodId) (args : Array Value) (below : List Frame) (meth : Method) (c : Code), xC D cA s0 own bb n r p s m args meth c → xTt c s s0 b → (s.heap.size = sz ∧ WC D cA s0 z b ν s.heap) → xW p l e rm s m args below meth c n (vx_MQ below Qc XC args s mc ms free) s.heap [] 0 0 0 lv []) : vx_Met l y (wsG y bb n r) rm (xP D cA s0 av (fun H => H.size = sz ∧ WC D cA s0 z b ν H)) Qc XC mc ms free := by
  subst ho
  subst hlv
  refine vx_ofW (cc := bb) (maxL := n) (ret := r) hy rfl ?_
  intro p e s m args below meth c s₁ B hml hT hv
  obtain ⟨rfl, hK, hWd⟩ := hv
  have hts := atoms_spec (ws := wsG y bb n r) B.pre
  rw [lg_entry_eq]
  exact body p e s m av.toArray below meth c ⟨B.exec, B.bytes, B.returns, hml, findClass_of_methodNamed B.named, fun w hw => hts w (List.mem_cons_of_mem _ hw), B.notSynchronized, hK⟩ ⟨hT, hWd.2.2.2.2.1, hWd.2.1⟩ hWd _ (lv_entry av hn)
theorem x_iretM2 {v : Int32} {mc ms : Nat} (C : xC D cA s0 own cc nL rt p s m args meth c) (hr : rt = some .int) (hd : decode cc pc = .ok (.ireturn, 1)) {v0 : Option Value} {Wd : Heap → Prop} {A : Nat → Prop} (hv : some (Value.int v) = v0) (hw : Wd H) (hS : va_S A s.heap H locs) (hc : cells ≤ mc) (hs : slots ≤ ms) : xW p l e R s m args below meth c nL (MQ below (xQm v0 Wd A) args s mc ms A) H locs cells slots pc lv [.int v] := fun ls hl => W.widen hc hs (W.iret C.1 C.2.1 (C.2.2.1.trans hr) (fun t ht hW => ⟨by rw [hv], by rw [ht]; exact hw, hS.F ht⟩) hS.2.2 hd C.2.2.2.2.2.2.1)
theorem t_iret {v : Int32} {mc ms : Nat} {β : Type} {r : Thr β} {vf : β → Option Value} {Wf : β → Heap → Prop} {XC : String → State → State → Prop} {q : β} (C : xC D cA s0 own cc nL rt p s m args meth c) (hr : rt = some .int) (hd : decode cc pc = .ok (.ireturn, 1)) {A : Nat → Prop} (hq : r = .ok q) (hv : some (Value.int v) = vf q) (hw : Wf q H) (hS : va_S A s.heap H locs) (hc : cells ≤ mc) (hs : slots ≤ ms) : xW p l e R s m args below meth c nL (vx_MQ below (xQt vf Wf A r) XC args s mc ms A) H locs cells slots pc lv [.int v] := fun ls hl => vx_ret (W.widen hc hs (W.iret C.1 C.2.1 (C.2.2.1.trans hr) (fun t ht hW => ⟨q, hq, by rw [hv], by rw [ht]; exact hw, hS.F ht⟩) hS.2.2 hd C.2.2.2.2.2.2.1))
theorem x_zretM2 {v : Int32} {mc ms : Nat} {ty : FieldType} (C : xC D cA s0 own cc nL rt p s m args meth c) (hr : rt = some ty) (hd : decode cc pc = .ok (.ireturn, 1)) (hn : narrow ty (.int v) = .int v) {v0 : Option Value} {Wd : Heap → Prop} {A : Nat → Prop} (hv : some (Value.int v) = v0) (hw : Wd H) (hS : va_S A s.heap H locs) (hc : cells ≤ mc) (hs : slots ≤ ms) : xW p l e R s m args below meth c nL (MQ below (xQm v0 Wd A) args s mc ms A) H locs cells slots pc lv [.int v] := fun ls hl => W.widen hc hs (W.zret C.1 C.2.1 (C.2.2.1.trans hr) hn (fun t ht hW => ⟨by rw [hv], by rw [ht]; exact hw, hS.F ht⟩) hS.2.2 hd C.2.2.2.2.2.2.1)
theorem t_zret {v : Int32} {mc ms : Nat} {β : Type} {r : Thr β} {vf : β → Option Value} {Wf : β → Heap → Prop} {XC : String → State → State → Prop} {q : β} {ty : FieldType} (C : xC D cA s0 own cc nL rt p s m args meth c) (hr : rt = some ty) (hd : decode cc pc = .ok (.ireturn, 1)) (hn : narrow ty (.int v) = .int v) {A : Nat → Prop} (hq : r = .ok q) (hv : some (Value.int v) = vf q) (hw : Wf q H) (hS : va_S A s.heap H locs) (hc : cells ≤ mc) (hs : slots ≤ ms) : xW p l e R s m args below meth c nL (vx_MQ below (xQt vf Wf A r) XC args s mc ms A) H locs cells slots pc lv [.int v] := fun ls hl => vx_ret (W.widen hc hs (W.zret C.1 C.2.1 (C.2.2.1.trans hr) hn (fun t ht hW => ⟨q, hq, by rw [hv], by rw [ht]; exact hw, hS.F ht⟩) hS.2.2 hd C.2.2.2.2.2.2.1))
theorem x_lretM2 {v : Int64} {mc ms : Nat} (C : xC D cA s0 own cc nL rt p s m args meth c) (hr : rt = some .long) (hd : decode cc pc = .ok (.lreturn, 1)) {v0 : Option Value} {Wd : Heap → Prop} {A : Nat → Prop} (hv : some (Value.long v) = v0) (hw : Wd H) (hS : va_S A s.heap H locs) (hc : cells ≤ mc) (hs : slots ≤ ms) : xW p l e R s m args below meth c nL (MQ below (xQm v0 Wd A) args s mc ms A) H locs cells slots pc lv [.long v] := fun ls hl => W.widen hc hs (W.lret C.1 C.2.1 (C.2.2.1.trans hr) (fun t ht hW => ⟨by rw [hv], by rw [ht]; exact hw, hS.F ht⟩) hS.2.2 hd C.2.2.2.2.2.2.1)
theorem t_lret {v : Int64} {mc ms : Nat} {β : Type} {r : Thr β} {vf : β → Option Value} {Wf : β → Heap → Prop} {XC : String → State → State → Prop} {q : β} (C : xC D cA s0 own cc nL rt p s m args meth c) (hr : rt = some .long) (hd : decode cc pc = .ok (.lreturn, 1)) {A : Nat → Prop} (hq : r = .ok q) (hv : some (Value.long v) = vf q) (hw : Wf q H) (hS : va_S A s.heap H locs) (hc : cells ≤ mc) (hs : slots ≤ ms) : xW p l e R s m args below meth c nL (vx_MQ below (xQt vf Wf A r) XC args s mc ms A) H locs cells slots pc lv [.long v] := fun ls hl => vx_ret (W.widen hc hs (W.lret C.1 C.2.1 (C.2.2.1.trans hr) (fun t ht hW => ⟨q, hq, by rw [hv], by rw [ht]; exact hw, hS.F ht⟩) hS.2.2 hd C.2.2.2.2.2.2.1))
theorem x_aretM2 {v : Nat} {mc ms : Nat} {ty : FieldType} (C : xC D cA s0 own cc nL rt p s m args meth c) (hr : rt = some ty) (hd : decode cc pc = .ok (.areturn, 1)) (hn : (∃ n, ty = .object n) ∨ ∃ t, ty = .array t) {v0 : Option Value} {Wd : Heap → Prop} {A : Nat → Prop} (hv : some (Value.ref v) = v0) (hw : Wd H) (hS : va_S A s.heap H locs) (hc : cells ≤ mc) (hs : slots ≤ ms) : xW p l e R s m args below meth c nL (MQ below (xQm v0 Wd A) args s mc ms A) H locs cells slots pc lv [.ref v] := fun ls hl => W.widen hc hs (W.aret C.1 C.2.1 (C.2.2.1.trans hr) hn (Or.inr ⟨_, rfl⟩) (fun t ht hW => ⟨by rw [hv], by rw [ht]; exact hw, hS.F ht⟩) hS.2.2 hd C.2.2.2.2.2.2.1)
theorem t_aret {v : Nat} {mc ms : Nat} {β : Type} {r : Thr β} {vf : β → Option Value} {Wf : β → Heap → Prop} {XC : String → State → State → Prop} {q : β} {ty : FieldType} (C : xC D cA s0 own cc nL rt p s m args meth c) (hr : rt = some ty) (hd : decode cc pc = .ok (.areturn, 1)) (hn : (∃ n, ty = .object n) ∨ ∃ t, ty = .array t) {A : Nat → Prop} (hq : r = .ok q) (hv : some (Value.ref v) = vf q) (hw : Wf q H) (hS : va_S A s.heap H locs) (hc : cells ≤ mc) (hs : slots ≤ ms) : xW p l e R s m args below meth c nL (vx_MQ below (xQt vf Wf A r) XC args s mc ms A) H locs cells slots pc lv [.ref v] := fun ls hl => vx_ret (W.widen hc hs (W.aret C.1 C.2.1 (C.2.2.1.trans hr) hn (Or.inr ⟨_, rfl⟩) (fun t ht hW => ⟨q, hq, by rw [hv], by rw [ht]; exact hw, hS.F ht⟩) hS.2.2 hd C.2.2.2.2.2.2.1))
theorem x_vretM2 {mc ms : Nat} (C : xC D cA s0 own cc nL rt p s m args meth c) (hr : rt = none) (hd : decode cc pc = .ok (.return_, 1)) {v0 : Option Value} {Wd : Heap → Prop} {A : Nat → Prop} (hv : none = v0) (hw : Wd H) (hS : va_S A s.heap H locs) (hc : cells ≤ mc) (hs : slots ≤ ms) : xW p l e R s m args below meth c nL (MQ below (xQm v0 Wd A) args s mc ms A) H locs cells slots pc lv [] := fun ls hl => W.widen hc hs (W.vret C.1 C.2.1 (C.2.2.1.trans hr) (fun t ht hW => ⟨by rw [hv], by rw [ht]; exact hw, hS.F ht⟩) hS.2.2 hd C.2.2.2.2.2.2.1)
theorem t_vret {mc ms : Nat} {β : Type} {r : Thr β} {vf : β → Option Value} {Wf : β → Heap → Prop} {XC : String → State → State → Prop} {q : β} (C : xC D cA s0 own cc nL rt p s m args meth c) (hr : rt = none) (hd : decode cc pc = .ok (.return_, 1)) {A : Nat → Prop} (hq : r = .ok q) (hv : none = vf q) (hw : Wf q H) (hS : va_S A s.heap H locs) (hc : cells ≤ mc) (hs : slots ≤ ms) : xW p l e R s m args below meth c nL (vx_MQ below (xQt vf Wf A r) XC args s mc ms A) H locs cells slots pc lv [] := fun ls hl => vx_ret (W.widen hc hs (W.vret C.1 C.2.1 (C.2.2.1.trans hr) (fun t ht hW => ⟨q, hq, by rw [hv], by rw [ht]; exact hw, hS.F ht⟩) hS.2.2 hd C.2.2.2.2.2.2.1))
theorem t_runV {ix n k ci N mc ms b : Nat} {Cn : String} {y : MethodName} {bytes : ByteArray} {r : Option FieldType} {rm : Room} {As fs : List Value} {Wd : Heap → Prop} {T : u_T} {Qc : Array Value → State → Outcome → State → Prop} {XC : String → State → State → Prop} {free : Nat → Prop} {ls : Array Slot} (rest : List Value) (hl : ls.size = nL) (C : xC D cA s0 own cc nL rt p s m args meth c) (ML : xMV own ix Cn y bytes n r k) (hM : vx_Met l y (wsG y bytes n r) rm (xP D cA s0 (.ref b :: As) Wd) Qc XC mc ms free) (hrm : xRm rm R mc ms n) (hn : As.length = k) (hrecv : va_at D xcl (b, .inr (ci, fs)) H) (hci : xcl[ci]? = some (Cn, T, N)) (hWd : Wd H) (hro : (rest.map fun v => v.category).sum ≤ 8) (hcs : cells + mc ≤ R.cells ∧ slots + ms ≤ R.slots) (hd : decode cc pc = .ok (.invokevirtual ix, 3)) :
    vx_Run p l e R s m args below meth c H locs cells slots mc ms (F0 m pc ls (As.reverse ++ .ref b :: rest)) rest (Qc (Value.ref b :: As).toArray) XC free :=
  vx_runV (As := As) (rest := rest) ⟨C.1, C.2.1, C.2.2.2.1, C.2.2.2.2.1, C.2.2.2.2.2.1⟩ hM (cwV k C.2.2.2.2.2.1 ML.good rfl hrm.1 hrm.2.1 ML.2.2.2.2.2 hrm.2.2) ⟨xP_blind, va_recv C.2.2.2.2.2.2.2.1 (va_one hrecv) hci (q0 := 0) rfl, fun U hU hW => ⟨rfl, C.2.2.2.2.2.2.2.warm hW, by rw [hU]; exact hWd⟩⟩ rfl hn hl rfl (lv_room hro) hd hcs
theorem t_runS {ix n k mc ms : Nat} {y : MethodName} {bytes : ByteArray} {r : Option FieldType} {rm : Room} {As : List Value} {Wd : Heap → Prop} {Qc : Array Value → State → Outcome → State → Prop} {XC : String → State → State → Prop} {free : Nat → Prop} {ls : Array Slot} (rest : List Value) (hl : ls.size = nL) (C : xC D cA s0 own cc nL rt p s m args meth c) (ML : xMS own ix y bytes n r k) (hM : vx_Met l y (wsG y bytes n r) rm (xP D cA s0 As Wd) Qc XC mc ms free) (hrm : xRm rm R mc ms n) (hn : As.length = k) (hWd : Wd H) (hro : (rest.map fun v => v.category).sum ≤ 8) (hcs : cells + mc ≤ R.cells ∧ slots + ms ≤ R.slots) (hd : decode cc pc = .ok (.invokestatic ix, 3)) :
    vx_Run p l e R s m args below meth c H locs cells slots mc ms (F0 m pc ls (As.reverse ++ rest)) rest (Qc As.toArray) XC free :=
  vx_runS (As := As) (rest := rest) ⟨C.1, C.2.1, C.2.2.2.1, C.2.2.2.2.1, C.2.2.2.2.2.1⟩ hM (va_cwS k C.2.2.2.2.2.1 ML.good rfl hrm.1 hrm.2.1 ML.2.2.2.2 hrm.2.2) ⟨xP_blind, fun U hU hW => ⟨rfl, C.2.2.2.2.2.2.2.warm hW, by rw [hU]; exact hWd⟩⟩ rfl hn hl rfl (lv_room hro) hd hcs
/-- a call of a method that may throw, in a method that hands the throw on -/
theorem t_goT {β γ : Type} {Q1 : Thr β} {r : Thr γ} {f : β → Option (Thr γ)} {vf : β → Option Value} {Wf : β → Heap → Prop} {vf0 : γ → Option Value} {Wf0 : γ → Heap → Prop} {Wd Wd0 : Heap → Prop} {A0 A1 : Nat → Prop} {a : Array Value} {mc ms mc0 ms0 : Nat} {rest st0 : List Value}
    (run : ∀ ls : Array Slot, ls.size = nL → vx_Run p l e R s m args below meth c H locs cells slots mc ms (F0 m pc ls st0) rest (xQt vf Wf A1 Q1 a) (xXt Wd A1 Q1) A1) (hF : bnx Q1 f = some r) (hS : va_S A0 s.heap H locs) (hA : ∀ q, A1 q → A0 q) (C : xC D cA s0 own cc nL rt p s m args meth c) (hX : xTt c s s0 b) (hW0 : ∀ H, Wd H → Wd0 H) (hc : cells + mc ≤ mc0) (hs : slots + ms ≤ ms0)
    (kk : ∀ q, f q = some r → ∀ (H1 : Heap) (locs1 : List Loc), Wf q H1 → va_S A0 s.heap H1 locs1 → xW p l e R s m args below meth c nL (vx_MQ below (xQt vf0 Wf0 A0 r) (xXt Wd0 A0 r) args s mc0 ms0 A0) H1 locs1 (cells + mc) (slots + ms) (pc + 3) lv ((vf q).toList ++ rest)) :
    xW p l e R s m args below meth c nL (vx_MQ below (xQt vf0 Wf0 A0 r) (xXt Wd0 A0 r) args s mc0 ms0 A0) H locs cells slots pc lv st0 := fun ls hl T hT X => by
  have hS1 : ∀ (t : State) (L : List Loc), H.size ≤ t.heap.size → (∀ q : Nat, q < H.size → ¬ A1 q → t.heap[q]? = H[q]?) → (∀ q ∈ L, A1 q.base) → va_S A0 s.heap t.heap (locs ++ L) := fun t L hz hk hL => ⟨Nat.le_trans hS.1 hz, fun q h1 h2 => (hk q (Nat.lt_of_lt_of_le h1 hS.1) (fun z => h2 (hA q z))).trans (hS.2.1 q h1 h2), fun q hq => by
    rcases List.mem_append.mp hq with h | h
    · exact hS.2.2 q h
    · exact hA _ (hL q h)⟩
  rcases run ls hl.1 T hT X with ⟨v', st₀, t, T', L, h0, X', hL, e1, e2, ⟨q, rfl, hv, hw, hz, hk⟩, stp⟩ | ⟨q9, st₀, t, T', L, E, ce, h0, X', hL, e1, e2, ⟨k, rfl, rfl, hw, hz, hk⟩, hce, hcv, hcl, stp⟩
  · cases hv
    rw [h0] at hz hk
    obtain ⟨t2, a1, b1⟩ := kk q hF t.heap (locs ++ L) hw (hS1 t L hz hk hL) ls hl T' e1 X'
    exact ⟨t2, stp t2 a1, b1⟩
  · rw [h0] at hz hk
    have hr : r = .error k := by cases hF; rfl
    have hS2 := hS1 t L hz hk hL
    have K := vx_out (pc := pc) (ls := ls) (rest := rest) (Qc := xQt vf0 Wf0 A0 r) (XC := xXt Wd0 A0 r) (free := A0) (args := args) (p := p) (l := l) (e := e) (R := R) (m := m) (below := below) (fun x hx => (hX.1 x hx).elim) C.2.2.2.2.2.2.1 hce hcv hcl (fun t' ht' _ => ⟨k, hr, rfl, by rw [ht']; exact hW0 _ hw, hS2.F ht'⟩) hS2.2.2 hc hs
    obtain ⟨t2, a1, b1⟩ := K T' e1 X'
    exact ⟨t2, stp.trans a1, b1⟩
theorem t_throwW {β : Type} {k ik is ic mc ms : Nat} {tx : String} {r : Thr β} {vf : β → Option Value} {Wf : β → Heap → Prop} (hl : l.stackTraces = false) (hT : xThr s0) (hw : WC D cA s0 z b ν H) (hS : va_S (xA b 2628 s.heap.size) s.heap H locs) (C : xC D cA s0 "PortDues" cc nL rt p s m args meth c) (hX : xTt c s s0 b) (hcls : Bundle.fit (exN k) = true) (hr : r = .error k)
    (htx : ∃ a, vk_R "PortDues" is tx a s0) (hk : Cond.classLink "PortDues" ik (exN k) ∈ gW) (hini : Cond.initialized (exN k) ∈ gW) (hat : ∀ w ∈ vx_atS "PortDues" ic (exN k) xexP, w ∈ gW ∨ w = .castable (exN k) (exN k) ∨ ∃ y ∈ xdcl, w = .declares y)
    (d0 : decode cc pc = .ok (.new ik, 3)) (d3 : decode cc (pc + 3) = .ok (.dup, 1)) (d4 : decode cc (pc + 4) = .ok (.ldc_w is, 3)) (d7 : decode cc (pc + 7) = .ok (.invokespecial ic, 3)) (d10 : decode cc (pc + 10) = .ok (.athrow, 1))
    (hfr : 5 < R.frames) (hlo : 90 ≤ R.locals) (hRc : cells + 1 ≤ R.cells) (hRs : slots + 6 ≤ R.slots) (hc : cells + 1 ≤ mc) (hs : slots + 6 ≤ ms) :
    xW p l e R s m args below meth c nL (vx_MQ below (xQt vf Wf (xA b 2628 s.heap.size) r) (xXt (fun H => WC D cA s0 z b ν H) (xA b 2628 s.heap.size) r) args s mc ms (xA b 2628 s.heap.size)) H locs cells slots pc lv [] := fun ls hl' => by
  obtain ⟨sa, hsa⟩ := htx
  have hWs := C.2.2.2.2.2.2.2.2.2
  have hat' : ∀ w ∈ vx_atS "PortDues" ic (exN k) xexP, w.before args s = true := fun w h => by
    rcases hat w h with g | rfl | ⟨y, hy, rfl⟩
    · exact C.2.2.2.2.2.1 w g
    · exact va_Nw.use rfl (va_Nw.warmC hWs (hT.2.2.1.1 k))
    · exact va_Nw.use rfl (va_Nw.warmD hWs (hT.2.2.1.2 y hy))
  have hgd : ∀ w ∈ Cond.classLink "PortDues" ik (exN k) :: Cond.initialized (exN k) :: vx_atS "PortDues" ic (exN k) xexP, vx_ot w = true := by
    intro w h
    have gd : ∀ {w : Cond}, w ∈ gW → vx_ot w = true := fun g => by unfold vx_ot; rw [gW_good g, Bool.or_true]
    rcases List.mem_cons.mp h with rfl | h
    · exact gd hk
    rcases List.mem_cons.mp h with rfl | h
    · exact gd hini
    rcases hat w h with g | rfl | ⟨y, hy, rfl⟩
    · exact gd g
    · rfl
    · rfl
  exact vx_throwSW (own := "PortDues") (cls := exN k) (text := tx) (names := xexP) (ik := ik) (is := is) (ic := ic) (sa := sa) C.1 C.2.1 hl C.2.2.2.2.1 hcls (by decide) (C.2.2.2.2.2.1 _ hk) (C.2.2.2.2.2.1 _ hini) (vk_R.warm hWs hsa) hat' hgd
    (vx_Zq_at hT.1 hWs hX.2.1 hX.2.2) (vx_Zq_at hT.2.1 hWs hX.2.1 hX.2.2) hS (hl'.1.trans C.2.2.2.1.symm) d0 d3 d4 d7 d10 (fun x hx => (hX.1 x hx).elim) (by show 2 + 3 < _; exact hfr) (by show 0 + (13 * 3 + 43) ≤ _; omega) hRc hRs C.2.2.2.2.2.2.1
    (fun t _ hz hq => ⟨k, hr, rfl, hw.ext hz hq, Nat.le_trans hS.1 hz, fun q h1 h2 => (hq q (Nat.lt_of_lt_of_le h1 hS.1)).trans (hS.2.1 q h1 h2)⟩) hS.2.2 hc hs
/-- arraycopy of a whole array of ints -/
def xAC (own : String) (ix : Nat) : Prop := Cond.methodLink own ix arraycopyName ∈ gW ∧ Cond.native arraycopyName ∈ gW ∧ Cond.static arraycopyName ∈ gW ∧ Cond.initialized "java/lang/System" ∈ gW
theorem nn_toNat {z : Int32} (hz : ¬ z < 0) : z.toInt = (z.toNatClampNeg : Int) := by
  have hz0 : (0 : Int) ≤ z.toInt := by
    have := Int32.not_lt.mp hz
    simpa using Int32.le_iff_toInt_le.mp this
  show z.toInt = ((z.toInt.toNat : Nat) : Int)
  omega
theorem x_copyI0 {ix a0 a1 n0 : Nat} {f g : Nat → Int32} {n : Int32} {A : Nat → Prop} {H0 : Heap} (C : xC D cA s0 own cc nL rt p s m args meth c) (AC : xAC own ix) (h0 : va_at D xcl (a0, .inl (cA 0, n0, .inl f)) H) (h1 : va_at D xcl (a1, .inl (cA 0, n0, .inl g)) H) (hn : n = nI n0) (h31 : n0 < 2 ^ 31) (hfr : 1 ≤ R.frames) (hlo : (st.map fun v => v.category).sum + (nativeFrameWords "java/lang/System" "arraycopy" 5 + 11) ≤ R.locals) (hd : decode cc pc = .ok (.invokestatic ix, 3)) (hS : va_S A H0 H locs) (hA : A a1)
    (kk : ∀ (H1 : Heap) (locs1 : List Loc), va_at D xcl (a1, .inl (cA 0, n0, .inl f)) H1 → (∀ q : Nat, q ≠ a1 → H1[q]? = H[q]?) → H1.size = H.size → va_S A H0 H1 locs1 → xW p l e R s m args below meth c nL Q H1 locs1 cells slots (pc + 3) lv st) : xW p l e R s m args below meth c nL Q H locs cells slots pc lv (.int n :: .int 0 :: .ref a1 :: .int 0 :: .ref a0 :: st) := fun ls hl => by
  subst hn
  have hK := C.2.2.2.2.2.2.2.1
  have hts := C.2.2.2.2.2.1
  have hc0 : H[a0]? = some (vp_cell (cA 0) (n0, .inl f)) := h0
  have hc1 : H[a1]? = some (vp_cell (cA 0) (n0, .inl g)) := h1
  have h3 : ¬ nI n0 < 0 := nI_pos h31
  have ecl : (nI n0).toNatClampNeg = n0 := nI_clamp h31
  have z0 : (0 : Int32).toNatClampNeg = 0 := by decide
  have h00 : ¬ (0 : Int32) < 0 := by decide
  intro T hT X
  obtain ⟨-, k0, hk0, cm0, hkk0⟩ := (hK.2 0 _ rfl).1 n0 (fun j => .int (f j))
  obtain ⟨-, k1, hk1, cm1, hkk1⟩ := (hK.2 0 _ rfl).1 n0 (fun j => .int (g j))
  obtain ⟨vm', X', step⟩ := X.arraycopy C.1 C.2.2.2.2.1 (hts _ AC.1) (hts _ AC.2.1) (hts _ AC.2.2.1) (hts _ AC.2.2.2) (src := a0) (dst := a1) (cs := vp_cell (cA 0) (n0, .inl f)) (cd := vp_cell (cA 0) (n0, .inl g)) (srcPos := 0) (destPos := 0) (n := nI n0) (by rw [hT]; exact hc0) (by rw [hT]; exact hc1)
    (fun _ h => by cases h) (fun _ h => by cases h) (fun h => by cases h) (fun h => by cases h) hk0 hk1 hkk0 hkk1 (by rfl) h00 h00 h3
    (by rw [nn_toNat h00, nn_toNat h3, ecl, z0]; show ¬ _ > ((arrV (cA 0) n0 (fun j => .int (f j))).slots.size : Int); rw [arrV_size]; omega)
    (by rw [nn_toNat h00, nn_toNat h3, ecl, z0]; show ¬ _ > ((arrV (cA 0) n0 (fun j => .int (g j))).slots.size : Int); rw [arrV_size]; omega)
    (fun vm₁ _ i hi => by
      rw [ecl] at hi
      have e : (vp_cell (cA 0) (n0, .inl f)).slots.getD ((0 : Int32).toNatClampNeg + i) .null = .int (f i) := by
        show (arrV (cA 0) n0 (fun j => .int (f j))).slots.getD _ _ = _
        rw [z0, Nat.zero_add, Array.getD_eq_getD_getElem?, arrV_read _ _ (by omega)]
        rfl
      refine ⟨?_, ?_⟩
      · rw [e]
        rfl
      · rw [e]
        exact trivial)
    (g := F0 m pc ls (.int (nI n0) :: .int 0 :: .ref a1 :: .int 0 :: .ref a0 :: st)) rfl (by rw [C.2.2.2.1]; exact hl.1) (rest := st) rfl (by rw [C.2.1]; exact hd) hfr (by show 2 * 0 + _ + _ ≤ _; omega)
  have e1 : copied (vp_cell (cA 0) (n0, .inl f)) (vp_cell (cA 0) (n0, .inl g)) 0 0 (nI n0) = vp_cell (cA 0) (n0, .inl (va_cpy f g (0 : Int32).toNatClampNeg (0 : Int32).toNatClampNeg (nI n0).toNatClampNeg)) := va_copied (fun z => .int z) (cA 0) (cA 0) f g (by rw [ecl, z0]; omega)
  rw [e1, ecl, z0] at X' step
  have hl1 : a1 < H.size := (Array.getElem?_eq_some_iff.mp hc1).1
  have hheap : ((T.setVm vm').setCell a1 (vp_cell (cA 0) (n0, .inl (va_cpy f g 0 0 n0)))).heap = H.setIfInBounds a1 (vp_cell (cA 0) (n0, .inl (va_cpy f g 0 0 n0))) := by rw [← hT]; rfl
  have oq : ∀ q : Nat, q ≠ a1 → (H.setIfInBounds a1 (vp_cell (cA 0) (n0, .inl (va_cpy f g 0 0 n0))))[q]? = H[q]? := fun q hq => by simp [Array.getElem?_setIfInBounds, Ne.symm hq]
  have ec : vp_cell (cA 0) (n0, .inl (va_cpy f g 0 0 n0)) = vp_cell (cA 0) (n0, .inl f) := by
    rw [vp_cell_i, vp_cell_i]
    refine arrV_same fun j hj => ?_
    show Value.int (va_cpy f g 0 0 n0 j) = _
    unfold va_cpy
    rw [if_pos ⟨Nat.zero_le _, by omega⟩, Nat.zero_add, Nat.sub_zero]
  obtain ⟨t, g1, g2⟩ := kk _ _ (show (H.setIfInBounds a1 _)[a1]? = some (vp_cell (cA 0) (n0, .inl f)) by rw [← ec]; simp [Array.getElem?_setIfInBounds, hl1]) oq (by simp) ⟨by simp; exact hS.1, fun q g1 g2 => by
      rw [oq q (fun e => g2 (by rw [e]; exact hA))]
      exact hS.2.1 q g1 g2, fun q hq => by
      rcases List.mem_append.mp hq with h | h
      · exact hS.2.2 q h
      · obtain ⟨z, -, hz⟩ := List.mem_map.mp h
        rw [← hz]
        exact hA⟩ ls hl _ hheap X'
  exact ⟨t, step t g1, g2⟩
theorem uR_s {μ : Mm} {o : Nat} {f : Nat → Int32} : (uR μ o f).1 o = f := if_pos rfl
theorem uR_o {μ : Mm} {o o' : Nat} {f : Nat → Int32} (h : o' ≠ o) : (uR μ o f).1 o' = μ.1 o' := if_neg h
theorem y_copyI {ix so do' n0 : Nat} {n : Int32} {A : Nat → Prop} {H0 : Heap} (C : xC D cA s0 own cc nL rt p s m args meth c) (AC : xAC own ix) (hw : WC D cA s0 z b ν H) (hso : so < 2628) (hdo : do' < 2628) (h0 : ∀ nm f, shC nm cA b so f (ν.2.1 so) (ν.2.2 so) = .inl (cA 0, n0, .inl f)) (h1 : ∀ nm f, shC nm cA b do' f (ν.2.1 do') (ν.2.2 do') = .inl (cA 0, n0, .inl f)) (hn : n = nI n0) (h31 : n0 < 2 ^ 31) (hfr : 1 ≤ R.frames) (hlo : (st.map fun v => v.category).sum + (nativeFrameWords "java/lang/System" "arraycopy" 5 + 11) ≤ R.locals) (hd : decode cc pc = .ok (.invokestatic ix, 3)) (hS : va_S A H0 H locs) (hA : A (b + do'))
    (kk : ∀ (H1 : Heap) (locs1 : List Loc), WC D cA s0 z b (uR ν do' (ν.1 so)) H1 → va_S A H0 H1 locs1 → xW p l e R s m args below meth c nL Q H1 locs1 cells slots (pc + 3) lv st) : xW p l e R s m args below meth c nL Q H locs cells slots pc lv (.int n :: .int 0 :: .ref (b + do') :: .int 0 :: .ref (b + so) :: st) := by
  obtain ⟨hb, hz, hzz, hx, nm, hR⟩ := hw
  have e0 := hR so hso
  rw [h0] at e0
  have e1 := hR do' hdo
  rw [h1] at e1
  refine x_copyI0 C AC e0 e1 hn h31 hfr hlo hd hS hA (fun H1 locs1 h1' h2 h3 h4 => kk H1 locs1 (WC.upd (off := do') hb hz hzz hx hdo (nm1 := nm) (fun o ho => ?_) h2 h3) h4)
  by_cases e : o = do'
  · subst e
    show va_at D xcl (b + o, shC nm cA b o ((uR ν o (ν.1 so)).1 o) (ν.2.1 o) (ν.2.2 o)) H1
    rw [uR_s, h1]
    exact h1'
  · show va_at D xcl (b + o, shC nm cA b o ((uR ν do' (ν.1 so)).1 o) (ν.2.1 o) (ν.2.2 o)) H1
    rw [uR_o e]
    exact (hR o ho).kept (h2 _ (by omega))
theorem x_copyB0 {ix a0 a1 n0 nn : Nat} {f g : Nat → Int32} {A : Nat → Prop} {H0 : Heap} (C : xC D cA s0 own cc nL rt p s m args meth c) (AC : xAC own ix) (h0 : va_at D xcl (a0, .inl (cA 2, n0, .inl f)) H) (h1 : va_at D xcl (a1, .inl (cA 2, nn, .inl g)) H) (hle : nn ≤ n0) (h31 : n0 < 2 ^ 31) (hfit : ∀ i, i < nn → fits .byte (.int (f i)) = true) (hfr : 1 ≤ R.frames) (hlo : (st.map fun v => v.category).sum + (nativeFrameWords "java/lang/System" "arraycopy" 5 + 11) ≤ R.locals) (hd : decode cc pc = .ok (.invokestatic ix, 3)) (hS : va_S A H0 H locs) (hA : A a1)
    (kk : ∀ (H1 : Heap) (locs1 : List Loc), va_at D xcl (a1, .inl (cA 2, nn, .inl f)) H1 → (∀ q : Nat, q ≠ a1 → H1[q]? = H[q]?) → H1.size = H.size → va_S A H0 H1 locs1 → xW p l e R s m args below meth c nL Q H1 locs1 cells slots (pc + 3) lv st) : xW p l e R s m args below meth c nL Q H locs cells slots pc lv (.int (nI nn) :: .int 0 :: .ref a1 :: .int 0 :: .ref a0 :: st) := fun ls hl => by
  have hK := C.2.2.2.2.2.2.2.1
  have hts := C.2.2.2.2.2.1
  have hc0 : H[a0]? = some (vp_cell (cA 2) (n0, .inl f)) := h0
  have hc1 : H[a1]? = some (vp_cell (cA 2) (nn, .inl g)) := h1
  have h3 : ¬ nI nn < 0 := nI_pos (by omega)
  have ecl : (nI nn).toNatClampNeg = nn := nI_clamp (by omega)
  have z0 : (0 : Int32).toNatClampNeg = 0 := by decide
  have h00 : ¬ (0 : Int32) < 0 := by decide
  intro T hT X
  obtain ⟨-, k0, hk0, cm0, hkk0⟩ := (hK.2 2 _ rfl).1 n0 (fun j => .int (f j))
  obtain ⟨-, k1, hk1, cm1, hkk1⟩ := (hK.2 2 _ rfl).1 nn (fun j => .int (g j))
  obtain ⟨vm', X', step⟩ := X.arraycopy C.1 C.2.2.2.2.1 (hts _ AC.1) (hts _ AC.2.1) (hts _ AC.2.2.1) (hts _ AC.2.2.2) (src := a0) (dst := a1) (cs := vp_cell (cA 2) (n0, .inl f)) (cd := vp_cell (cA 2) (nn, .inl g)) (srcPos := 0) (destPos := 0) (n := nI nn) (by rw [hT]; exact hc0) (by rw [hT]; exact hc1)
    (fun _ h => by cases h) (fun _ h => by cases h) (fun h => by cases h) (fun h => by cases h) hk0 hk1 hkk0 hkk1 (by rfl) h00 h00 h3
    (by rw [nn_toNat h00, nn_toNat h3, ecl, z0]; show ¬ _ > ((arrV (cA 2) n0 (fun j => .int (f j))).slots.size : Int); rw [arrV_size]; omega)
    (by rw [nn_toNat h00, nn_toNat h3, ecl, z0]; show ¬ _ > ((arrV (cA 2) nn (fun j => .int (g j))).slots.size : Int); rw [arrV_size]; omega)
    (fun vm₁ _ i hi => by
      rw [ecl] at hi
      have e : (vp_cell (cA 2) (n0, .inl f)).slots.getD ((0 : Int32).toNatClampNeg + i) .null = .int (f i) := by
        show (arrV (cA 2) n0 (fun j => .int (f j))).slots.getD _ _ = _
        rw [z0, Nat.zero_add, Array.getD_eq_getD_getElem?, arrV_read _ _ (by omega)]
        rfl
      refine ⟨?_, ?_⟩
      · rw [e]
        exact hfit i hi
      · rw [e]
        exact trivial)
    (g := F0 m pc ls (.int (nI nn) :: .int 0 :: .ref a1 :: .int 0 :: .ref a0 :: st)) rfl (by rw [C.2.2.2.1]; exact hl.1) (rest := st) rfl (by rw [C.2.1]; exact hd) hfr (by show 2 * 0 + _ + _ ≤ _; omega)
  have e1 : copied (vp_cell (cA 2) (n0, .inl f)) (vp_cell (cA 2) (nn, .inl g)) 0 0 (nI nn) = vp_cell (cA 2) (nn, .inl (va_cpy f g (0 : Int32).toNatClampNeg (0 : Int32).toNatClampNeg (nI nn).toNatClampNeg)) := va_copied (fun z => .int z) (cA 2) (cA 2) f g (by rw [ecl, z0]; omega)
  rw [e1, ecl, z0] at X' step
  have hl1 : a1 < H.size := (Array.getElem?_eq_some_iff.mp hc1).1
  have hheap : ((T.setVm vm').setCell a1 (vp_cell (cA 2) (nn, .inl (va_cpy f g 0 0 nn)))).heap = H.setIfInBounds a1 (vp_cell (cA 2) (nn, .inl (va_cpy f g 0 0 nn))) := by rw [← hT]; rfl
  have oq : ∀ q : Nat, q ≠ a1 → (H.setIfInBounds a1 (vp_cell (cA 2) (nn, .inl (va_cpy f g 0 0 nn))))[q]? = H[q]? := fun q hq => by simp [Array.getElem?_setIfInBounds, Ne.symm hq]
  have ec : vp_cell (cA 2) (nn, .inl (va_cpy f g 0 0 nn)) = vp_cell (cA 2) (nn, .inl f) := by
    rw [vp_cell_i, vp_cell_i]
    refine arrV_same fun j hj => ?_
    show Value.int (va_cpy f g 0 0 nn j) = _
    unfold va_cpy
    rw [if_pos ⟨Nat.zero_le _, by omega⟩, Nat.zero_add, Nat.sub_zero]
  obtain ⟨t, g1, g2⟩ := kk _ _ (show (H.setIfInBounds a1 _)[a1]? = some (vp_cell (cA 2) (nn, .inl f)) by rw [← ec]; simp [Array.getElem?_setIfInBounds, hl1]) oq (by simp) ⟨by simp; exact hS.1, fun q g1 g2 => by
      rw [oq q (fun e => g2 (by rw [e]; exact hA))]
      exact hS.2.1 q g1 g2, fun q hq => by
      rcases List.mem_append.mp hq with h | h
      · exact hS.2.2 q h
      · obtain ⟨z, -, hz⟩ := List.mem_map.mp h
        rw [← hz]
        exact hA⟩ ls hl _ hheap X'
  exact ⟨t, step t g1, g2⟩
/-! A ship's name: bytes in a row; what is stored there is a byte. -/
theorem nar_nar (x : Int32) : vp_nar .byte (vp_nar .byte x) = vp_nar .byte x := by rw [vp_nar_byte, vp_nar_byte, Int8.toInt8_toInt32]
theorem nar_fit (x : Int32) : fits .byte (.int (vp_nar .byte x)) = true := by
  rw [vp_nar_byte]
  have h1 := (x.toInt8).le_toInt
  have h2 := (x.toInt8).toInt_lt
  show (decide ((-128 : Int32) ≤ x.toInt8.toInt32) && decide (x.toInt8.toInt32 ≤ 127)) = true
  rw [Bool.and_eq_true, decide_eq_true_eq, decide_eq_true_eq, Int32.le_iff_toInt_le, Int32.le_iff_toInt_le, Int8.toInt_toInt32]
  have e1 : ((-128 : Int32)).toInt = -128 := rfl
  have e2 : ((127 : Int32)).toInt = 127 := rfl
  rw [e1, e2]
  constructor <;> omega
theorem y_bastN {k : Nat} {i x : Int32} {A : Nat → Prop} {H0 : Heap} (o : Nat) (C : xC D cA s0 own cc nL rt p s m args meth c) (hw : WC D cA s0 z b ν H) (h : isShip o) (hi : i = nI k) (hk : k < 6) (hd : decode cc pc = .ok (.bastore, 1)) (hS : va_S A H0 H locs) (hA : A (b + (o + 1)))
    (kk : ∀ (H1 : Heap) (locs1 : List Loc), WC D cA s0 z b (uI ν (o + 1) k (vp_nar .byte x)) H1 → va_S A H0 H1 locs1 → xW p l e R s m args below meth c nL Q H1 locs1 cells slots (pc + 1) lv st) : xW p l e R s m args below meth c nL Q H locs cells slots pc lv (.int x :: .int i :: .ref (b + (o + 1)) :: st) := by
  obtain ⟨hb, hz, hzz, hx, nm, hR⟩ := hw
  have hlt := la_name h
  have e0 := hR (o + 1) hlt
  rw [S_name h] at e0
  refine x_bast0 C e0 (by rw [hi]; exact vp_in_nI hk (by decide)) hd hS hA (fun H1 locs1 h1 h2 h3 h4 => kk H1 locs1 (WC.upd (off := o + 1) (nm1 := nm) hb hz hzz hx hlt (fun q hq => ?_) h2 h3) h4)
  by_cases e : q = o + 1
  · subst e
    show va_at D xcl (b + (o + 1), shC nm cA b (o + 1) ((uI ν (o + 1) k (vp_nar .byte x)).1 (o + 1)) (ν.2.1 (o + 1)) (ν.2.2 (o + 1))) H1
    rw [S_name h]
    have ee : (fun j => vp_nar .byte ((uI ν (o + 1) k (vp_nar .byte x)).1 (o + 1) j)) = upd (fun j => vp_nar .byte (ν.1 (o + 1) j)) i.toNatClampNeg (vp_nar .byte x) := by
      funext j
      rw [hi, nI_clamp (by omega)]
      show vp_nar .byte ((if o + 1 = o + 1 then upd (ν.1 (o + 1)) k (vp_nar .byte x) else ν.1 (o + 1)) j) = _
      rw [if_pos rfl]
      by_cases ej : j = k
      · subst ej
        simp [upd, nar_nar]
      · simp [upd, ej]
    rw [ee]
    exact h1
  · have e9 : (uI ν (o + 1) k (vp_nar .byte x)).1 q = ν.1 q := if_neg e
    show va_at D xcl (b + q, shC nm cA b q ((uI ν (o + 1) k (vp_nar .byte x)).1 q) (ν.2.1 q) (ν.2.2 q)) H1
    rw [e9]
    exact (hR q hq).kept (h2 _ (by omega))
theorem y_copyN {ix so do' : Nat} {n : Int32} {A : Nat → Prop} {H0 : Heap} (C : xC D cA s0 own cc nL rt p s m args meth c) (AC : xAC own ix) (hw : WC D cA s0 z b ν H) (hso : isShip so) (hdo : isShip do') (hn : n = nI 6) (hfr : 1 ≤ R.frames) (hlo : (st.map fun v => v.category).sum + (nativeFrameWords "java/lang/System" "arraycopy" 5 + 11) ≤ R.locals) (hd : decode cc pc = .ok (.invokestatic ix, 3)) (hS : va_S A H0 H locs) (hA : A (b + (do' + 1)))
    (kk : ∀ (H1 : Heap) (locs1 : List Loc), WC D cA s0 z b (uR ν (do' + 1) (ν.1 (so + 1))) H1 → va_S A H0 H1 locs1 → xW p l e R s m args below meth c nL Q H1 locs1 cells slots (pc + 3) lv st) : xW p l e R s m args below meth c nL Q H locs cells slots pc lv (.int n :: .int 0 :: .ref (b + (do' + 1)) :: .int 0 :: .ref (b + (so + 1)) :: st) := by
  subst hn
  have e0 := C_name hso hw
  have e1 := C_name hdo hw
  obtain ⟨hb, hz, hzz, hx, nm, hR⟩ := hw
  have hlt := la_name hdo
  refine x_copyB0 C AC e0 e1 (Nat.le_refl 6) (by decide) (fun i _ => nar_fit _) hfr hlo hd hS hA (fun H1 locs1 h1' h2 h3 h4 => kk H1 locs1 (WC.upd (off := do' + 1) hb hz hzz hx hlt (nm1 := nm) (fun o ho => ?_) h2 h3) h4)
  by_cases e : o = do' + 1
  · subst e
    show va_at D xcl (b + (do' + 1), shC nm cA b (do' + 1) ((uR ν (do' + 1) (ν.1 (so + 1))).1 (do' + 1)) (ν.2.1 (do' + 1)) (ν.2.2 (do' + 1))) H1
    rw [uR_s, S_name hdo]
    exact h1'
  · show va_at D xcl (b + o, shC nm cA b o ((uR ν (do' + 1) (ν.1 (so + 1))).1 o) (ν.2.1 o) (ν.2.2 o)) H1
    rw [uR_o e]
    exact (hR o ho).kept (h2 _ (by omega))
end TROWS
