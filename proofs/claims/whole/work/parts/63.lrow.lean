/-! The law's rows: methods with handlers, calls that throw and are caught, the script, the world of both. -/
abbrev wsH (y : MethodName) (b : ByteArray) (n : Nat) (r : Option FieldType) (hh : List (Nat × Nat × Nat × Nat)) : List Cond := Cond.codeWith y b n r hh :: gW
theorem wsH_good {y : MethodName} {b : ByteArray} {n : Nat} {r : Option FieldType} {hh : List (Nat × Nat × Nat × Nat)} (hc : Cond.codeWith y b n r hh ∈ gW) : GoodIn gW (wsH y b n r hh) := by
  intro w hw
  rcases List.mem_cons.mp hw with rfl | h
  · exact ⟨hc, good_of_word (gW_good hc)⟩
  · exact ⟨h, good_of_word (gW_good h)⟩
def xNc (s0 : State) : Prop := ∀ i j, (i = 1 ∨ i = 2 ∨ i = 3) → (j = 1 ∨ j = 2 ∨ j = 3) → i ≠ j → va_Nc (exN i) (exN j) s0
/-- what a method answers that may throw: the law's number, the memory, the law's cell -/
def thC {β : Type} (h : Nat → Int32) : Thr β → Int32
  | .ok _ => 0
  | .error k => h k
def thM {β : Type} (f : β → Mm) (ν : Mm) : Thr β → Mm
  | .ok q => f q
  | .error _ => ν
def thO {β : Type} (f : β → Int64) (oc : Nat → Int64) : Thr β → Nat → Int64
  | .ok q => vp_updL oc 0 (f q)
  | .error _ => oc
/-- what a wrapper may write -/
def xAL (b ro sz : Nat) : Nat → Prop := fun q => xA b 2628 sz q ∨ q = ro
def oCell (cA : Nat → ClassId) (D : va_G) (ro : Nat) (oc : Nat → Int64) (H : Heap) : Prop := va_at D xcl (ro, .inl (cA 1, 1, .inr (.inl oc))) H
theorem h_start {l : Launch} {y : MethodName} {b : ByteArray} {n : Nat} {r : Option FieldType} {hh : List (Nat × Nat × Nat × Nat)} {rm : Room} {av : List Value} {Wd : Heap → Prop} {Qc : Array Value → State → Outcome → State → Prop} {mc ms : Nat} {free : Addr → Prop} {D : va_G} {cA : Nat → ClassId} {s0 : State}
    {own : String} (lv : List (Nat × Value)) (hlv : lv_args 0 av = lv) (ho : y.cls = own) (hy : plainName own = true) (hn : (lg_sl av).length ≤ n)
    (body : ∀ (p : Program) (e : Env) (s : State) (m : MethodId) (args : Array Value) (below : List Frame) (meth : Method) (c : Code), xC D cA s0 own b n r p s m args meth c → c.exceptionTable.toList = tableOf hh → Wd s.heap → xW p l e rm s m args below meth c n (MQ below Qc args s mc ms free) s.heap [] 0 0 0 lv []) : Met l y (wsH y b n r hh) rm (xP D cA s0 av Wd) Qc mc ms free := by
  subst ho
  subst hlv
  refine va_MetW (cc := b) (maxL := n) (ret := r) (hh := hh) hy rfl ?_
  intro p e s m args below meth c s₁ B hml hv
  obtain ⟨rfl, hK, hWd⟩ := hv
  have hts := atoms_spec (ws := wsH y b n r hh) B.pre
  have htab := vx_table (x := y) B (hts _ List.mem_cons_self)
  rw [lg_entry_eq]
  exact body p e s m av.toArray below meth c ⟨B.exec, B.bytes, B.returns, hml, findClass_of_methodNamed B.named, fun w hw => hts w (List.mem_cons_of_mem _ hw), B.notSynchronized, hK⟩ htab hWd _ (lv_entry av hn)
section LROWS
variable {p : Program} {l : Launch} {e : Env} {R : Room} {s : State} {m : MethodId} {args : Array Value} {below : List Frame} {meth : Method} {c : Code} {nL : Nat} {Q : State → Prop} {H : Heap} {locs : List Loc} {cells slots : Nat} {pc : Nat} {lv : List (Nat × Value)} {st : List Value}
  {D : va_G} {cA : Nat → ClassId} {s0 : State} {own : String} {cc : ByteArray} {rt : Option FieldType}
theorem t_goC {β : Type} {Q1 : Thr β} {vf : β → Option Value} {Wf : β → Heap → Prop} {Wd : Heap → Prop} {A0 A1 : Nat → Prop} {H0 : Heap} {a : Array Value} {mc ms : Nat} {rest st0 : List Value}
    (run : ∀ ls : Array Slot, ls.size = nL → vx_Run p l e R s m args below meth c H locs cells slots mc ms (F0 m pc ls st0) rest (xQt vf Wf A1 Q1 a) (xXt Wd A1 Q1) A1) (hS : va_S A0 H0 H locs) (hA : ∀ q, A1 q → A0 q)
    (kx : ∀ k, Q1 = .error k → ∀ (H1 : Heap) (locs1 : List Loc) (q9 : Addr) (ce : Cell), Wd H1 → H.size ≤ H1.size → (∀ q : Nat, q < H.size → ¬ A1 q → H1[q]? = H[q]?) → va_S A0 H0 H1 locs1 → H1[q9]? = some ce → ce.vm = .none → s.vm.findClass (exN k) = some ce.cls → ∀ ls : Array Slot, lv_has ls nL lv → vx_W p l e R s m args below meth c H1 locs1 (cells + mc) (slots + ms) Q (F0 m pc ls rest) q9)
    (kk : ∀ q, Q1 = .ok q → ∀ (H1 : Heap) (locs1 : List Loc), Wf q H1 → H.size ≤ H1.size → (∀ q : Nat, q < H.size → ¬ A1 q → H1[q]? = H[q]?) → va_S A0 H0 H1 locs1 → xW p l e R s m args below meth c nL Q H1 locs1 (cells + mc) (slots + ms) (pc + 3) lv ((vf q).toList ++ rest)) :
    xW p l e R s m args below meth c nL Q H locs cells slots pc lv st0 := fun ls hl T hT X => by
  have hS1 : ∀ (t : State) (L : List Loc), H.size ≤ t.heap.size → (∀ q : Nat, q < H.size → ¬ A1 q → t.heap[q]? = H[q]?) → (∀ q ∈ L, A1 q.base) → va_S A0 H0 t.heap (locs ++ L) := fun t L hz hk hL => ⟨Nat.le_trans hS.1 hz, fun q h1 h2 => (hk q (Nat.lt_of_lt_of_le h1 hS.1) (fun z => h2 (hA q z))).trans (hS.2.1 q h1 h2), fun q hq => by
    rcases List.mem_append.mp hq with h | h
    · exact hS.2.2 q h
    · exact hA _ (hL q h)⟩
  rcases run ls hl.1 T hT X with ⟨v', st₀, t, T', L, h0, X', hL, e1, e2, ⟨q, hq, hv, hw, hz, hk⟩, stp⟩ | ⟨q9, st₀, t, T', L, E, ce, h0, X', hL, e1, e2, ⟨k, hq, rfl, hw, hz, hk⟩, hce, hcv, hcl, stp⟩
  · cases hv
    rw [h0] at hz hk
    obtain ⟨t2, a1, b1⟩ := kk q hq t.heap (locs ++ L) hw hz hk (hS1 t L hz hk hL) ls hl T' e1 X'
    exact ⟨t2, stp t2 a1, b1⟩
  · rw [h0] at hz hk
    obtain ⟨t2, a1, b1⟩ := kx k hq t.heap (locs ++ L) q9 ce hw hz hk (hS1 t L hz hk hL) hce hcv hcl ls hl T' e1 X'
    exact ⟨t2, stp.trans a1, b1⟩
/-- a handler of the class of exception k, behind rows of other classes -/
theorem x_catch {k hpc : Nat} {q9 : Addr} {ce : Cell} {ls : Array Slot} {rest : List Value} {pre : List (Nat × Nat × Nat × Nat)} {x : Nat × Nat × Nat × Nat} {suf : List (Nat × Nat × Nat × Nat)} (C : xC D cA s0 own cc nL rt p s m args meth c) (hG : xG l D cA s0) (hNc : xNc s0) (hk : k = 1 ∨ k = 2 ∨ k = 3) (htab : c.exceptionTable.toList = tableOf (pre ++ x :: suf))
    (hpre : ∀ z ∈ pre, z.2.2.2 ≠ 0 ∧ ∃ i, (i = 1 ∨ i = 2 ∨ i = 3) ∧ i ≠ k ∧ Cond.classLink own z.2.2.2 (exN i) ∈ gW) (hcov : x.1 ≤ pc ∧ pc < x.2.1) (h0 : x.2.2.2 ≠ 0) (hlink : Cond.classLink own x.2.2.2 (exN k) ∈ gW) (hh : x.2.2.1 = hpc) (hce : H[q9]? = some ce) (hv : ce.vm = .none) (hcl : s.vm.findClass (exN k) = some ce.cls) (hl : lv_has ls nL lv)
    (kk : xW p l e R s m args below meth c nL Q H locs cells slots hpc lv [.ref q9]) : vx_W p l e R s m args below meth c H locs cells slots Q (F0 m pc ls rest) q9 := by
  have hWs := C.2.2.2.2.2.2.2.2.2
  subst hh
  refine vx_catch (own := own) (name := exN k) (E := exN k) (ce := ce) C.2.2.2.2.1 (tableOf pre) ⟨x.1, x.2.1, x.2.2.1, x.2.2.2⟩ (tableOf suf) ?_ ?_ ?_ h0 (C.2.2.2.2.2.1 _ hlink) (va_Nw.use rfl (va_Nw.warmC hWs (hG.2.1.2.2.1.1 k))) hce hv hcl (kk ls hl)
  · rw [htab]
    unfold tableOf
    rw [List.map_append, List.map_cons]
  · intro z hz
    unfold tableOf at hz
    obtain ⟨w, hw, rfl⟩ := List.mem_map.mp hz
    obtain ⟨g1, i, g2, g3, g4⟩ := hpre w hw
    obtain ⟨a8, b8, f1, f2, f3⟩ := hNc k i hk g2 (fun e => g3 e.symm)
    exact Or.inr ⟨g1, exN i, C.2.2.2.2.2.1 _ g4, a8, b8, by rw [hWs.alike.findClass]; exact f1, by rw [hWs.alike.findClass]; exact f2, by rw [hWs.alike.assignable]; exact f3⟩
  · unfold covers
    simp only [Bool.and_eq_true, decide_eq_true_eq]
    exact ⟨hcov.1, hcov.2⟩
theorem x_runH {ix n k mc ms : Nat} {y : MethodName} {bytes : ByteArray} {r : Option FieldType} {hh : List (Nat × Nat × Nat × Nat)} {rm : Room} {As : List Value} {Wd : Heap → Prop} {Qc : Array Value → State → Outcome → State → Prop} {free : Nat → Prop} {ls : Array Slot} (rest : List Value) (hl : ls.size = nL) (C : xC D cA s0 own cc nL rt p s m args meth c)
    (ML : Cond.methodLink own ix y ∈ gW ∧ Cond.static y ∈ gW ∧ Cond.initialized y.cls ∈ gW ∧ Cond.codeWith y bytes n r hh ∈ gW ∧ y.cls ≠ "java/lang/invoke/MethodHandle" ∧ y.cls ≠ "java/lang/invoke/VarHandle" ∧ (parseMethodDescriptor y.desc).map (fun d => d.parameters.length) = some k) (hM : Met l y (wsH y bytes n r hh) rm (xP D cA s0 As Wd) Qc mc ms free) (hrm : xRm rm R mc ms n) (hn : As.length = k) (hWd : Wd H) (hro : (rest.map fun v => v.category).sum ≤ 8) (hcs : cells + mc ≤ R.cells ∧ slots + ms ≤ R.slots) (hd : decode cc pc = .ok (.invokestatic ix, 3)) :
    va_Run p l e R s m args below meth c H locs cells slots mc ms (F0 m pc ls (As.reverse ++ rest)) rest (Qc As.toArray) free := by
  have hg : GoodIn gW (va_wsS own ix y (wsH y bytes n r hh)) := by
    refine xgood fun w hw => ?_
    simp only [va_wsS, List.cons_append, List.nil_append, List.mem_cons] at hw
    rcases hw with rfl | rfl | rfl | rfl | hw
    · exact ML.1
    · exact ML.2.1
    · exact ML.2.2.1
    · exact ML.2.2.2.1
    · exact hw
  exact vx_runSW (As := As) (rest := rest) ⟨C.1, C.2.1, C.2.2.2.1, C.2.2.2.2.1, C.2.2.2.2.2.1⟩ hM (vx_cwSW k C.2.2.2.2.2.1 hg rfl hrm.1 hrm.2.1 ML.2.2.2.2 hrm.2.2) ⟨xP_blind, fun U hU hW => ⟨rfl, C.2.2.2.2.2.2.2.warm hW, by rw [hU]; exact hWd⟩⟩ rfl hn hl rfl (lv_room hro) hd hcs
end LROWS
