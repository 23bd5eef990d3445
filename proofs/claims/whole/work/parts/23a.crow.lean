/-! Constructors: rows with exact addresses; the class's cells one behind another. -/
/-- n cells from a on, by a function; nothing behind them -/
def Lay (D : va_G) (E : Nat → va_E) (a n : Nat) (H : Heap) : Prop := H.size = a + n ∧ ∀ o, o < n → va_at D xcl (a + o, E o) H
def xA0 (a : Nat) : Nat → Prop := fun q => a ≤ q
def xAOs (s0 : State) : Prop := va_AO RX9 s0 ∧ va_AO RX2 s0 ∧ va_AO RX4 s0 ∧ va_AO RX6 s0 ∧ va_AO RX10 s0 ∧ va_AO RX5 s0
def xMI (own : String) (ix : Nat) (y : MethodName) (b : ByteArray) (n k : Nat) : Prop :=
  Cond.methodLink own ix y ∈ gW ∧ Cond.instanceMethod y ∈ gW ∧ Cond.initialized y.cls ∈ gW ∧ Cond.code y b n none ∈ gW ∧ y.name = "<init>" ∧ y.cls ≠ "java/lang/invoke/MethodHandle" ∧ y.cls ≠ "java/lang/invoke/VarHandle" ∧ (parseMethodDescriptor y.desc).map (fun d => d.parameters.length) = some k
def xMJ (own : String) (ix : Nat) (y : MethodName) (host : String) (b : ByteArray) (n k : Nat) : Prop :=
  Cond.methodLinkNest own ix y host ∈ xnw ∧ Cond.instanceMethod y ∈ gW ∧ Cond.initialized y.cls ∈ gW ∧ Cond.code y b n none ∈ gW ∧ y.name = "<init>" ∧ y.cls ≠ "java/lang/invoke/MethodHandle" ∧ y.cls ≠ "java/lang/invoke/VarHandle" ∧ (parseMethodDescriptor y.desc).map (fun d => d.parameters.length) = some k
theorem i_start {l : Launch} {y : MethodName} {b : ByteArray} {n : Nat} {rm : Room} {av : List Value} {Wd : Heap → Prop} {Qc : Array Value → State → Outcome → State → Prop} {mc ms : Nat} {free : Addr → Prop} {D : va_G} {cA : Nat → ClassId} {s0 : State}
    {own : String} (lv : List (Nat × Value)) (hlv : lv_args 0 av = lv) (ho : y.cls = own) (hy : plainName own = true) (hn : (lg_sl av).length ≤ n)
    (body : ∀ (p : Program) (e : Env) (s : State) (m : MethodId) (args : Array Value) (below : List Frame) (meth : Method) (c : Code), xC D cA s0 own b n none p s m args meth c → meth.name = y.name → Wd s.heap → xW p l e rm s m args below meth c n (MQ below Qc args s mc ms free) s.heap [] 0 0 0 lv []) : Met l y (wsG y b n none) rm (xP D cA s0 av Wd) Qc mc ms free := by
  subst ho
  subst hlv
  refine Met.ofW (cc := b) (maxL := n) (ret := none) hy rfl ?_
  intro p e s m args below meth c s₁ B hml hv
  obtain ⟨rfl, hK, hWd⟩ := hv
  have hts := atoms_spec (ws := wsG y b n none) B.pre
  rw [lg_entry_eq]
  exact body p e s m av.toArray below meth c ⟨B.exec, B.bytes, B.returns, hml, findClass_of_methodNamed B.named, fun w hw => hts w (List.mem_cons_of_mem _ hw), B.notSynchronized, hK⟩ (name_of_methodNamed B.named B.method).1 hWd _ (lv_entry av hn)
section CROWS
variable {p : Program} {l : Launch} {e : Env} {R : Room} {s : State} {m : MethodId} {args : Array Value} {below : List Frame} {meth : Method} {c : Code} {nL : Nat} {Q : State → Prop} {H : Heap} {locs : List Loc} {cells slots : Nat} {pc : Nat} {lv : List (Nat × Value)} {st : List Value}
  {D : va_G} {cA : Nat → ClassId} {s0 : State} {own : String} {cc : ByteArray} {rt : Option FieldType}
theorem x_new {ix ci N : Nat} {Cn : String} {T : u_T} {ty0 : Nat → FieldType} {fs : List Value} (C : xC D cA s0 own cc nL rt p s m args meth c) (CF : xCF ci Cn T N ty0) (hcl : Cond.classLink own ix Cn ∈ gW) (hinst : Cond.instantiable Cn N ∈ gW) (hini : Cond.initialized Cn ∈ gW) (hfs : ∀ j, j < N → defaultValue (ty0 j) = vp_V fs j) (hcells : cells + 1 ≤ R.cells) (hslots : slots + N ≤ R.slots) (hd : decode cc pc = .ok (.new ix, 3))
    (kk : ∀ H1 : Heap, va_at D xcl (H.size, .inr (ci, fs)) H1 → H1.size = H.size + 1 → (∀ q : Nat, q < H.size → H1[q]? = H[q]?) → xW p l e R s m args below meth c nL Q H1 locs (cells + 1) (slots + N) (pc + 3) lv (.ref H.size :: st)) : xW p l e R s m args below meth c nL Q H locs cells slots pc lv st := fun ls hl => by
  have hKn := C.2.2.2.2.2.2.2.1.1 ci _ CF.1
  refine W.newcK C.1 C.2.1 C.2.2.2.2.1 (C.2.2.2.2.2.1 _ hcl) (C.2.2.2.2.2.1 _ hinst) (C.2.2.2.2.2.1 _ hini) rfl hd hcells hslots hKn.2.1 rfl fun H1 kC hkC e1 z1 o1 => ?_
  exact kk H1 ⟨_, CF.1, (u_born ty0 C.2.2.2.2.2.1 CF.2.1 hKn hkC e1 CF.2.2.1).to hfs⟩ z1 o1 ls hl
theorem x_newaI {n : Int32} {N : Nat} (C : xC D cA s0 own cc nL rt p s m args meth c) (harr : Cond.arrayClass .int ∈ gW) (hn : n = nI N) (h : N ≤ 100000) (hcells : cells + 1 ≤ R.cells) (hslots : slots + N ≤ R.slots) (hd : decode cc pc = .ok (.newarray .int, 2))
    (kk : ∀ H1 : Heap, va_at D xcl (H.size, .inl (cA 0, N, .inl (fun _ => 0))) H1 → H1.size = H.size + 1 → (∀ q : Nat, q < H.size → H1[q]? = H[q]?) → xW p l e R s m args below meth c nL Q H1 locs (cells + 1) (slots + N) (pc + 2) lv (.ref H.size :: st)) : xW p l e R s m args below meth c nL Q H locs cells slots pc lv (.int n :: st) := fun ls hl => by
  subst hn
  refine va_newaK (atype := .int) C.1 C.2.1 (C.2.2.2.2.2.1 _ harr) rfl hd rfl (nI_pos (by omega)) (nI_clamp (by omega)) (by show N * 4 ≤ 536870912; omega) hcells hslots rfl fun H1 c1 e1 z1 o1 _ hNm => ?_
  have hc : c1 = cA 0 := Option.some.inj (hNm.symm.trans (C.2.2.2.2.2.2.2.1.2 0 _ rfl).2)
  subst hc
  exact kk H1 e1 z1 o1 ls hl
theorem x_newaL {n : Int32} {N : Nat} (C : xC D cA s0 own cc nL rt p s m args meth c) (harr : Cond.arrayClass .long ∈ gW) (hn : n = nI N) (h : N ≤ 100000) (hcells : cells + 1 ≤ R.cells) (hslots : slots + N ≤ R.slots) (hd : decode cc pc = .ok (.newarray .long, 2))
    (kk : ∀ H1 : Heap, va_at D xcl (H.size, .inl (cA 1, N, .inr (.inl (fun _ => 0)))) H1 → H1.size = H.size + 1 → (∀ q : Nat, q < H.size → H1[q]? = H[q]?) → xW p l e R s m args below meth c nL Q H1 locs (cells + 1) (slots + N) (pc + 2) lv (.ref H.size :: st)) : xW p l e R s m args below meth c nL Q H locs cells slots pc lv (.int n :: st) := fun ls hl => by
  subst hn
  refine va_newaK (atype := .long) C.1 C.2.1 (C.2.2.2.2.2.1 _ harr) rfl hd rfl (nI_pos (by omega)) (nI_clamp (by omega)) (by show N * 8 ≤ 536870912; omega) hcells hslots rfl fun H1 c1 e1 z1 o1 _ hNm => ?_
  have hc : c1 = cA 1 := Option.some.inj (hNm.symm.trans (C.2.2.2.2.2.2.2.1.2 1 _ rfl).2)
  subst hc
  exact kk H1 e1 z1 o1 ls hl
theorem x_newaB {n : Int32} {N : Nat} (C : xC D cA s0 own cc nL rt p s m args meth c) (harr : Cond.arrayClass .byte ∈ gW) (hn : n = nI N) (h : N ≤ 100000) (hcells : cells + 1 ≤ R.cells) (hslots : slots + N ≤ R.slots) (hd : decode cc pc = .ok (.newarray .byte, 2))
    (kk : ∀ H1 : Heap, va_at D xcl (H.size, .inl (cA 2, N, .inl (fun _ => 0))) H1 → H1.size = H.size + 1 → (∀ q : Nat, q < H.size → H1[q]? = H[q]?) → xW p l e R s m args below meth c nL Q H1 locs (cells + 1) (slots + N) (pc + 2) lv (.ref H.size :: st)) : xW p l e R s m args below meth c nL Q H locs cells slots pc lv (.int n :: st) := fun ls hl => by
  subst hn
  refine va_newaK (atype := .byte) C.1 C.2.1 (C.2.2.2.2.2.1 _ harr) rfl hd rfl (nI_pos (by omega)) (nI_clamp (by omega)) (by show N * 1 ≤ 536870912; omega) hcells hslots rfl fun H1 c1 e1 z1 o1 _ hNm => ?_
  have hc : c1 = cA 2 := Option.some.inj (hNm.symm.trans (C.2.2.2.2.2.2.2.1.2 2 _ rfl).2)
  subst hc
  exact kk H1 e1 z1 o1 ls hl
theorem x_newaQ {ix N t : Nat} {Cn : String} {n : Int32} (C : xC D cA s0 own cc nL rt p s m args meth c) (hAO : va_AO Cn s0) (ht : (xty cA)[t]? = some (cA t, .object Cn)) (hcl : Cond.classLink own ix Cn ∈ gW) (hn : n = nI N) (h : N ≤ 100000) (hcells : cells + 1 ≤ R.cells) (hslots : slots + N ≤ R.slots) (hd : decode cc pc = .ok (.anewarray ix, 3))
    (kk : ∀ H1 : Heap, va_at D xcl (H.size, .inl (cA t, N, .inr (.inr (.inr (.inr (fun _ => none)))))) H1 → H1.size = H.size + 1 → (∀ q : Nat, q < H.size → H1[q]? = H[q]?) → xW p l e R s m args below meth c nL Q H1 locs (cells + 1) (slots + N) (pc + 3) lv (.ref H.size :: st)) : xW p l e R s m args below meth c nL Q H locs cells slots pc lv (.int n :: st) := fun ls hl => by
  subst hn
  have ecl : (nI N).toNatClampNeg = N := nI_clamp (by omega)
  refine W.anew C.1 C.2.1 C.2.2.2.2.1 (C.2.2.2.2.2.1 _ hcl) (va_AO.use (va_AO.moved C.2.2.2.2.2.2.2.2.2.alike hAO)) rfl hd rfl (nI_pos (by omega)) (by rw [ecl]; omega) hcells (by rw [ecl]; exact hslots) fun c1 kA comp f1 f2 f3 f4 => ?_
  obtain ⟨kA', comp', g1, g2, g3, g4⟩ := (C.2.2.2.2.2.2.2.1.2 t _ ht).2
  have hc : c1 = cA t := Option.some.inj (f1.symm.trans g4)
  subst hc
  rw [ecl]
  refine kk _ ?_ (by rw [Array.size_push]) (fun q hq => by rw [Array.getElem?_push, if_neg (Nat.ne_of_lt hq)]) ls hl
  show (H.push _)[H.size]? = some (vp_cell _ _)
  rw [Array.getElem?_push_size, vp_cell_q, ← arrV_new]
  rfl
theorem x_astq {a n v ci t N k : Nat} {f : Nat → Option Nat} {vs : List Value} {Cn : String} {T : u_T} {i : Int32} {A : Nat → Prop} {H0 : Heap} (C : xC D cA s0 own cc nL rt p s m args meth c) (hq : va_at D xcl (a, .inl (cA t, n, .inr (.inr (.inr (.inr f))))) H) (ht : (xty cA)[t]? = some (cA t, .object Cn)) (hv : va_at D xcl (v, .inr (ci, vs)) H) (hc : xcl[ci]? = some (Cn, T, N)) (hi : i = nI k) (hk : k < n) (h31 : n < 2 ^ 31) (hd : decode cc pc = .ok (.aastore, 1)) (hS : va_S A H0 H locs) (hA : A a)
    (kk : ∀ (H1 : Heap) (locs1 : List Loc), va_at D xcl (a, .inl (cA t, n, .inr (.inr (.inr (.inr (va_up f k (some v))))))) H1 → (∀ q : Nat, q ≠ a → H1[q]? = H[q]?) → H1.size = H.size → va_S A H0 H1 locs1 → xW p l e R s m args below meth c nL Q H1 locs1 cells slots (pc + 1) lv st) : xW p l e R s m args below meth c nL Q H locs cells slots pc lv (.ref v :: .int i :: .ref a :: st) := fun ls hl => by
  subst hi
  have ecl : (nI k).toNatClampNeg = k := nI_clamp (by omega)
  obtain ⟨r', hr', cellV, g1, g2, g3, -⟩ := hv
  have hcls := (C.2.2.2.2.2.2.2.1.1 ci _ hc).2
  obtain ⟨kA, comp, k1, k2, k3, -⟩ := (C.2.2.2.2.2.2.2.1.2 t _ ht).2
  have hcomp : comp = D.1 ci := Option.some.inj (k3.symm.trans hcls.1)
  subst hcomp
  obtain ⟨kC, hkC, -⟩ := hcls.2
  have hq' : H[a]? = some (vp_cell (cA t) (n, .inr (.inr (.inr (.inr f))))) := hq
  refine W.aast C.1 C.2.1 hq' (fun q h => by cases h) (fun h => by cases h) k1 k2 rfl hkC ⟨nI_pos (by omega), by show _ < (arrV _ _ _).slots.size; rw [arrV_size, ecl]; exact hk⟩ g1 (fun q h => by rw [g3] at h; cases h) (by rw [g2]; exact hkC) (by rw [g2]; exact va_assign hcls) rfl rfl hd fun H1 e z oq => ?_
  rw [ecl] at e
  refine kk H1 _ ?_ oq z (hS.put z oq hA) ls hl
  show H1[a]? = some (vp_cell _ _)
  rw [e]
  rw [vp_cell_q, vp_cell_q, arrV_store]
  congr 2
  funext q
  by_cases hq : q = k
  · subst hq
    simp [updV, va_up, va_rf]
  · simp [updV, va_up, hq]
theorem x_obj {ix a : Nat} (C : xC D cA s0 own cc nL rt p s m args meth c) (hl0 : Cond.methodLink own ix Lib.objectInit ∈ gW) (hi0 : Cond.instanceMethod Lib.objectInit ∈ gW) (hc0 : Cond.code Lib.objectInit ⟨#[0xb1]⟩ 1 none ∈ gW) (hfr : 1 ≤ R.frames) (hlo : (st.map fun v => v.category).sum + 12 ≤ R.locals) (hd : decode cc pc = .ok (.invokespecial ix, 3)) (kk : xW p l e R s m args below meth c nL Q H locs cells slots (pc + 3) lv st) : xW p l e R s m args below meth c nL Q H locs cells slots pc lv (.ref a :: st) := fun ls hl =>
  W.objInit C.1 C.2.1 C.2.2.2.2.1 (C.2.2.2.2.2.1 _ hl0) (C.2.2.2.2.2.1 _ hi0) (C.2.2.2.2.2.1 _ hc0) rfl (hl.1.trans C.2.2.2.1.symm) rfl hd hfr (by show 2 * 0 + _ + 12 ≤ _; omega) (kk ls hl)
theorem x_putF {ix ci k N : Nat} {Cn : String} {T : u_T} {ty0 : Nat → FieldType} {a : Nat} {fs : List Value} {v : Value} {A : Nat → Prop} {H0 : Heap} (C : xC D cA s0 own cc nL rt p s m args meth c) (FL : xFL own ix ci k Cn T N ty0) (hq : va_at D xcl (a, .inr (ci, fs)) H) (hfin : (T k).2.2.2 = true) (hin2 : meth.name = "<init>") (hdecl : (T k).1 = own) (hn : narrow (ty0 k) v = v) (hfit : fits (ty0 k) v = true) (hlen : k < fs.length) (hd : decode cc pc = .ok (.putfield ix, 3)) (hS : va_S A H0 H locs) (hA : A a)
    (kk : ∀ (H1 : Heap) (locs1 : List Loc), va_at D xcl (a, .inr (ci, fs.set k v)) H1 → (∀ q : Nat, q ≠ a → H1[q]? = H[q]?) → H1.size = H.size → va_S A H0 H1 locs1 → xW p l e R s m args below meth c nL Q H1 locs1 cells slots (pc + 3) lv st) : xW p l e R s m args below meth c nL Q H locs cells slots pc lv (v :: .ref a :: st) := fun ls hl => by
  obtain ⟨hexec, hb, -, -, hown, hts, -, hK, -⟩ := C
  obtain ⟨⟨hc, hin, hty, hnm⟩, hk, hlink⟩ := FL
  have hlink := hts _ hlink
  have hap := va_apart (own := own) (D := D) (cl := xcl) (tys := xty cA) hts hin ty0 hty hnm hK hc
  obtain ⟨r, h1, cell, q1, q2, q3, q4⟩ := hq
  have hr : r = (Cn, T, N) := Option.some.inj (h1.symm.trans hc)
  subst hr
  obtain ⟨hSl, hfc, kC, hkC, hkind⟩ := hK.1 ci _ hc
  obtain ⟨cf, kf, fi, f, hi, hsl⟩ := hSl k hk
  have hlay := hts _ (hin _ (u_in_lay hk))
  unfold u_lay at hlay
  rw [if_pos hfin] at hlay
  have hst := (u_facts hfc hkC (u_lays hts hin hk) hi).1
  have hcf : m.cls = cf := by
    obtain ⟨_, _, c', _, _, _, -, -, hf', -, -, -, hown2, -⟩ := Cond.laysFinal_spec hlay
    have e1 : c' = cf := by have := hi.symm.trans hf'; simp at this; exact this.1.symm
    rw [hdecl] at hown2
    rw [← e1]; exact Option.some.inj (hown.symm.trans hown2)
  have h6 := u_fits hfc hkC hkind (Or.inr hlay) hi (hty k hk) hn hfit
  refine W.putFinK hexec hb hown hlink hi hst hcf hin2 (by rw [q2]; exact h6) q1 q3 (by rw [hsl]; exact k2_hasslot (q4 k hk)) rfl rfl hd fun H' e1 e2 e3 => ?_
  rw [hsl] at e1 ⊢
  exact kk H' _ ⟨_, hc, t_OB.to (V := updV (vp_V fs) k v) ⟨_, e1, q2, q3, t_set q4 hap hk v⟩ (fun j _ => vp_updV_set hlen v j)⟩ e3 e2 (hS.put e2 e3 hA) ls hl
theorem x_runI {ix n k mc ms b : Nat} {y : MethodName} {bytes : ByteArray} {rm : Room} {As : List Value} {Wd : Heap → Prop} {Qc : Array Value → State → Outcome → State → Prop} {free : Nat → Prop} {ls : Array Slot} (rest : List Value) (hl : ls.size = nL) (C : xC D cA s0 own cc nL rt p s m args meth c) (ML : xMI own ix y bytes n k) (hM : Met l y (wsG y bytes n none) rm (xP D cA s0 (.ref b :: As) Wd) Qc mc ms free) (hrm : xRm rm R mc ms n) (hn : As.length = k) (hWd : Wd H) (hro : (rest.map fun v => v.category).sum ≤ 8) (hcs : cells + mc ≤ R.cells ∧ slots + ms ≤ R.slots) (hd : decode cc pc = .ok (.invokespecial ix, 3)) :
    va_Run p l e R s m args below meth c H locs cells slots mc ms (F0 m pc ls (As.reverse ++ .ref b :: rest)) rest (Qc (Value.ref b :: As).toArray) free := by
  obtain ⟨h1, h2, h3, h4, h5, h6⟩ := ML
  exact va_runI (As := As) (rest := rest) ⟨C.1, C.2.1, C.2.2.2.1, C.2.2.2.2.1, C.2.2.2.2.2.1⟩ hM (cwI k C.2.2.2.2.2.1 (wsG_good h4) rfl hrm.1 hrm.2.1 (C.2.2.2.2.2.1 _ h3) (C.2.2.2.2.2.1 _ h1) (C.2.2.2.2.2.1 _ h2) h5 h6 hrm.2.2) ⟨xP_blind, fun U hU hW => ⟨rfl, C.2.2.2.2.2.2.2.warm hW, by rw [hU]; exact hWd⟩⟩ rfl hn hl rfl (lv_room hro) hd hcs
theorem x_runJ {ix n k mc ms b : Nat} {y : MethodName} {host : String} {bytes : ByteArray} {rm : Room} {As : List Value} {Wd : Heap → Prop} {Qc : Array Value → State → Outcome → State → Prop} {free : Nat → Prop} {ls : Array Slot} (rest : List Value) (hl : ls.size = nL) (C : xC D cA s0 own cc nL rt p s m args meth c) (ML : xMJ own ix y host bytes n k) (hM : Met l y (wsG y bytes n none) rm (xP D cA s0 (.ref b :: As) Wd) Qc mc ms free) (hrm : xRm rm R mc ms n) (hn : As.length = k) (hWd : Wd H) (hro : (rest.map fun v => v.category).sum ≤ 8) (hcs : cells + mc ≤ R.cells ∧ slots + ms ≤ R.slots) (hd : decode cc pc = .ok (.invokespecial ix, 3)) :
    va_Run p l e R s m args below meth c H locs cells slots mc ms (F0 m pc ls (As.reverse ++ .ref b :: rest)) rest (Qc (Value.ref b :: As).toArray) free := by
  obtain ⟨h1, h2, h3, h4, h5, h6⟩ := ML
  exact va_runIN (As := As) (rest := rest) ⟨C.1, C.2.1, C.2.2.2.1, C.2.2.2.2.1, C.2.2.2.2.2.1⟩ hM ⟨va_cnB k C.2.2.2.2.2.1 (wsG_good h4) rfl hrm.1 hrm.2.1 (C.2.2.2.2.2.2.2.2.1 _ h1) (C.2.2.2.2.2.1 _ h3) h6 hrm.2.2, h5, C.2.2.2.2.2.1 _ h2⟩ ⟨xP_blind, fun U hU hW => ⟨rfl, C.2.2.2.2.2.2.2.warm hW, by rw [hU]; exact hWd⟩⟩ rfl hn hl rfl (lv_room hro) hd hcs
end CROWS
