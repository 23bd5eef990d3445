/-! Constructors: rows with exact addresses; the class's cells one behind another. -/
/-- n cells from a on, by a function; nothing behind them -/
def Lay (D : va_G) (E : Nat → va_E) (a n : Nat) (H : Heap) : Prop := H.size = a + n ∧ ∀ o, o < n → va_at D xcl (a + o, E o) H
def xA0 (a : Nat) : Nat → Prop := fun q => a ≤ q
def xAOs (s0 : State) : Prop := va_AO RX9 s0 ∧ va_AO RX2 s0 ∧ va_AO RX4 s0 ∧ va_AO RX6 s0 ∧ va_AO RX10 s0 ∧ va_AO RX5 s0
def xMI (own : String) (ix : Nat) (y : MethodName) (b : ByteArray) (n k : Nat) : Prop :=
  Cond.methodLink own ix y ∈ gW ∧ Cond.instanceMethod y ∈ gW ∧ Cond.initialized y.cls ∈ gW ∧ Cond.code y b n none ∈ gW ∧ y.name = "<init>" ∧ y.cls ≠ "java/lang/invoke/MethodHandle" ∧ y.cls ≠ "java/lang/invoke/VarHandle" ∧ (parseMethodDescriptor y.desc).map (fun d => d.parameters.length) = some k
def xMJ (own : String) (ix : Nat) (y : MethodName) (host : String) (b : ByteArray) (n k : Nat) : Prop :=
  Cond.methodLinkNest own ix y host ∈ xnw ∧ Cond.instanceMethod y ∈ gW ∧ Cond.initialized y.cls ∈ gW ∧ Cond.code y b n none ∈ gW ∧ y.name = "<init>" ∧ y.cls ≠ "java/lang/invoke/MethodHandle" ∧ y.cls ≠ "java/lang/invoke/VarHandle" ∧ (parseMethodDescriptor y.desc).map (fun d => d.parameters.length) = some k
theorem i_start {l : Launch} {y : MethodName} {b : ByteArray} {n : Nat} {rm : Room} {av : List Value} {Wd : Heap → Prop} {Qc : Array Value → State → Outcome → State → Prop} {mc ms : Nat} {free : Addr → Prop} {D : va_G} {cA : Nat → ClassId} {s0 : State}
    {own : String} (lv : List (Nat × Value)) (hlv : lv_args 0 av = lv) (ho : y.cls = own) (hy : plainName own = true) (hn : (lg_sl av).length ≤ n)
    (body : ∀ (p : Program) (e : Env) (s : State) (m : MethodId) (args : Array Value) (below : List Frame) (meth : Method) (c : Code), xC D cA s0 own b n none p s m args meth c → meth.name = y.name → Wd s.heap → xW p l e rm s m args below meth c n (MQ below Qc args s mc ms free) s.heap [] 0 0 0 lv []) : Met l y (wsG y b n none) rm (xP D cA s0 av Wd) Qc mc ms free := by
  subst ho
  subst hlv
  refine Met.ofW (cc := b) (maxL := n) (ret := none) hy rfl ?_
  intro p e s m args below meth c s₁ B hml hv
  obtain ⟨rfl, hK, hWd⟩ := hv
  have hts := atoms_spec (ws := wsG y b n none) B.pre
  rw [lg_entry_eq]
  exact body p e s m av.toArray below meth c ⟨B.exec, B.bytes, B.returns, hml, findClass_of_methodNamed B.named, fun w hw => hts w (List.mem_cons_of_mem _ hw), B.notSynchronized, hK⟩ (name_of_methodNamed B.named B.method).1 hWd _ (lv_entry av hn)
section CROWS
variable {p : Program} {l : Launch} {e : Env} {R : Room} {s : State} {m : MethodId} {args : Array Value} {below : List Frame} {meth : Method} {c : Code} {nL : Nat} {Q : State → Prop} {H : Heap} {locs : List Loc} {cells slots : Nat} {pc : Nat} {lv : List (Nat × Value)} {st : List Value}
  {D : va_G} {cA : Nat → ClassId} {s0 : State} {own : String} {cc : ByteArray} {rt : Option FieldType}
theorem x_new {ix ci N : Nat} {Cn : String} {T : u_T} {ty0 : Nat → FieldType} {fs : List Value} (C : xC D cA s0 own cc nL rt p s m args meth c) (CF : xCF ci Cn T N ty0) (hcl : Cond.classLink own ix Cn ∈ gW) (hinst : Cond.instantiable Cn N ∈ gW) (hini : Cond.initialized Cn ∈ gW) (hfs : ∀ j, j < N → defaultValue (ty0 j) = vp_V fs j) (hcells : cells + 1 ≤ R.cells) (hslots : slots + N ≤ R.slots) (hd : decode cc pc = .ok (.new ix, 3))
    (kk : ∀ H1 : Heap, va_at D xcl (H.size, .inr (ci, fs)) H1 → H1.size = H.size + 1 → (∀ q : Nat, q < H.size → H1[q]? = H[q]?) → xW p l e R s m args below meth c nL Q H1 locs (cells + 1) (slots + N) (pc + 3) lv (.ref H.size :: st)) : xW p l e R s m args below meth c nL Q H locs cells slots pc lv st := fun ls hl => by
  have hKn := C.2.2.2.2.2.2.2.1.1 ci _ CF.1
  refine W.newcK C.1 C.2.1 C.2.2.2.2.1 (C.2.2.2.2.2.1 _ hcl) (C.2.2.2.2.2.1 _ hinst) (C.2.2.2.2.2.1 _ hini) rfl hd hcells hslots hKn.2.1 rfl fun H1 kC hkC e1 z1 o1 => ?_
  exact kk H1 ⟨_, CF.1, (u_born ty0 C.2.2.2.2.2.1 CF.2.1 hKn hkC e1 CF.2.2.1).to hfs⟩ z1 o1 ls hl
theorem x_newaI {n : Int32} {N : Nat} (C : xC D cA s0 own cc nL rt p s m args meth c) (harr : Cond.arrayClass .int ∈ gW) (hn : n = nI N) (h : N ≤ 100000) (hcells : cells + 1 ≤ R.cells) (hslots : slots + N ≤ R.slots) (hd : decode cc pc = .ok (.newarray .int, 2))
    (kk : ∀ H1 : Heap, va_at D xcl (H.size, .inl (cA 0, N, .inl (fun _ => 0))) H1 → H1.size = H.size + 1 → (∀ q : Nat, q < H.size → H1[q]? = H[q]?) → xW p l e R s m args below meth c nL Q H1 locs (cells + 1) (slots + N) (pc + 2) lv (.ref H.size :: st)) : xW p l e R s m args below meth c nL Q H locs cells slots pc lv (.int n :: st) := fun ls hl => by
  subst hn
  refine va_newaK (atype := .int) C.1 C.2.1 (C.2.2.2.2.2.1 _ harr) rfl hd rfl (nI_pos (by omega)) (nI_clamp (by omega)) (by show N * 4 ≤ 536870912; omega) hcells hslots rfl fun H1 c1 e1 z1 o1 _ hNm => ?_
  have hc : c1 = cA 0 := Option.some.inj (hNm.symm.trans (C.2.2.2.2.2.2.2.1.2 0 _ rfl).2)
  subst hc
  exact kk H1 e1 z1 o1 ls hl
theorem x_newaL {n : Int32} {N : Nat} (C : xC D cA s0 own cc nL rt p s m args meth c) (harr : Cond.arrayClass .long ∈ gW) (hn : n = nI N) (h : N ≤ 100000) (hcells : cells + 1 ≤ R.cells) (hslots : slots + N ≤ R.slots) (hd : decode cc pc = .ok (.newarray .long, 2))
    (kk : ∀ H1 : Heap, va_at D xcl (H.size, .inl (cA 1, N, .inr (.inl (fun _ => 0)))) H1 → H1.size = H.size + 1 → (∀ q : Nat, q < H.size → H1[q]? = H[q]?) → xW p l e R s m args below meth c nL Q H1 locs (cells + 1) (slots + N) (pc + 2) lv (.ref H.size :: st)) : xW p l e R s m args below meth c nL Q H locs cells slots pc lv (.int n :: st) := fun ls hl => by
  subst hn
  refine va_newaK (atype := .long) C.1 C.2.1 (C.2.2.2.2.2.1 _ harr) rfl hd rfl (nI_pos (by omega)) (nI_clamp (by omega)) (by show N * 8 ≤ 536870912; omega) hcells hslots rfl fun H1 c1 e1 z1 o1 _ hNm => ?_
  have hc : c1 = cA 1 := Option.some.inj (hNm.symm.trans (C.2.2.2.2.2.2.2.1.2 1 _ rfl).2)
  subst hc
  exact kk H1 e1 z1 o1 ls hl
theorem x_newaB {n : Int32} {N : Nat} (C : xC D cA s0 own cc nL rt p s m args meth c) (harr : Cond.arrayClass .byte ∈ gW) (hn : n = nI N) (h : N ≤ 100000) (hcells : cells + 1 ≤ R.cells) (hslots : slots + N ≤ R.slots) (hd : decode cc pc = .ok (.newarray .byte, 2))
    (kk : ∀ H1 : Heap, va_at D xcl (H.size, .inl (cA 2, N, .inl (fun _ => 0))) H1 → H1.size = H.size + 1 → (∀ q : Nat, q < H.size → H1[q]? = H[q]?) → xW p l e R s m args below meth c nL Q H1 locs (cells + 1) (slots + N) (pc + 2) lv (.ref H.size :: st)) : xW p l e R s m args below meth c nL Q H locs cells slots pc lv (.int n :: st) := fun ls hl => by
  subst hn
  refine va_newaK (atype := .byte) C.1 C.2.1 (C.2.2.2.2.2.1 _ harr) rfl hd rfl (nI_pos (by omega)) (nI_clamp (by omega)) (by show N * 1 ≤ 536870912; omega) hcells hslots rfl fun H1 c1 e1 z1 o1 _ hNm => ?_
  have hc : c1 = cA 2 := Option.some.inj (hNm.symm.trans (C.2.2.2.2.2.2.2.1.2 2 _ rfl).2)
  subst hc
  exact kk H1 e1 z1 o1 ls hl
theorem x_newaQ {ix N t : Nat} {Cn : String} {n : Int32} (C : xC D cA s0 own cc nL rt p s m args meth c) (hAO : va_AO Cn s0) (ht : (xty cA)[t]? = some (cA t, .object Cn)) (hcl : Cond.classLink own ix Cn ∈ gW) (hn : n = nI N) (h : N ≤ 100000) (hcells : cells + 1 ≤ R.cells) (hslots : slots + N ≤ R.slots) (hd : decode cc pc = .ok (.anewarray ix, 3))
    (kk : ∀ H1 : Heap, va_at D xcl (H.size, .inl (cA t, N, .inr (.inr (.inr (.inr (fun _ => none)))))) H1 → H1.size = H.size + 1 → (∀ q : Nat, q < H.size → H1[q]? = H[q]?) → xW p l e R s m args below meth c nL Q H1 locs (cells + 1) (slots + N) (pc + 3) lv (.ref H.size :: st)) : xW p l e R s m args below meth c nL Q H locs cells slots pc lv (.int n :: st) := fun ls hl => by
  subst hn
  have ecl : (nI N).toNatClampNeg = N := nI_clamp (by omega)
  refine W.anew C.1 C.2.1 C.2.2.2.2.1 (C.2.2.2.2.2.1 _ hcl) (va_AO.use (va_AO.moved C.2.2.2.2.2.2.2.2.2.alike hAO)) rfl hd rfl (nI_pos (by omega)) (by rw [ecl]; omega) hcells (by rw [ecl]; exact hslots) fun c1 kA comp f1 f2 f3 f4 => ?_
  obtain ⟨kA', comp', g1, g2, g3, g4⟩ := (C.2.2.2.2.2.2.2.1.2 t _ ht).2
  have hc : c1 = cA t := Option.some.inj (f1.symm.trans g4)
  subst hc
  rw [ecl]
  refine kk _ ?_ (by rw [Array.size_push]) (fun q hq => by rw [Array.getElem?_push, if_neg (Nat.ne_of_lt hq)]) ls hl
  show (H.push _)[H.size]? = some (vp_cell _ _)
  rw [Array.getElem?_push_size, vp_cell_q, ← arrV_new]
  rfl
theorem x_astq {a n v ci t N k : Nat} {f : Nat → Option Nat} {vs : List Value} {Cn : String} {T : u_T} {i : Int32} {A : Nat → Prop} {H0 : Heap} (C : xC D cA s0 own cc nL rt p s m args meth c) (hq : va_at D xcl (a, .inl (cA t, n, .inr (.inr (.inr (.inr f))))) H) (ht : (xty cA)[t]? = some (cA t, .object Cn)) (hv : va_at D xcl (v, .inr (ci, vs)) H) (hc : xcl[ci]? = some (Cn, T, N)) (hi : i = nI k) (hk : k < n) (h31 : n < 2 ^ 31) (hd : decode cc pc = .ok (.aastore, 1)) (hS : va_S A H0 H locs) (hA : A a)
    (kk : ∀ (H1 : Heap) (locs1 : List Loc), va_at D xcl (a, .inl (cA t, n, .inr (.inr (.inr (.inr (va_up f k (some v))))))) H1 → (∀ q : Nat, q ≠ a → H1[q]? = H[q]?) → H1.size = H.size → va_S A H0 H1 locs1 → xW p l e R s m args below meth c nL Q H1 locs1 cells slots (pc + 1) lv st) : xW p l e R s m args below meth c nL Q H locs cells slots pc lv (.ref v :: .int i :: .ref a :: st) := fun ls hl => by
  subst hi
  have ecl : (nI k).toNatClampNeg = k := nI_clamp (by omega)
  obtain ⟨r', hr', cellV, g1, g2, g3, -⟩ := hv
  have hcls := (C.2.2.2.2.2.2.2.1.1 ci _ hc).2
  obtain ⟨kA, comp, k1, k2, k3, -⟩ := (C.2.2.2.2.2.2.2.1.2 t _ ht).2
  have hcomp : comp = D.1 ci := Option.some.inj (k3.symm.trans hcls.1)
  subst hcomp
  obtain ⟨kC, hkC, -⟩ := hcls.2
  have hq' : H[a]? = some (vp_cell (cA t) (n, .inr (.inr (.inr (.inr f))))) := hq
  refine W.aast C.1 C.2.1 hq' (fun q h => by cases h) (fun h => by cases h) k1 k2 rfl hkC ⟨nI_pos (by omega), by show _ < (arrV _ _ _).slots.size; rw [arrV_size, ecl]; exact hk⟩ g1 (fun q h => by rw [g3] at h; cases h) (by rw [g2]; exact hkC) (by rw [g2]; exact va_assign hcls) rfl rfl hd fun H1 e z oq => ?_
  rw [ecl] at e
  refine kk H1 _ ?_ oq z (hS.put z oq hA) ls hl
  show H1[a]? = some (vp_cell _ _)
  rw [e]
  rw [vp_cell_q, vp_cell_q, arrV_store]
  congr 2
  funext q
  by_cases hq : q = k
  · subst hq
    simp [updV, va_up, va_rf]
  · simp [updV, va_up, hq]
theorem x_obj {ix a : Nat} (C : xC D cA s0 own cc nL rt p s m args meth c) (hl0 : Cond.methodLink own ix Lib.objectInit ∈ gW) (hi0 : Cond.instanceMethod Lib.objectInit ∈ gW) (hc0 : Cond.code Lib.objectInit ⟨#[0xb1]⟩ 1 none ∈ gW) (hfr : 1 ≤ R.frames) (hlo : (st.map fun v => v.category).sum + 12 ≤ R.locals) (hd : decode cc pc = .ok (.invokespecial ix, 3)) (kk : xW p l e R s m args below meth c nL Q H locs cells slots (pc + 3) lv st) : xW p l e R s m args below meth c nL Q H locs cells slots pc lv (.ref a :: st) := fun ls hl =>
  W.objInit C.1 C.2.1 C.2.2.2.2.1 (C.2.2.2.2.2.1 _ hl0) (C.2.2.2.2.2.1 _ hi0) (C.2.2.2.2.2.1 _ hc0) rfl (hl.1.trans C.2.2.2.1.symm) rfl hd hfr (by show 2 * 0 + _ + 12 ≤ _; omega) (kk ls hl)
theorem x_putF {ix ci k N : Nat} {Cn : String} {T : u_T} {ty0 : Nat → FieldType} {a : Nat} {fs : List Value} {v : Value} {A : Nat → Prop} {H0 : Heap} (C : xC D cA s0 own cc nL rt p s m args meth c) (FL : xFL own ix ci k Cn T N ty0) (hq : va_at D xcl (a, .inr (ci, fs)) H) (hfin : (T k).2.2.2 = true) (hin2 : meth.name = "<init>") (hdecl : (T k).1 = own) (hn : narrow (ty0 k) v = v) (hfit : fits (ty0 k) v = true) (hlen : k < fs.length) (hd : decode cc pc = .ok (.putfield ix, 3)) (hS : va_S A H0 H locs) (hA : A a)
    (kk : ∀ (H1 : Heap) (locs1 : List Loc), va_at D xcl (a, .inr (ci, fs.set k v)) H1 → (∀ q : Nat, q ≠ a → H1[q]? = H[q]?) → H1.size = H.size → va_S A H0 H1 locs1 → xW p l e R s m args below meth c nL Q H1 locs1 cells slots (pc + 3) lv st) : xW p l e R s m args below meth c nL Q H locs cells slots pc lv (v :: .ref a :: st) := fun ls hl => by
  obtain ⟨hexec, hb, -, -, hown, hts, -, hK, -⟩ := C
  obtain ⟨⟨hc, hin, hty, hnm⟩, hk, hlink⟩ := FL
  have hlink := hts _ hlink
  have hap := va_apart (own := own) (D := D) (cl := xcl) (tys := xty cA) hts hin ty0 hty hnm hK hc
  obtain ⟨r, h1, cell, q1, q2, q3, q4⟩ := hq
  have hr : r = (Cn, T, N) := Option.some.inj (h1.symm.trans hc)
  subst hr
  obtain ⟨hSl, hfc, kC, hkC, hkind⟩ := hK.1 ci _ hc
  obtain ⟨cf, kf, fi, f, hi, hsl⟩ := hSl k hk
  have hlay := hts _ (hin _ (u_in_lay hk))
  unfold u_lay at hlay
  rw [if_pos hfin] at hlay
  have hst := (u_facts hfc hkC (u_lays hts hin hk) hi).1
  have hcf : m.cls = cf := by
    obtain ⟨_, _, c', _, _, _, -, -, hf', -, -, -, hown2, -⟩ := Cond.laysFinal_spec hlay
    have e1 : c' = cf := by have := hi.symm.trans hf'; simp at this; exact this.1.symm
    rw [hdecl] at hown2
    rw [← e1]; exact Option.some.inj (hown.symm.trans hown2)
  have h6 := u_fits hfc hkC hkind (Or.inr hlay) hi (hty k hk) hn hfit
  refine W.putFinK hexec hb hown hlink hi hst hcf hin2 (by rw [q2]; exact h6) q1 q3 (by rw [hsl]; exact k2_hasslot (q4 k hk)) rfl rfl hd fun H' e1 e2 e3 => ?_
  rw [hsl] at e1 ⊢
  exact kk H' _ ⟨_, hc, t_OB.to (V := updV (vp_V fs) k v) ⟨_, e1, q2, q3, t_set q4 hap hk v⟩ (fun j _ => vp_updV_set hlen v j)⟩ e3 e2 (hS.put e2 e3 hA) ls hl
theorem x_runI {ix n k mc ms b : Nat} {y : MethodName} {bytes : ByteArray} {rm : Room} {As : List Value} {Wd : Heap → Prop} {Qc : Array Value → State → Outcome → State → Prop} {free : Nat → Prop} {ls : Array Slot} (rest : List Value) (hl : ls.size = nL) (C : xC D cA s0 own cc nL rt p s m args meth c) (ML : xMI own ix y bytes n k) (hM : Met l y (wsG y bytes n none) rm (xP D cA s0 (.ref b :: As) Wd) Qc mc ms free) (hrm : xRm rm R mc ms n) (hn : As.length = k) (hWd : Wd H) (hro : (rest.map fun v => v.category).sum ≤ 8) (hcs : cells + mc ≤ R.cells ∧ slots + ms ≤ R.slots) (hd : decode cc pc = .ok (.invokespecial ix, 3)) :
    va_Run p l e R s m args below meth c H locs cells slots mc ms (F0 m pc ls (As.reverse ++ .ref b :: rest)) rest (Qc (Value.ref b :: As).toArray) free := by
  obtain ⟨h1, h2, h3, h4, h5, h6⟩ := ML
  exact va_runI (As := As) (rest := rest) ⟨C.1, C.2.1, C.2.2.2.1, C.2.2.2.2.1, C.2.2.2.2.2.1⟩ hM (cwI k C.2.2.2.2.2.1 (wsG_good h4) rfl hrm.1 hrm.2.1 (C.2.2.2.2.2.1 _ h3) (C.2.2.2.2.2.1 _ h1) (C.2.2.2.2.2.1 _ h2) h5 h6 hrm.2.2) ⟨xP_blind, fun U hU hW => ⟨rfl, C.2.2.2.2.2.2.2.warm hW, by rw [hU]; exact hWd⟩⟩ rfl hn hl rfl (lv_room hro) hd hcs
theorem x_runJ {ix n k mc ms b : Nat} {y : MethodName} {host : String} {bytes : ByteArray} {rm : Room} {As : List Value} {Wd : Heap → Prop} {Qc : Array Value → State → Outcome → State → Prop} {free : Nat → Prop} {ls : Array Slot} (rest : List Value) (hl : ls.size = nL) (C : xC D cA s0 own cc nL rt p s m args meth c) (ML : xMJ own ix y host bytes n k) (hM : Met l y (wsG y bytes n none) rm (xP D cA s0 (.ref b :: As) Wd) Qc mc ms free) (hrm : xRm rm R mc ms n) (hn : As.length = k) (hWd : Wd H) (hro : (rest.map fun v => v.category).sum ≤ 8) (hcs : cells + mc ≤ R.cells ∧ slots + ms ≤ R.slots) (hd : decode cc pc = .ok (.invokespecial ix, 3)) :
    va_Run p l e R s m args below meth c H locs cells slots mc ms (F0 m pc ls (As.reverse ++ .ref b :: rest)) rest (Qc (Value.ref b :: As).toArray) free := by
  obtain ⟨h1, h2, h3, h4, h5, h6⟩ := ML
  exact va_runIN (As := As) (rest := rest) ⟨C.1, C.2.1, C.2.2.2.1, C.2.2.2.2.1, C.2.2.2.2.2.1⟩ hM ⟨va_cnB k C.2.2.2.2.2.1 (wsG_good h4) rfl hrm.1 hrm.2.1 (C.2.2.2.2.2.2.2.2.1 _ h1) (C.2.2.2.2.2.1 _ h3) h6 hrm.2.2, h5, C.2.2.2.2.2.1 _ h2⟩ ⟨xP_blind, fun U hU hW => ⟨rfl, C.2.2.2.2.2.2.2.warm hW, by rw [hU]; exact hWd⟩⟩ rfl hn hl rfl (lv_room hro) hd hcs
end CROWS
theorem oi_i : Cond.instanceMethod Lib.objectInit ∈ gW := gW_in (gT1 (List.mem_of_getElem? (i := 37) (by decide +kernel))) (by decide +kernel)
theorem oi_c : Cond.code Lib.objectInit ⟨#[0xb1]⟩ 1 none ∈ gW := gW_in (gT1 (List.mem_of_getElem? (i := 38) (by decide +kernel))) (by decide +kernel)
theorem ar_int : Cond.arrayClass .int ∈ gW := gW_in (gT1 (List.mem_of_getElem? (i := 192) (by decide +kernel))) (by decide +kernel)
theorem ar_long : Cond.arrayClass .long ∈ gW := gW_in (gT8 (List.mem_of_getElem? (i := 152) (by decide +kernel))) (by decide +kernel)
theorem ar_byte : Cond.arrayClass .byte ∈ gW := gW_in (gT1 (List.mem_of_getElem? (i := 61) (by decide +kernel))) (by decide +kernel)
theorem oi_X11_1 : Cond.methodLink RX11 1 Lib.objectInit ∈ gW := gW_in (gT1 (List.mem_of_getElem? (i := 36) (by decide +kernel))) (by decide +kernel)
theorem mi_X11_11 : xMI RX11 11 yX1_init cX1_init 2 1 := ⟨gW_in (gT1 (List.mem_of_getElem? (i := 41) (by decide +kernel))) (by decide +kernel), gW_in (gT1 (List.mem_of_getElem? (i := 42) (by decide +kernel))) (by decide +kernel), gW_in (gT1 (List.mem_of_getElem? (i := 2) (by decide +kernel))) (by decide +kernel), gW_in (gT1 (List.mem_of_getElem? (i := 43) (by decide +kernel))) (by decide +kernel), rfl, by decide, by decide, by decide +kernel⟩
theorem mi_X11_23 : xMI RX11 23 yX5_init cX5_init 2 0 := ⟨gW_in (gT1 (List.mem_of_getElem? (i := 64) (by decide +kernel))) (by decide +kernel), gW_in (gT1 (List.mem_of_getElem? (i := 65) (by decide +kernel))) (by decide +kernel), gW_in (gT1 (List.mem_of_getElem? (i := 4) (by decide +kernel))) (by decide +kernel), gW_in (gT1 (List.mem_of_getElem? (i := 66) (by decide +kernel))) (by decide +kernel), rfl, by decide, by decide, by decide +kernel⟩
theorem mi_X11_33 : xMI RX11 33 yX7_init cX7_init 3 2 := ⟨gW_in (gT2 (List.mem_of_getElem? (i := 121) (by decide +kernel))) (by decide +kernel), gW_in (gT2 (List.mem_of_getElem? (i := 122) (by decide +kernel))) (by decide +kernel), gW_in (gT1 (List.mem_of_getElem? (i := 10) (by decide +kernel))) (by decide +kernel), gW_in (gT2 (List.mem_of_getElem? (i := 123) (by decide +kernel))) (by decide +kernel), rfl, by decide, by decide, by decide +kernel⟩
theorem mi_X11_42 : xMI RX11 42 yX3_init cX3_init 2 0 := ⟨gW_in (gT2 (List.mem_of_getElem? (i := 163) (by decide +kernel))) (by decide +kernel), gW_in (gT2 (List.mem_of_getElem? (i := 164) (by decide +kernel))) (by decide +kernel), gW_in (gT1 (List.mem_of_getElem? (i := 11) (by decide +kernel))) (by decide +kernel), gW_in (gT2 (List.mem_of_getElem? (i := 165) (by decide +kernel))) (by decide +kernel), rfl, by decide, by decide, by decide +kernel⟩
theorem mi_X11_49 : xMI RX11 49 yX0_init cX0_init 2 1 := ⟨gW_in (gT2 (List.mem_of_getElem? (i := 183) (by decide +kernel))) (by decide +kernel), gW_in (gT2 (List.mem_of_getElem? (i := 184) (by decide +kernel))) (by decide +kernel), gW_in (gT1 (List.mem_of_getElem? (i := 12) (by decide +kernel))) (by decide +kernel), gW_in (gT2 (List.mem_of_getElem? (i := 185) (by decide +kernel))) (by decide +kernel), rfl, by decide, by decide, by decide +kernel⟩
theorem mi_X11_58 : xMI RX11 58 yX8_init cX8_init 4 3 := ⟨gW_in (gT2 (List.mem_of_getElem? (i := 193) (by decide +kernel))) (by decide +kernel), gW_in (gT2 (List.mem_of_getElem? (i := 194) (by decide +kernel))) (by decide +kernel), gW_in (gT1 (List.mem_of_getElem? (i := 13) (by decide +kernel))) (by decide +kernel), gW_in (gT2 (List.mem_of_getElem? (i := 195) (by decide +kernel))) (by decide +kernel), rfl, by decide, by decide, by decide +kernel⟩
theorem oi_X0_3 : Cond.methodLink RX0 3 Lib.objectInit ∈ gW := gW_in (gT2 (List.mem_of_getElem? (i := 186) (by decide +kernel))) (by decide +kernel)
theorem oi_X1_1 : Cond.methodLink RX1 1 Lib.objectInit ∈ gW := gW_in (gT1 (List.mem_of_getElem? (i := 44) (by decide +kernel))) (by decide +kernel)
theorem oi_X2_3 : Cond.methodLink RX2 3 Lib.objectInit ∈ gW := gW_in (gT1 (List.mem_of_getElem? (i := 105) (by decide +kernel))) (by decide +kernel)
theorem oi_X3_3 : Cond.methodLink RX3 3 Lib.objectInit ∈ gW := gW_in (gT2 (List.mem_of_getElem? (i := 166) (by decide +kernel))) (by decide +kernel)
theorem mi_X3_17 : xMI RX3 17 yX5_init cX5_init 2 0 := ⟨gW_in (gT2 (List.mem_of_getElem? (i := 169) (by decide +kernel))) (by decide +kernel), gW_in (gT1 (List.mem_of_getElem? (i := 65) (by decide +kernel))) (by decide +kernel), gW_in (gT1 (List.mem_of_getElem? (i := 4) (by decide +kernel))) (by decide +kernel), gW_in (gT1 (List.mem_of_getElem? (i := 66) (by decide +kernel))) (by decide +kernel), rfl, by decide, by decide, by decide +kernel⟩
theorem oi_X4_3 : Cond.methodLink RX4 3 Lib.objectInit ∈ gW := gW_in (gT1 (List.mem_of_getElem? (i := 150) (by decide +kernel))) (by decide +kernel)
theorem oi_X5_3 : Cond.methodLink RX5 3 Lib.objectInit ∈ gW := gW_in (gT1 (List.mem_of_getElem? (i := 67) (by decide +kernel))) (by decide +kernel)
theorem mi_X5_41 : xMJ RX5 41 yX9_init "PortDues" cX9_init 1 0 := ⟨List.mem_of_getElem? (i := 3) (by decide +kernel), gW_in (gT1 (List.mem_of_getElem? (i := 80) (by decide +kernel))) (by decide +kernel), gW_in (gT1 (List.mem_of_getElem? (i := 5) (by decide +kernel))) (by decide +kernel), gW_in (gT1 (List.mem_of_getElem? (i := 81) (by decide +kernel))) (by decide +kernel), rfl, by decide, by decide, by decide +kernel⟩
theorem mi_X5_42 : xMJ RX5 42 yX2_init "PortDues" cX2_init 1 0 := ⟨List.mem_of_getElem? (i := 4) (by decide +kernel), gW_in (gT1 (List.mem_of_getElem? (i := 103) (by decide +kernel))) (by decide +kernel), gW_in (gT1 (List.mem_of_getElem? (i := 6) (by decide +kernel))) (by decide +kernel), gW_in (gT1 (List.mem_of_getElem? (i := 104) (by decide +kernel))) (by decide +kernel), rfl, by decide, by decide, by decide +kernel⟩
theorem mi_X5_43 : xMJ RX5 43 yX4_init "PortDues" cX4_init 1 0 := ⟨List.mem_of_getElem? (i := 5) (by decide +kernel), gW_in (gT1 (List.mem_of_getElem? (i := 148) (by decide +kernel))) (by decide +kernel), gW_in (gT1 (List.mem_of_getElem? (i := 7) (by decide +kernel))) (by decide +kernel), gW_in (gT1 (List.mem_of_getElem? (i := 149) (by decide +kernel))) (by decide +kernel), rfl, by decide, by decide, by decide +kernel⟩
theorem mi_X5_44 : xMJ RX5 44 yX6_init "PortDues" cX6_init 1 0 := ⟨List.mem_of_getElem? (i := 6) (by decide +kernel), gW_in (gT1 (List.mem_of_getElem? (i := 195) (by decide +kernel))) (by decide +kernel), gW_in (gT1 (List.mem_of_getElem? (i := 8) (by decide +kernel))) (by decide +kernel), gW_in (gT1 (List.mem_of_getElem? (i := 196) (by decide +kernel))) (by decide +kernel), rfl, by decide, by decide, by decide +kernel⟩
theorem mi_X5_45 : xMJ RX5 45 yX10_init "PortDues" cX10_init 1 0 := ⟨List.mem_of_getElem? (i := 7) (by decide +kernel), gW_in (gT1 (List.mem_of_getElem? (i := 221) (by decide +kernel))) (by decide +kernel), gW_in (gT1 (List.mem_of_getElem? (i := 9) (by decide +kernel))) (by decide +kernel), gW_in (gT1 (List.mem_of_getElem? (i := 222) (by decide +kernel))) (by decide +kernel), rfl, by decide, by decide, by decide +kernel⟩
theorem oi_X6_1 : Cond.methodLink RX6 1 Lib.objectInit ∈ gW := gW_in (gT1 (List.mem_of_getElem? (i := 197) (by decide +kernel))) (by decide +kernel)
theorem oi_X7_3 : Cond.methodLink RX7 3 Lib.objectInit ∈ gW := gW_in (gT2 (List.mem_of_getElem? (i := 124) (by decide +kernel))) (by decide +kernel)
theorem oi_X8_3 : Cond.methodLink RX8 3 Lib.objectInit ∈ gW := gW_in (gT2 (List.mem_of_getElem? (i := 196) (by decide +kernel))) (by decide +kernel)
theorem oi_X9_1 : Cond.methodLink RX9 1 Lib.objectInit ∈ gW := gW_in (gT1 (List.mem_of_getElem? (i := 82) (by decide +kernel))) (by decide +kernel)
theorem oi_X10_3 : Cond.methodLink RX10 3 Lib.objectInit ∈ gW := gW_in (gT1 (List.mem_of_getElem? (i := 223) (by decide +kernel))) (by decide +kernel)
theorem mi_L_199 : xMI RL 199 yX11_init cX11_init 1 0 := ⟨gW_in (gT1 (List.mem_of_getElem? (i := 33) (by decide +kernel))) (by decide +kernel), gW_in (gT1 (List.mem_of_getElem? (i := 34) (by decide +kernel))) (by decide +kernel), gW_in (gT1 (List.mem_of_getElem? (i := 1) (by decide +kernel))) (by decide +kernel), gW_in (gT1 (List.mem_of_getElem? (i := 35) (by decide +kernel))) (by decide +kernel), rfl, by decide, by decide, by decide +kernel⟩
theorem mi_L_202 : xMI RL 202 yX12_init cX12_init 1 0 := ⟨gW_in (gT8 (List.mem_of_getElem? (i := 81) (by decide +kernel))) (by decide +kernel), gW_in (gT8 (List.mem_of_getElem? (i := 82) (by decide +kernel))) (by decide +kernel), gW_in (gT1 (List.mem_of_getElem? (i := 14) (by decide +kernel))) (by decide +kernel), gW_in (gT8 (List.mem_of_getElem? (i := 83) (by decide +kernel))) (by decide +kernel), rfl, by decide, by decide, by decide +kernel⟩
theorem oi_X12_11 : Cond.methodLink RX12 11 Lib.objectInit ∈ gW := gW_in (gT8 (List.mem_of_getElem? (i := 84) (by decide +kernel))) (by decide +kernel)
theorem kl_X11_7 : Cond.classLink RX11 7 RX1 ∈ gW := gW_in (gT1 (List.mem_of_getElem? (i := 39) (by decide +kernel))) (by decide +kernel)
theorem kl_X11_21 : Cond.classLink RX11 21 RX5 ∈ gW := gW_in (gT1 (List.mem_of_getElem? (i := 62) (by decide +kernel))) (by decide +kernel)
theorem kl_X11_31 : Cond.classLink RX11 31 RX7 ∈ gW := gW_in (gT2 (List.mem_of_getElem? (i := 119) (by decide +kernel))) (by decide +kernel)
theorem kl_X11_40 : Cond.classLink RX11 40 RX3 ∈ gW := gW_in (gT2 (List.mem_of_getElem? (i := 161) (by decide +kernel))) (by decide +kernel)
theorem kl_X11_47 : Cond.classLink RX11 47 RX0 ∈ gW := gW_in (gT2 (List.mem_of_getElem? (i := 181) (by decide +kernel))) (by decide +kernel)
theorem kl_X11_56 : Cond.classLink RX11 56 RX8 ∈ gW := gW_in (gT2 (List.mem_of_getElem? (i := 191) (by decide +kernel))) (by decide +kernel)
theorem kl_X3_9 : Cond.classLink RX3 9 RX5 ∈ gW := gW_in (gT2 (List.mem_of_getElem? (i := 167) (by decide +kernel))) (by decide +kernel)
theorem kl_X5_9 : Cond.classLink RX5 9 RX9 ∈ gW := gW_in (gT1 (List.mem_of_getElem? (i := 68) (by decide +kernel))) (by decide +kernel)
theorem kl_X5_17 : Cond.classLink RX5 17 RX2 ∈ gW := gW_in (gT1 (List.mem_of_getElem? (i := 70) (by decide +kernel))) (by decide +kernel)
theorem kl_X5_23 : Cond.classLink RX5 23 RX4 ∈ gW := gW_in (gT1 (List.mem_of_getElem? (i := 72) (by decide +kernel))) (by decide +kernel)
theorem kl_X5_29 : Cond.classLink RX5 29 RX6 ∈ gW := gW_in (gT1 (List.mem_of_getElem? (i := 74) (by decide +kernel))) (by decide +kernel)
theorem kl_X5_35 : Cond.classLink RX5 35 RX10 ∈ gW := gW_in (gT1 (List.mem_of_getElem? (i := 76) (by decide +kernel))) (by decide +kernel)
theorem kl_L_8 : Cond.classLink RL 8 RX11 ∈ gW := gW_in (gT1 (List.mem_of_getElem? (i := 31) (by decide +kernel))) (by decide +kernel)
theorem kl_L_200 : Cond.classLink RL 200 RX12 ∈ gW := gW_in (gT8 (List.mem_of_getElem? (i := 79) (by decide +kernel))) (by decide +kernel)
theorem in_0 : Cond.instantiable RX0 1 ∈ gW := gW_in (gT2 (List.mem_of_getElem? (i := 182) (by decide +kernel))) (by decide +kernel)
theorem ii_0 : Cond.initialized RX0 ∈ gW := gW_in (gT1 (List.mem_of_getElem? (i := 12) (by decide +kernel))) (by decide +kernel)
theorem in_1 : Cond.instantiable RX1 3 ∈ gW := gW_in (gT1 (List.mem_of_getElem? (i := 40) (by decide +kernel))) (by decide +kernel)
theorem ii_1 : Cond.initialized RX1 ∈ gW := gW_in (gT1 (List.mem_of_getElem? (i := 2) (by decide +kernel))) (by decide +kernel)
theorem in_2 : Cond.instantiable RX2 7 ∈ gW := gW_in (gT1 (List.mem_of_getElem? (i := 101) (by decide +kernel))) (by decide +kernel)
theorem ii_2 : Cond.initialized RX2 ∈ gW := gW_in (gT1 (List.mem_of_getElem? (i := 6) (by decide +kernel))) (by decide +kernel)
theorem in_3 : Cond.instantiable RX3 3 ∈ gW := gW_in (gT2 (List.mem_of_getElem? (i := 162) (by decide +kernel))) (by decide +kernel)
theorem ii_3 : Cond.initialized RX3 ∈ gW := gW_in (gT1 (List.mem_of_getElem? (i := 11) (by decide +kernel))) (by decide +kernel)
theorem in_4 : Cond.instantiable RX4 7 ∈ gW := gW_in (gT1 (List.mem_of_getElem? (i := 146) (by decide +kernel))) (by decide +kernel)
theorem ii_4 : Cond.initialized RX4 ∈ gW := gW_in (gT1 (List.mem_of_getElem? (i := 7) (by decide +kernel))) (by decide +kernel)
theorem in_5 : Cond.instantiable RX5 11 ∈ gW := gW_in (gT1 (List.mem_of_getElem? (i := 63) (by decide +kernel))) (by decide +kernel)
theorem ii_5 : Cond.initialized RX5 ∈ gW := gW_in (gT1 (List.mem_of_getElem? (i := 4) (by decide +kernel))) (by decide +kernel)
theorem in_6 : Cond.instantiable RX6 4 ∈ gW := gW_in (gT1 (List.mem_of_getElem? (i := 193) (by decide +kernel))) (by decide +kernel)
theorem ii_6 : Cond.initialized RX6 ∈ gW := gW_in (gT1 (List.mem_of_getElem? (i := 8) (by decide +kernel))) (by decide +kernel)
theorem in_7 : Cond.instantiable RX7 11 ∈ gW := gW_in (gT2 (List.mem_of_getElem? (i := 120) (by decide +kernel))) (by decide +kernel)
theorem ii_7 : Cond.initialized RX7 ∈ gW := gW_in (gT1 (List.mem_of_getElem? (i := 10) (by decide +kernel))) (by decide +kernel)
theorem in_8 : Cond.instantiable RX8 3 ∈ gW := gW_in (gT2 (List.mem_of_getElem? (i := 192) (by decide +kernel))) (by decide +kernel)
theorem ii_8 : Cond.initialized RX8 ∈ gW := gW_in (gT1 (List.mem_of_getElem? (i := 13) (by decide +kernel))) (by decide +kernel)
theorem in_9 : Cond.instantiable RX9 3 ∈ gW := gW_in (gT1 (List.mem_of_getElem? (i := 78) (by decide +kernel))) (by decide +kernel)
theorem ii_9 : Cond.initialized RX9 ∈ gW := gW_in (gT1 (List.mem_of_getElem? (i := 5) (by decide +kernel))) (by decide +kernel)
theorem in_10 : Cond.instantiable RX10 12 ∈ gW := gW_in (gT1 (List.mem_of_getElem? (i := 219) (by decide +kernel))) (by decide +kernel)
theorem ii_10 : Cond.initialized RX10 ∈ gW := gW_in (gT1 (List.mem_of_getElem? (i := 9) (by decide +kernel))) (by decide +kernel)
theorem in_11 : Cond.instantiable RX11 8 ∈ gW := gW_in (gT1 (List.mem_of_getElem? (i := 32) (by decide +kernel))) (by decide +kernel)
theorem ii_11 : Cond.initialized RX11 ∈ gW := gW_in (gT1 (List.mem_of_getElem? (i := 1) (by decide +kernel))) (by decide +kernel)
theorem in_12 : Cond.instantiable RX12 22 ∈ gW := gW_in (gT8 (List.mem_of_getElem? (i := 80) (by decide +kernel))) (by decide +kernel)
theorem ii_12 : Cond.initialized RX12 ∈ gW := gW_in (gT1 (List.mem_of_getElem? (i := 14) (by decide +kernel))) (by decide +kernel)
