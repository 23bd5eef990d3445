/-! A block of cells at b .. b+n-1, each by its shape and by what the memory's functions hold for it: ints, longs, references. -/
abbrev Mm : Type := (Nat → Nat → Int32) × (Nat → Nat → Int64) × (Nat → Nat → Nat)
abbrev Sh : Type := Nat → Nat → (Nat → Int32) → (Nat → Int64) → (Nat → Nat) → va_E
def Rg (D : va_G) (sh : Sh) (n b : Nat) (μ : Mm) (H : Heap) : Prop := ∀ off, off < n → va_at D xcl (b + off, sh b off (μ.1 off) (μ.2.1 off) (μ.2.2 off)) H
def uI (μ : Mm) (o k : Nat) (x : Int32) : Mm := (fun o' => if o' = o then upd (μ.1 o) k x else μ.1 o', μ.2)
def uP (μ : Mm) (o k : Nat) (x : Int64) : Mm := (μ.1, fun o' => if o' = o then vp_updL (μ.2.1 o) k x else μ.2.1 o', μ.2.2)
def uN (μ : Mm) (o k : Nat) (x : Nat) : Mm := (μ.1, μ.2.1, fun o' => if o' = o then va_up (μ.2.2 o) k x else μ.2.2 o')
/-- a whole row of ints, of longs -/
def uR (μ : Mm) (o : Nat) (f : Nat → Int32) : Mm := (fun o' => if o' = o then f else μ.1 o', μ.2)
def uL (μ : Mm) (o : Nat) (f : Nat → Int64) : Mm := (μ.1, fun o' => if o' = o then f else μ.2.1 o', μ.2.2)
theorem uI_s (μ : Mm) (o k : Nat) (x : Int32) : (uI μ o k x).1 o = upd (μ.1 o) k x := if_pos rfl
theorem uP_s (μ : Mm) (o k : Nat) (x : Int64) : (uP μ o k x).2.1 o = vp_updL (μ.2.1 o) k x := if_pos rfl
theorem uN_s (μ : Mm) (o k : Nat) (x : Nat) : (uN μ o k x).2.2 o = va_up (μ.2.2 o) k x := if_pos rfl
theorem uI_o {μ : Mm} {o k : Nat} {x : Int32} {o' : Nat} (h : o' ≠ o) : (uI μ o k x).1 o' = μ.1 o' ∧ (uI μ o k x).2.1 o' = μ.2.1 o' ∧ (uI μ o k x).2.2 o' = μ.2.2 o' := ⟨if_neg h, rfl, rfl⟩
theorem uP_o {μ : Mm} {o k : Nat} {x : Int64} {o' : Nat} (h : o' ≠ o) : (uP μ o k x).1 o' = μ.1 o' ∧ (uP μ o k x).2.1 o' = μ.2.1 o' ∧ (uP μ o k x).2.2 o' = μ.2.2 o' := ⟨rfl, if_neg h, rfl⟩
theorem uN_o {μ : Mm} {o k : Nat} {x : Nat} {o' : Nat} (h : o' ≠ o) : (uN μ o k x).1 o' = μ.1 o' ∧ (uN μ o k x).2.1 o' = μ.2.1 o' ∧ (uN μ o k x).2.2 o' = μ.2.2 o' := ⟨rfl, rfl, if_neg h⟩
theorem Rg.at {D : va_G} {sh : Sh} {n b : Nat} {μ : Mm} {H : Heap} (h : Rg D sh n b μ H) (off : Nat) (hlt : off < n) {e : va_E} (he : sh b off (μ.1 off) (μ.2.1 off) (μ.2.2 off) = e) : va_at D xcl (b + off, e) H := he ▸ h off hlt
theorem Rg.put {D : va_G} {sh : Sh} {n b : Nat} {μ μ' : Mm} {H H1 : Heap} (h : Rg D sh n b μ H) {off : Nat} {e : va_E} (he : va_at D xcl (b + off, e) H1) (hs : sh b off (μ'.1 off) (μ'.2.1 off) (μ'.2.2 off) = e)
    (hm : ∀ o', o' ≠ off → μ'.1 o' = μ.1 o' ∧ μ'.2.1 o' = μ.2.1 o' ∧ μ'.2.2 o' = μ.2.2 o') (hq : ∀ q : Nat, q ≠ b + off → H1[q]? = H[q]?) : Rg D sh n b μ' H1 := by
  intro o' ho
  by_cases hoo : o' = off
  · subst hoo
    rw [hs]; exact he
  · obtain ⟨h1, h2, h3⟩ := hm o' hoo
    rw [h1, h2, h3]
    exact (h o' ho).kept (hq _ (by show b + o' ≠ b + off; omega))
theorem Rg.kept {D : va_G} {sh : Sh} {n b : Nat} {μ : Mm} {H H1 : Heap} (h : Rg D sh n b μ H) (hq : ∀ q : Nat, b ≤ q → q < b + n → H1[q]? = H[q]?) : Rg D sh n b μ H1 := fun off ho => (h off ho).kept (hq _ (by show b ≤ b + off; omega) (by show b + off < b + n; omega))
/-- which addresses a method of a block may write -/
def xA (b n sz : Nat) : Nat → Prop := fun q => (b ≤ q ∧ q < b + n) ∨ sz ≤ q
theorem xA_in {b n sz off : Nat} (h : off < n) : xA b n sz (b + off) := Or.inl ⟨by omega, by omega⟩
theorem xA_le {b n sz : Nat} {A0 : Nat → Prop} {H0 H : Heap} {locs : List Loc} (hS : va_S (xA b n H0.size) H0 H locs) : ∀ q, xA b n H.size q → xA b n H0.size q := fun q h => h.elim (fun z => Or.inl z) (fun z => Or.inr (Nat.le_trans hS.1 z))
section XMEM
variable {p : Program} {l : Launch} {e : Env} {R : Room} {s : State} {m : MethodId} {args : Array Value} {below : List Frame} {meth : Method} {c : Code} {nL : Nat} {Q : State → Prop} {H : Heap} {locs : List Loc} {cells slots : Nat} {pc : Nat} {lv : List (Nat × Value)} {st : List Value}
  {D : va_G} {cA : Nat → ClassId} {own : String} {cc : ByteArray} {rt : Option FieldType} {sh : Sh} {b n : Nat} {μ : Mm} {A : Nat → Prop} {H0 : Heap}
theorem x_putI {ix ci k kk0 N : Nat} {Cn : String} {T : u_T} {ty0 : Nat → FieldType} {fs : List Value} {x : Int32} (off : Nat) (C : xC D cA own cc nL rt p s m args meth c) (FL : xFL own ix ci k Cn T N ty0) (hw : Rg D sh n b μ H) (hlt : off < n) (hs : sh b off (μ.1 off) (μ.2.1 off) (μ.2.2 off) = .inr (ci, fs)) (he : sh b off (upd (μ.1 off) kk0 x) (μ.2.1 off) (μ.2.2 off) = .inr (ci, fs.set k (.int x))) (hfin : (T k).2.2.2 = false) (ht : ty0 k = .int) (hlen : k < fs.length) (hd : decode cc pc = .ok (.putfield ix, 3)) (hS : va_S A H0 H locs) (hA : A (b + off))
    (kk : ∀ (H1 : Heap) (locs1 : List Loc), Rg D sh n b (uI μ off kk0 x) H1 → (∀ q : Nat, q ≠ b + off → H1[q]? = H[q]?) → H1.size = H.size → va_S A H0 H1 locs1 → xW p l e R s m args below meth c nL Q H1 locs1 cells slots (pc + 3) lv st) : xW p l e R s m args below meth c nL Q H locs cells slots pc lv (.int x :: .ref (b + off) :: st) :=
  x_put0 C FL (hw.at off hlt hs) hfin (by rw [ht]; rfl) (by rw [ht]; rfl) hlen hd hS hA (fun H1 locs1 h1 h2 h3 h4 => kk H1 locs1 (hw.put h1 (by rw [uI_s]; exact he) (fun _ => uI_o) h2) h2 h3 h4)
theorem x_putZ {ix ci k kk0 N : Nat} {Cn : String} {T : u_T} {ty0 : Nat → FieldType} {fs : List Value} {x : Int32} (off : Nat) (C : xC D cA own cc nL rt p s m args meth c) (FL : xFL own ix ci k Cn T N ty0) (hw : Rg D sh n b μ H) (hlt : off < n) (hs : sh b off (μ.1 off) (μ.2.1 off) (μ.2.2 off) = .inr (ci, fs)) (he : sh b off (upd (μ.1 off) kk0 x) (μ.2.1 off) (μ.2.2 off) = .inr (ci, fs.set k (.int x))) (hfin : (T k).2.2.2 = false) (hn : narrow (ty0 k) (.int x) = .int x) (hfit : fits (ty0 k) (.int x) = true) (hlen : k < fs.length) (hd : decode cc pc = .ok (.putfield ix, 3)) (hS : va_S A H0 H locs) (hA : A (b + off))
    (kk : ∀ (H1 : Heap) (locs1 : List Loc), Rg D sh n b (uI μ off kk0 x) H1 → (∀ q : Nat, q ≠ b + off → H1[q]? = H[q]?) → H1.size = H.size → va_S A H0 H1 locs1 → xW p l e R s m args below meth c nL Q H1 locs1 cells slots (pc + 3) lv st) : xW p l e R s m args below meth c nL Q H locs cells slots pc lv (.int x :: .ref (b + off) :: st) :=
  x_put0 C FL (hw.at off hlt hs) hfin hn hfit hlen hd hS hA (fun H1 locs1 h1 h2 h3 h4 => kk H1 locs1 (hw.put h1 (by rw [uI_s]; exact he) (fun _ => uI_o) h2) h2 h3 h4)
theorem x_putP {ix ci k kk0 N : Nat} {Cn : String} {T : u_T} {ty0 : Nat → FieldType} {fs : List Value} {x : Int64} (off : Nat) (C : xC D cA own cc nL rt p s m args meth c) (FL : xFL own ix ci k Cn T N ty0) (hw : Rg D sh n b μ H) (hlt : off < n) (hs : sh b off (μ.1 off) (μ.2.1 off) (μ.2.2 off) = .inr (ci, fs)) (he : sh b off (μ.1 off) (vp_updL (μ.2.1 off) kk0 x) (μ.2.2 off) = .inr (ci, fs.set k (.long x))) (hfin : (T k).2.2.2 = false) (ht : ty0 k = .long) (hlen : k < fs.length) (hd : decode cc pc = .ok (.putfield ix, 3)) (hS : va_S A H0 H locs) (hA : A (b + off))
    (kk : ∀ (H1 : Heap) (locs1 : List Loc), Rg D sh n b (uP μ off kk0 x) H1 → (∀ q : Nat, q ≠ b + off → H1[q]? = H[q]?) → H1.size = H.size → va_S A H0 H1 locs1 → xW p l e R s m args below meth c nL Q H1 locs1 cells slots (pc + 3) lv st) : xW p l e R s m args below meth c nL Q H locs cells slots pc lv (.long x :: .ref (b + off) :: st) :=
  x_put0 C FL (hw.at off hlt hs) hfin (by rw [ht]; rfl) (by rw [ht]; rfl) hlen hd hS hA (fun H1 locs1 h1 h2 h3 h4 => kk H1 locs1 (hw.put h1 (by rw [uP_s]; exact he) (fun _ => uP_o) h2) h2 h3 h4)
theorem x_putN {ix ci k kk0 N : Nat} {Cn : String} {T : u_T} {ty0 : Nat → FieldType} {fs : List Value} {x : Nat} (off : Nat) (C : xC D cA own cc nL rt p s m args meth c) (FL : xFL own ix ci k Cn T N ty0) (hw : Rg D sh n b μ H) (hlt : off < n) (hs : sh b off (μ.1 off) (μ.2.1 off) (μ.2.2 off) = .inr (ci, fs)) (he : sh b off (μ.1 off) (μ.2.1 off) (va_up (μ.2.2 off) kk0 x) = .inr (ci, fs.set k (.ref x))) (hfin : (T k).2.2.2 = false) (hn : narrow (ty0 k) (.ref x) = .ref x) (hfit : fits (ty0 k) (.ref x) = true) (hlen : k < fs.length) (hd : decode cc pc = .ok (.putfield ix, 3)) (hS : va_S A H0 H locs) (hA : A (b + off))
    (kk : ∀ (H1 : Heap) (locs1 : List Loc), Rg D sh n b (uN μ off kk0 x) H1 → (∀ q : Nat, q ≠ b + off → H1[q]? = H[q]?) → H1.size = H.size → va_S A H0 H1 locs1 → xW p l e R s m args below meth c nL Q H1 locs1 cells slots (pc + 3) lv st) : xW p l e R s m args below meth c nL Q H locs cells slots pc lv (.ref x :: .ref (b + off) :: st) :=
  x_put0 C FL (hw.at off hlt hs) hfin hn hfit hlen hd hS hA (fun H1 locs1 h1 h2 h3 h4 => kk H1 locs1 (hw.put h1 (by rw [uN_s]; exact he) (fun _ => uN_o) h2) h2 h3 h4)
theorem x_putNb {ix ci k kk0 N x : Nat} {Cn : String} {T : u_T} {ty0 : Nat → FieldType} {fs : List Value} (off : Nat) (C : xC D cA own cc nL rt p s m args meth c) (FL : xFL own ix ci k Cn T N ty0) (hw : Rg D sh n b μ H) (hlt : off < n) (hs : sh b off (μ.1 off) (μ.2.1 off) (μ.2.2 off) = .inr (ci, fs)) (he : sh b off (μ.1 off) (μ.2.1 off) (va_up (μ.2.2 off) kk0 x) = .inr (ci, fs.set k (.ref (b + x)))) (hfin : (T k).2.2.2 = false) (hn : narrow (ty0 k) (.ref (b + x)) = .ref (b + x)) (hfit : fits (ty0 k) (.ref (b + x)) = true) (hlen : k < fs.length) (hd : decode cc pc = .ok (.putfield ix, 3)) (hS : va_S A H0 H locs) (hA : A (b + off))
    (kk : ∀ (H1 : Heap) (locs1 : List Loc), Rg D sh n b (uN μ off kk0 x) H1 → (∀ q : Nat, q ≠ b + off → H1[q]? = H[q]?) → H1.size = H.size → va_S A H0 H1 locs1 → xW p l e R s m args below meth c nL Q H1 locs1 cells slots (pc + 3) lv st) : xW p l e R s m args below meth c nL Q H locs cells slots pc lv (.ref (b + x) :: .ref (b + off) :: st) :=
  x_put0 C FL (hw.at off hlt hs) hfin hn hfit hlen hd hS hA (fun H1 locs1 h1 h2 h3 h4 => kk H1 locs1 (hw.put h1 (by rw [uN_s]; exact he) (fun _ => uN_o) h2) h2 h3 h4)
theorem x_iastR {n0 : Nat} {i : Int32} {x : Int32} (off : Nat) (C : xC D cA own cc nL rt p s m args meth c) (hw : Rg D sh n b μ H) (hlt : off < n) (hs : ∀ f : Nat → Int32, sh b off f (μ.2.1 off) (μ.2.2 off) = .inl (cA 0, n0, .inl f)) (hin : vp_in i n0) (hd : decode cc pc = .ok (.iastore, 1)) (hS : va_S A H0 H locs) (hA : A (b + off))
    (kk : ∀ (H1 : Heap) (locs1 : List Loc), Rg D sh n b (uI μ off i.toNatClampNeg x) H1 → (∀ q : Nat, q ≠ b + off → H1[q]? = H[q]?) → H1.size = H.size → va_S A H0 H1 locs1 → xW p l e R s m args below meth c nL Q H1 locs1 cells slots (pc + 1) lv st) : xW p l e R s m args below meth c nL Q H locs cells slots pc lv (.int x :: .int i :: .ref (b + off) :: st) :=
  x_iast0 C (hw.at off hlt (hs (μ.1 off))) hin hd hS hA (fun H1 locs1 h1 h2 h3 h4 => kk H1 locs1 (hw.put h1 (by rw [uI_s]; exact hs _) (fun _ => uI_o) h2) h2 h3 h4)
theorem x_lastR {n0 : Nat} {i : Int32} {x : Int64} (off : Nat) (C : xC D cA own cc nL rt p s m args meth c) (hw : Rg D sh n b μ H) (hlt : off < n) (hs : ∀ f : Nat → Int64, sh b off (μ.1 off) f (μ.2.2 off) = .inl (cA 1, n0, .inr (.inl f))) (hin : vp_in i n0) (hd : decode cc pc = .ok (.lastore, 1)) (hS : va_S A H0 H locs) (hA : A (b + off))
    (kk : ∀ (H1 : Heap) (locs1 : List Loc), Rg D sh n b (uP μ off i.toNatClampNeg x) H1 → (∀ q : Nat, q ≠ b + off → H1[q]? = H[q]?) → H1.size = H.size → va_S A H0 H1 locs1 → xW p l e R s m args below meth c nL Q H1 locs1 cells slots (pc + 1) lv st) : xW p l e R s m args below meth c nL Q H locs cells slots pc lv (.long x :: .int i :: .ref (b + off) :: st) :=
  x_last0 C (hw.at off hlt (hs (μ.2.1 off))) hin hd hS hA (fun H1 locs1 h1 h2 h3 h4 => kk H1 locs1 (hw.put h1 (by rw [uP_s]; exact hs _) (fun _ => uP_o) h2) h2 h3 h4)
theorem x_bastR {n0 : Nat} {i : Int32} {x : Int32} (off : Nat) (C : xC D cA own cc nL rt p s m args meth c) (hw : Rg D sh n b μ H) (hlt : off < n) (hs : ∀ f : Nat → Int32, sh b off f (μ.2.1 off) (μ.2.2 off) = .inl (cA 2, n0, .inl f)) (hin : vp_in i n0) (hd : decode cc pc = .ok (.bastore, 1)) (hS : va_S A H0 H locs) (hA : A (b + off))
    (kk : ∀ (H1 : Heap) (locs1 : List Loc), Rg D sh n b (uI μ off i.toNatClampNeg (vp_nar .byte x)) H1 → (∀ q : Nat, q ≠ b + off → H1[q]? = H[q]?) → H1.size = H.size → va_S A H0 H1 locs1 → xW p l e R s m args below meth c nL Q H1 locs1 cells slots (pc + 1) lv st) : xW p l e R s m args below meth c nL Q H locs cells slots pc lv (.int x :: .int i :: .ref (b + off) :: st) :=
  x_bast0 C (hw.at off hlt (hs (μ.1 off))) hin hd hS hA (fun H1 locs1 h1 h2 h3 h4 => kk H1 locs1 (hw.put h1 (by rw [uI_s]; exact hs _) (fun _ => uI_o) h2) h2 h3 h4)
end XMEM
/-! the model's memory: 0 the object, 1 net, 2 draft, 3 paid, 4 input, 5 past, 6 pastPaid, 7 output -/
def shM (cA : Nat → ClassId) : Sh := fun b off f p n => match off with
  | 0 => .inr (12, [.int (f 0), .ref (b + 1), .ref (b + 2), .ref (b + n 3), .ref (b + 3), .ref (b + 4), .int (f 6), .int (f 7), .int (f 8), .int (f 9), .int (f 10), .int (f 11), .int (f 12), .int (f 13), .int (f 14), .int (f 15), .int (f 16), .ref (b + 5), .ref (b + 6), .int (f 19), .ref (b + 7), .int (f 21)])
  | 1 => .inl (cA 0, 1377, .inl f)
  | 2 => .inl (cA 0, 1377, .inl f)
  | 3 => .inl (cA 1, 8, .inr (.inl p))
  | 4 => .inl (cA 2, 800, .inl f)
  | 5 => .inl (cA 0, 8262, .inl f)
  | 6 => .inl (cA 1, 48, .inr (.inl p))
  | _ => .inl (cA 2, 3000, .inl f)
abbrev RM (D : va_G) (cA : Nat → ClassId) (b : Nat) (μ : Mm) (H : Heap) : Prop := Rg D (shM cA) 8 b μ H
theorem ixl {x : Int32} (n : Nat) (h : nI n = x) : x = nI n := h.symm
theorem ixa {x y : Int32} {a b : Nat} (h1 : x = nI a) (h2 : y = nI b) : x + y = nI (a + b) := by rw [h1, h2, nI_add]
theorem ixm {x y : Int32} {a b : Nat} (h1 : x = nI a) (h2 : y = nI b) : x * y = nI (a * b) := by rw [h1, h2, pk_mul]
theorem ixs {x y : Int32} {a b : Nat} (h1 : x = nI a) (h2 : y = nI b) (h : b ≤ a) : x - y = nI (a - b) := by rw [h1, h2, pk_sub h]
theorem ixin {x : Int32} {a N : Nat} (h1 : x = nI a) (h : a < N) (hN : N < 2 ^ 31) : vp_in x N := by rw [h1]; exact vp_in_nI h hN
theorem ixc {x : Int32} {a : Nat} (h1 : x = nI a) (h : a < 2 ^ 31) : x.toNatClampNeg = a := by rw [h1]; exact nI_clamp h
theorem e_i {F v : Int32} (h : F = v) : some (Value.int v) = some (.int F) := by rw [h]
theorem e_l {F v : Int64} (h : F = v) : some (Value.long v) = some (.long F) := by rw [h]
theorem e_b {F v : Bool} (h : F = v) : some (Value.int (bI v)) = some (.int (bI F)) := by rw [h]
theorem e_b0 {F : Bool} (h : F = false) : some (Value.int 0) = some (.int (bI F)) := by rw [h]; rfl
theorem e_b1 {F : Bool} (h : F = true) : some (Value.int 1) = some (.int (bI F)) := by rw [h]; rfl
theorem e_r {F v : Nat} (h : F = v) : some (Value.ref v) = some (.ref F) := by rw [h]
