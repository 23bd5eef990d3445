/-! A block of cells at b .. b+n-1, each by its shape and by what the memory's functions hold for it: ints, longs, references. -/
abbrev Mm : Type := (Nat → Nat → Int32) × (Nat → Nat → Int64) × (Nat → Nat → Nat)
abbrev Sh : Type := Nat → Nat → (Nat → Int32) → (Nat → Int64) → (Nat → Nat) → va_E
def Rg (D : va_G) (sh : Sh) (n b : Nat) (μ : Mm) (H : Heap) : Prop := ∀ off, off < n → va_at D xcl (b + off, sh b off (μ.1 off) (μ.2.1 off) (μ.2.2 off)) H
def uI (μ : Mm) (o k : Nat) (x : Int32) : Mm := (fun o' => if o' = o then upd (μ.1 o) k x else μ.1 o', μ.2)
def uP (μ : Mm) (o k : Nat) (x : Int64) : Mm := (μ.1, fun o' => if o' = o then vp_updL (μ.2.1 o) k x else μ.2.1 o', μ.2.2)
def uN (μ : Mm) (o k : Nat) (x : Nat) : Mm := (μ.1, μ.2.1, fun o' => if o' = o then va_up (μ.2.2 o) k x else μ.2.2 o')
/-- a whole row of ints, of longs -/
def uR (μ : Mm) (o : Nat) (f : Nat → Int32) : Mm := (fun o' => if o' = o then f else μ.1 o', μ.2)
def uL (μ : Mm) (o : Nat) (f : Nat → Int64) : Mm := (μ.1, fun o' => if o' = o then f else μ.2.1 o', μ.2.2)
theorem uI_s (μ : Mm) (o k : Nat) (x : Int32) : (uI μ o k x).1 o = upd (μ.1 o) k x := if_pos rfl
theorem uP_s (μ : Mm) (o k : Nat) (x : Int64) : (uP μ o k x).2.1 o = vp_updL (μ.2.1 o) k x := if_pos rfl
theorem uN_s (μ : Mm) (o k : Nat) (x : Nat) : (uN μ o k x).2.2 o = va_up (μ.2.2 o) k x := if_pos rfl
theorem uI_o {μ : Mm} {o k : Nat} {x : Int32} {o' : Nat} (h : o' ≠ o) : (uI μ o k x).1 o' = μ.1 o' ∧ (uI μ o k x).2.1 o' = μ.2.1 o' ∧ (uI μ o k x).2.2 o' = μ.2.2 o' := ⟨if_neg h, rfl, rfl⟩
theorem uP_o {μ : Mm} {o k : Nat} {x : Int64} {o' : Nat} (h : o' ≠ o) : (uP μ o k x).1 o' = μ.1 o' ∧ (uP μ o k x).2.1 o' = μ.2.1 o' ∧ (uP μ o k x).2.2 o' = μ.2.2 o' := ⟨rfl, if_neg h, rfl⟩
theorem uN_o {μ : Mm} {o k : Nat} {x : Nat} {o' : Nat} (h : o' ≠ o) : (uN μ o k x).1 o' = μ.1 o' ∧ (uN μ o k x).2.1 o' = μ.2.1 o' ∧ (uN μ o k x).2.2 o' = μ.2.2 o' := ⟨rfl, rfl, if_neg h⟩
theorem Rg.at {D : va_G} {sh : Sh} {n b : Nat} {μ : Mm} {H : Heap} (h : Rg D sh n b μ H) (off : Nat) (hlt : off < n) {e : va_E} (he : sh b off (μ.1 off) (μ.2.1 off) (μ.2.2 off) = e) : va_at D xcl (b + off, e) H := he ▸ h off hlt
theorem Rg.put {D : va_G} {sh : Sh} {n b : Nat} {μ μ' : Mm} {H H1 : Heap} (h : Rg D sh n b μ H) {off : Nat} {e : va_E} (he : va_at D xcl (b + off, e) H1) (hs : sh b off (μ'.1 off) (μ'.2.1 off) (μ'.2.2 off) = e)
    (hm : ∀ o', o' ≠ off → μ'.1 o' = μ.1 o' ∧ μ'.2.1 o' = μ.2.1 o' ∧ μ'.2.2 o' = μ.2.2 o') (hq : ∀ q : Nat, q ≠ b + off → H1[q]? = H[q]?) : Rg D sh n b μ' H1 := by
  intro o' ho
  by_cases hoo : o' = off
  · subst hoo
    rw [hs]; exact he
  · obtain ⟨h1, h2, h3⟩ := hm o' hoo
    rw [h1, h2, h3]
    exact (h o' ho).kept (hq _ (by show b + o' ≠ b + off; omega))
theorem Rg.kept {D : va_G} {sh : Sh} {n b : Nat} {μ : Mm} {H H1 : Heap} (h : Rg D sh n b μ H) (hq : ∀ q : Nat, b ≤ q → q < b + n → H1[q]? = H[q]?) : Rg D sh n b μ H1 := fun off ho => (h off ho).kept (hq _ (by show b ≤ b + off; omega) (by show b + off < b + n; omega))
/-- which addresses a method of a block may write -/
def xA (b n sz : Nat) : Nat → Prop := fun q => (b ≤ q ∧ q < b + n) ∨ sz ≤ q
theorem xA_in {b n sz off : Nat} (h : off < n) : xA b n sz (b + off) := Or.inl ⟨by omega, by omega⟩
theorem xA_le {b n : Nat} {H0 H : Heap} {locs : List Loc} (hS : va_S (xA b n H0.size) H0 H locs) : ∀ q, xA b n H.size q → xA b n H0.size q := fun q h => h.elim (fun z => Or.inl z) (fun z => Or.inr (Nat.le_trans hS.1 z))
section XMEM
variable {p : Program} {l : Launch} {e : Env} {R : Room} {s : State} {m : MethodId} {args : Array Value} {below : List Frame} {meth : Method} {c : Code} {nL : Nat} {Q : State → Prop} {H : Heap} {locs : List Loc} {cells slots : Nat} {pc : Nat} {lv : List (Nat × Value)} {st : List Value}
  {D : va_G} {cA : Nat → ClassId} {s0 : State} {own : String} {cc : ByteArray} {rt : Option FieldType} {sh : Sh} {b n : Nat} {μ : Mm} {A : Nat → Prop} {H0 : Heap}
theorem x_putI {ix ci k kk0 N : Nat} {Cn : String} {T : u_T} {ty0 : Nat → FieldType} {fs : List Value} {x : Int32} (off : Nat) (C : xC D cA s0 own cc nL rt p s m args meth c) (FL : xFL own ix ci k Cn T N ty0) (hw : Rg D sh n b μ H) (hlt : off < n) (hs : sh b off (μ.1 off) (μ.2.1 off) (μ.2.2 off) = .inr (ci, fs)) (he : sh b off (upd (μ.1 off) kk0 x) (μ.2.1 off) (μ.2.2 off) = .inr (ci, fs.set k (.int x))) (hfin : (T k).2.2.2 = false) (ht : ty0 k = .int) (hlen : k < fs.length) (hd : decode cc pc = .ok (.putfield ix, 3)) (hS : va_S A H0 H locs) (hA : A (b + off))
    (kk : ∀ (H1 : Heap) (locs1 : List Loc), Rg D sh n b (uI μ off kk0 x) H1 → (∀ q : Nat, q ≠ b + off → H1[q]? = H[q]?) → H1.size = H.size → va_S A H0 H1 locs1 → xW p l e R s m args below meth c nL Q H1 locs1 cells slots (pc + 3) lv st) : xW p l e R s m args below meth c nL Q H locs cells slots pc lv (.int x :: .ref (b + off) :: st) :=
  x_put0 C FL (hw.at off hlt hs) hfin (by rw [ht]; rfl) (by rw [ht]; rfl) hlen hd hS hA (fun H1 locs1 h1 h2 h3 h4 => kk H1 locs1 (hw.put h1 (by rw [uI_s]; exact he) (fun _ => uI_o) h2) h2 h3 h4)
theorem x_putZ {ix ci k kk0 N : Nat} {Cn : String} {T : u_T} {ty0 : Nat → FieldType} {fs : List Value} {x : Int32} (off : Nat) (C : xC D cA s0 own cc nL rt p s m args meth c) (FL : xFL own ix ci k Cn T N ty0) (hw : Rg D sh n b μ H) (hlt : off < n) (hs : sh b off (μ.1 off) (μ.2.1 off) (μ.2.2 off) = .inr (ci, fs)) (he : sh b off (upd (μ.1 off) kk0 x) (μ.2.1 off) (μ.2.2 off) = .inr (ci, fs.set k (.int x))) (hfin : (T k).2.2.2 = false) (hn : narrow (ty0 k) (.int x) = .int x) (hfit : fits (ty0 k) (.int x) = true) (hlen : k < fs.length) (hd : decode cc pc = .ok (.putfield ix, 3)) (hS : va_S A H0 H locs) (hA : A (b + off))
    (kk : ∀ (H1 : Heap) (locs1 : List Loc), Rg D sh n b (uI μ off kk0 x) H1 → (∀ q : Nat, q ≠ b + off → H1[q]? = H[q]?) → H1.size = H.size → va_S A H0 H1 locs1 → xW p l e R s m args below meth c nL Q H1 locs1 cells slots (pc + 3) lv st) : xW p l e R s m args below meth c nL Q H locs cells slots pc lv (.int x :: .ref (b + off) :: st) :=
  x_put0 C FL (hw.at off hlt hs) hfin hn hfit hlen hd hS hA (fun H1 locs1 h1 h2 h3 h4 => kk H1 locs1 (hw.put h1 (by rw [uI_s]; exact he) (fun _ => uI_o) h2) h2 h3 h4)
theorem x_putP {ix ci k kk0 N : Nat} {Cn : String} {T : u_T} {ty0 : Nat → FieldType} {fs : List Value} {x : Int64} (off : Nat) (C : xC D cA s0 own cc nL rt p s m args meth c) (FL : xFL own ix ci k Cn T N ty0) (hw : Rg D sh n b μ H) (hlt : off < n) (hs : sh b off (μ.1 off) (μ.2.1 off) (μ.2.2 off) = .inr (ci, fs)) (he : sh b off (μ.1 off) (vp_updL (μ.2.1 off) kk0 x) (μ.2.2 off) = .inr (ci, fs.set k (.long x))) (hfin : (T k).2.2.2 = false) (ht : ty0 k = .long) (hlen : k < fs.length) (hd : decode cc pc = .ok (.putfield ix, 3)) (hS : va_S A H0 H locs) (hA : A (b + off))
    (kk : ∀ (H1 : Heap) (locs1 : List Loc), Rg D sh n b (uP μ off kk0 x) H1 → (∀ q : Nat, q ≠ b + off → H1[q]? = H[q]?) → H1.size = H.size → va_S A H0 H1 locs1 → xW p l e R s m args below meth c nL Q H1 locs1 cells slots (pc + 3) lv st) : xW p l e R s m args below meth c nL Q H locs cells slots pc lv (.long x :: .ref (b + off) :: st) :=
  x_put0 C FL (hw.at off hlt hs) hfin (by rw [ht]; rfl) (by rw [ht]; rfl) hlen hd hS hA (fun H1 locs1 h1 h2 h3 h4 => kk H1 locs1 (hw.put h1 (by rw [uP_s]; exact he) (fun _ => uP_o) h2) h2 h3 h4)
theorem x_putN {ix ci k kk0 N : Nat} {Cn : String} {T : u_T} {ty0 : Nat → FieldType} {fs : List Value} {x : Nat} (off : Nat) (C : xC D cA s0 own cc nL rt p s m args meth c) (FL : xFL own ix ci k Cn T N ty0) (hw : Rg D sh n b μ H) (hlt : off < n) (hs : sh b off (μ.1 off) (μ.2.1 off) (μ.2.2 off) = .inr (ci, fs)) (he : sh b off (μ.1 off) (μ.2.1 off) (va_up (μ.2.2 off) kk0 x) = .inr (ci, fs.set k (.ref x))) (hfin : (T k).2.2.2 = false) (hn : narrow (ty0 k) (.ref x) = .ref x) (hfit : fits (ty0 k) (.ref x) = true) (hlen : k < fs.length) (hd : decode cc pc = .ok (.putfield ix, 3)) (hS : va_S A H0 H locs) (hA : A (b + off))
    (kk : ∀ (H1 : Heap) (locs1 : List Loc), Rg D sh n b (uN μ off kk0 x) H1 → (∀ q : Nat, q ≠ b + off → H1[q]? = H[q]?) → H1.size = H.size → va_S A H0 H1 locs1 → xW p l e R s m args below meth c nL Q H1 locs1 cells slots (pc + 3) lv st) : xW p l e R s m args below meth c nL Q H locs cells slots pc lv (.ref x :: .ref (b + off) :: st) :=
  x_put0 C FL (hw.at off hlt hs) hfin hn hfit hlen hd hS hA (fun H1 locs1 h1 h2 h3 h4 => kk H1 locs1 (hw.put h1 (by rw [uN_s]; exact he) (fun _ => uN_o) h2) h2 h3 h4)
theorem x_putNb {ix ci k kk0 N x : Nat} {Cn : String} {T : u_T} {ty0 : Nat → FieldType} {fs : List Value} (off : Nat) (C : xC D cA s0 own cc nL rt p s m args meth c) (FL : xFL own ix ci k Cn T N ty0) (hw : Rg D sh n b μ H) (hlt : off < n) (hs : sh b off (μ.1 off) (μ.2.1 off) (μ.2.2 off) = .inr (ci, fs)) (he : sh b off (μ.1 off) (μ.2.1 off) (va_up (μ.2.2 off) kk0 x) = .inr (ci, fs.set k (.ref (b + x)))) (hfin : (T k).2.2.2 = false) (hn : narrow (ty0 k) (.ref (b + x)) = .ref (b + x)) (hfit : fits (ty0 k) (.ref (b + x)) = true) (hlen : k < fs.length) (hd : decode cc pc = .ok (.putfield ix, 3)) (hS : va_S A H0 H locs) (hA : A (b + off))
    (kk : ∀ (H1 : Heap) (locs1 : List Loc), Rg D sh n b (uN μ off kk0 x) H1 → (∀ q : Nat, q ≠ b + off → H1[q]? = H[q]?) → H1.size = H.size → va_S A H0 H1 locs1 → xW p l e R s m args below meth c nL Q H1 locs1 cells slots (pc + 3) lv st) : xW p l e R s m args below meth c nL Q H locs cells slots pc lv (.ref (b + x) :: .ref (b + off) :: st) :=
  x_put0 C FL (hw.at off hlt hs) hfin hn hfit hlen hd hS hA (fun H1 locs1 h1 h2 h3 h4 => kk H1 locs1 (hw.put h1 (by rw [uN_s]; exact he) (fun _ => uN_o) h2) h2 h3 h4)
theorem x_iastR {n0 : Nat} {i : Int32} {x : Int32} (off : Nat) (C : xC D cA s0 own cc nL rt p s m args meth c) (hw : Rg D sh n b μ H) (hlt : off < n) (hs : ∀ f : Nat → Int32, sh b off f (μ.2.1 off) (μ.2.2 off) = .inl (cA 0, n0, .inl f)) (hin : vp_in i n0) (hd : decode cc pc = .ok (.iastore, 1)) (hS : va_S A H0 H locs) (hA : A (b + off))
    (kk : ∀ (H1 : Heap) (locs1 : List Loc), Rg D sh n b (uI μ off i.toNatClampNeg x) H1 → (∀ q : Nat, q ≠ b + off → H1[q]? = H[q]?) → H1.size = H.size → va_S A H0 H1 locs1 → xW p l e R s m args below meth c nL Q H1 locs1 cells slots (pc + 1) lv st) : xW p l e R s m args below meth c nL Q H locs cells slots pc lv (.int x :: .int i :: .ref (b + off) :: st) :=
  x_iast0 C (hw.at off hlt (hs (μ.1 off))) hin hd hS hA (fun H1 locs1 h1 h2 h3 h4 => kk H1 locs1 (hw.put h1 (by rw [uI_s]; exact hs _) (fun _ => uI_o) h2) h2 h3 h4)
theorem x_lastR {n0 : Nat} {i : Int32} {x : Int64} (off : Nat) (C : xC D cA s0 own cc nL rt p s m args meth c) (hw : Rg D sh n b μ H) (hlt : off < n) (hs : ∀ f : Nat → Int64, sh b off (μ.1 off) f (μ.2.2 off) = .inl (cA 1, n0, .inr (.inl f))) (hin : vp_in i n0) (hd : decode cc pc = .ok (.lastore, 1)) (hS : va_S A H0 H locs) (hA : A (b + off))
    (kk : ∀ (H1 : Heap) (locs1 : List Loc), Rg D sh n b (uP μ off i.toNatClampNeg x) H1 → (∀ q : Nat, q ≠ b + off → H1[q]? = H[q]?) → H1.size = H.size → va_S A H0 H1 locs1 → xW p l e R s m args below meth c nL Q H1 locs1 cells slots (pc + 1) lv st) : xW p l e R s m args below meth c nL Q H locs cells slots pc lv (.long x :: .int i :: .ref (b + off) :: st) :=
  x_last0 C (hw.at off hlt (hs (μ.2.1 off))) hin hd hS hA (fun H1 locs1 h1 h2 h3 h4 => kk H1 locs1 (hw.put h1 (by rw [uP_s]; exact hs _) (fun _ => uP_o) h2) h2 h3 h4)
theorem x_bastR {n0 : Nat} {i : Int32} {x : Int32} (off : Nat) (C : xC D cA s0 own cc nL rt p s m args meth c) (hw : Rg D sh n b μ H) (hlt : off < n) (hs : ∀ f : Nat → Int32, sh b off f (μ.2.1 off) (μ.2.2 off) = .inl (cA 2, n0, .inl f)) (hin : vp_in i n0) (hd : decode cc pc = .ok (.bastore, 1)) (hS : va_S A H0 H locs) (hA : A (b + off))
    (kk : ∀ (H1 : Heap) (locs1 : List Loc), Rg D sh n b (uI μ off i.toNatClampNeg (vp_nar .byte x)) H1 → (∀ q : Nat, q ≠ b + off → H1[q]? = H[q]?) → H1.size = H.size → va_S A H0 H1 locs1 → xW p l e R s m args below meth c nL Q H1 locs1 cells slots (pc + 1) lv st) : xW p l e R s m args below meth c nL Q H locs cells slots pc lv (.int x :: .int i :: .ref (b + off) :: st) :=
  x_bast0 C (hw.at off hlt (hs (μ.1 off))) hin hd hS hA (fun H1 locs1 h1 h2 h3 h4 => kk H1 locs1 (hw.put h1 (by rw [uI_s]; exact hs _) (fun _ => uI_o) h2) h2 h3 h4)
theorem x_ialdN {a n0 k : Nat} {f : Nat → Int32} {i : Int32} (C : xC D cA s0 own cc nL rt p s m args meth c) (hq : va_at D xcl (a, .inl (cA 0, n0, .inl f)) H) (hi : i = nI k) (hk : k < n0) (h31 : n0 < 2 ^ 31) (hd : decode cc pc = .ok (.iaload, 1)) (kk : xW p l e R s m args below meth c nL Q H locs cells slots (pc + 1) lv (.int (f k) :: st)) : xW p l e R s m args below meth c nL Q H locs cells slots pc lv (.int i :: .ref a :: st) := x_iald C hq (by rw [hi]; exact vp_in_nI hk h31) hd (by rw [hi, nI_clamp (by omega)]; exact kk)
theorem x_baldN {a n0 k : Nat} {f : Nat → Int32} {i : Int32} (C : xC D cA s0 own cc nL rt p s m args meth c) (hq : va_at D xcl (a, .inl (cA 2, n0, .inl f)) H) (hi : i = nI k) (hk : k < n0) (h31 : n0 < 2 ^ 31) (hd : decode cc pc = .ok (.baload, 1)) (kk : xW p l e R s m args below meth c nL Q H locs cells slots (pc + 1) lv (.int (f k) :: st)) : xW p l e R s m args below meth c nL Q H locs cells slots pc lv (.int i :: .ref a :: st) := x_bald C hq (by rw [hi]; exact vp_in_nI hk h31) hd (by rw [hi, nI_clamp (by omega)]; exact kk)
theorem x_laldN {a n0 k : Nat} {f : Nat → Int64} {i : Int32} (C : xC D cA s0 own cc nL rt p s m args meth c) (hq : va_at D xcl (a, .inl (cA 1, n0, .inr (.inl f))) H) (hi : i = nI k) (hk : k < n0) (h31 : n0 < 2 ^ 31) (hd : decode cc pc = .ok (.laload, 1)) (kk : xW p l e R s m args below meth c nL Q H locs cells slots (pc + 1) lv (.long (f k) :: st)) : xW p l e R s m args below meth c nL Q H locs cells slots pc lv (.int i :: .ref a :: st) := x_lald C hq (by rw [hi]; exact vp_in_nI hk h31) hd (by rw [hi, nI_clamp (by omega)]; exact kk)
theorem x_iastN {n0 k : Nat} {i : Int32} {x : Int32} (off : Nat) (C : xC D cA s0 own cc nL rt p s m args meth c) (hw : Rg D sh n b μ H) (hlt : off < n) (hs : ∀ f : Nat → Int32, sh b off f (μ.2.1 off) (μ.2.2 off) = .inl (cA 0, n0, .inl f)) (hi : i = nI k) (hk : k < n0) (h31 : n0 < 2 ^ 31) (hd : decode cc pc = .ok (.iastore, 1)) (hS : va_S A H0 H locs) (hA : A (b + off))
    (kk : ∀ (H1 : Heap) (locs1 : List Loc), Rg D sh n b (uI μ off k x) H1 → (∀ q : Nat, q ≠ b + off → H1[q]? = H[q]?) → H1.size = H.size → va_S A H0 H1 locs1 → xW p l e R s m args below meth c nL Q H1 locs1 cells slots (pc + 1) lv st) : xW p l e R s m args below meth c nL Q H locs cells slots pc lv (.int x :: .int i :: .ref (b + off) :: st) :=
  x_iastR off C hw hlt hs (by rw [hi]; exact vp_in_nI hk h31) hd hS hA (fun H1 locs1 h1 h2 h3 h4 => kk H1 locs1 (by rw [hi, nI_clamp (by omega)] at h1; exact h1) h2 h3 h4)
theorem x_lastN {n0 k : Nat} {i : Int32} {x : Int64} (off : Nat) (C : xC D cA s0 own cc nL rt p s m args meth c) (hw : Rg D sh n b μ H) (hlt : off < n) (hs : ∀ f : Nat → Int64, sh b off (μ.1 off) f (μ.2.2 off) = .inl (cA 1, n0, .inr (.inl f))) (hi : i = nI k) (hk : k < n0) (h31 : n0 < 2 ^ 31) (hd : decode cc pc = .ok (.lastore, 1)) (hS : va_S A H0 H locs) (hA : A (b + off))
    (kk : ∀ (H1 : Heap) (locs1 : List Loc), Rg D sh n b (uP μ off k x) H1 → (∀ q : Nat, q ≠ b + off → H1[q]? = H[q]?) → H1.size = H.size → va_S A H0 H1 locs1 → xW p l e R s m args below meth c nL Q H1 locs1 cells slots (pc + 1) lv st) : xW p l e R s m args below meth c nL Q H locs cells slots pc lv (.long x :: .int i :: .ref (b + off) :: st) :=
  x_lastR off C hw hlt hs (by rw [hi]; exact vp_in_nI hk h31) hd hS hA (fun H1 locs1 h1 h2 h3 h4 => kk H1 locs1 (by rw [hi, nI_clamp (by omega)] at h1; exact h1) h2 h3 h4)
theorem x_bastN {n0 k : Nat} {i : Int32} {x : Int32} (off : Nat) (C : xC D cA s0 own cc nL rt p s m args meth c) (hw : Rg D sh n b μ H) (hlt : off < n) (hs : ∀ f : Nat → Int32, sh b off f (μ.2.1 off) (μ.2.2 off) = .inl (cA 2, n0, .inl f)) (hi : i = nI k) (hk : k < n0) (h31 : n0 < 2 ^ 31) (hd : decode cc pc = .ok (.bastore, 1)) (hS : va_S A H0 H locs) (hA : A (b + off))
    (kk : ∀ (H1 : Heap) (locs1 : List Loc), Rg D sh n b (uI μ off k (vp_nar .byte x)) H1 → (∀ q : Nat, q ≠ b + off → H1[q]? = H[q]?) → H1.size = H.size → va_S A H0 H1 locs1 → xW p l e R s m args below meth c nL Q H1 locs1 cells slots (pc + 1) lv st) : xW p l e R s m args below meth c nL Q H locs cells slots pc lv (.int x :: .int i :: .ref (b + off) :: st) :=
  x_bastR off C hw hlt hs (by rw [hi]; exact vp_in_nI hk h31) hd hS hA (fun H1 locs1 h1 h2 h3 h4 => kk H1 locs1 (by rw [hi, nI_clamp (by omega)] at h1; exact h1) h2 h3 h4)
end XMEM
/-! the model's memory: 0 the object, 1 net, 2 draft, 3 paid, 4 input, 5 past, 6 pastPaid, 7 output -/
def shM (cA : Nat → ClassId) : Sh := fun b off f p n => match off with
  | 0 => .inr (12, [.int (f 0), .ref (b + 1), .ref (b + 2), .ref (b + n 3), .ref (b + 3), .ref (b + 4), .int (f 6), .int (f 7), .int (f 8), .int (f 9), .int (f 10), .int (f 11), .int (f 12), .int (f 13), .int (f 14), .int (f 15), .int (f 16), .ref (b + 5), .ref (b + 6), .int (f 19), .ref (b + 7), .int (f 21)])
  | 1 => .inl (cA 0, 1377, .inl f)
  | 2 => .inl (cA 0, 1377, .inl f)
  | 3 => .inl (cA 1, 8, .inr (.inl p))
  | 4 => .inl (cA 2, 800, .inl f)
  | 5 => .inl (cA 0, 8262, .inl f)
  | 6 => .inl (cA 1, 48, .inr (.inl p))
  | _ => .inl (cA 2, 3000, .inl f)
abbrev RM (D : va_G) (cA : Nat → ClassId) (b : Nat) (μ : Mm) (H : Heap) : Prop := Rg D (shM cA) 8 b μ H
theorem M_obj {D : va_G} {cA : Nat → ClassId} {b : Nat} {μ : Mm} {H : Heap} (h : RM D cA b μ H) : va_at D xcl (b, .inr (12, [.int (μ.1 0 0), .ref (b + 1), .ref (b + 2), .ref (b + μ.2.2 0 3), .ref (b + 3), .ref (b + 4), .int (μ.1 0 6), .int (μ.1 0 7), .int (μ.1 0 8), .int (μ.1 0 9), .int (μ.1 0 10), .int (μ.1 0 11), .int (μ.1 0 12), .int (μ.1 0 13), .int (μ.1 0 14), .int (μ.1 0 15), .int (μ.1 0 16), .ref (b + 5), .ref (b + 6), .int (μ.1 0 19), .ref (b + 7), .int (μ.1 0 21)])) H := h 0 (by decide)
theorem M_a1 {D : va_G} {cA : Nat → ClassId} {b : Nat} {μ : Mm} {H : Heap} (h : RM D cA b μ H) : va_at D xcl (b + 1, .inl (cA 0, 1377, .inl (μ.1 1))) H := h 1 (by decide)
theorem M_a2 {D : va_G} {cA : Nat → ClassId} {b : Nat} {μ : Mm} {H : Heap} (h : RM D cA b μ H) : va_at D xcl (b + 2, .inl (cA 0, 1377, .inl (μ.1 2))) H := h 2 (by decide)
theorem M_a3 {D : va_G} {cA : Nat → ClassId} {b : Nat} {μ : Mm} {H : Heap} (h : RM D cA b μ H) : va_at D xcl (b + 3, .inl (cA 1, 8, .inr (.inl (μ.2.1 3)))) H := h 3 (by decide)
theorem M_a4 {D : va_G} {cA : Nat → ClassId} {b : Nat} {μ : Mm} {H : Heap} (h : RM D cA b μ H) : va_at D xcl (b + 4, .inl (cA 2, 800, .inl (μ.1 4))) H := h 4 (by decide)
theorem M_a5 {D : va_G} {cA : Nat → ClassId} {b : Nat} {μ : Mm} {H : Heap} (h : RM D cA b μ H) : va_at D xcl (b + 5, .inl (cA 0, 8262, .inl (μ.1 5))) H := h 5 (by decide)
theorem M_a6 {D : va_G} {cA : Nat → ClassId} {b : Nat} {μ : Mm} {H : Heap} (h : RM D cA b μ H) : va_at D xcl (b + 6, .inl (cA 1, 48, .inr (.inl (μ.2.1 6)))) H := h 6 (by decide)
theorem M_a7 {D : va_G} {cA : Nat → ClassId} {b : Nat} {μ : Mm} {H : Heap} (h : RM D cA b μ H) : va_at D xcl (b + 7, .inl (cA 2, 3000, .inl (μ.1 7))) H := h 7 (by decide)
theorem ixl {x : Int32} (n : Nat) (h : nI n = x) : x = nI n := h.symm
theorem ixa {x y : Int32} {a b : Nat} (h1 : x = nI a) (h2 : y = nI b) : x + y = nI (a + b) := by rw [h1, h2, nI_add]
theorem ixm {x y : Int32} {a b : Nat} (h1 : x = nI a) (h2 : y = nI b) : x * y = nI (a * b) := by rw [h1, h2, pk_mul]
theorem ixs {x y : Int32} {a b : Nat} (h1 : x = nI a) (h2 : y = nI b) (h : b ≤ a) : x - y = nI (a - b) := by rw [h1, h2, pk_sub h]
theorem ixin {x : Int32} {a N : Nat} (h1 : x = nI a) (h : a < N) (hN : N < 2 ^ 31) : vp_in x N := by rw [h1]; exact vp_in_nI h hN
theorem ixc {x : Int32} {a : Nat} (h1 : x = nI a) (h : a < 2 ^ 31) : x.toNatClampNeg = a := by rw [h1]; exact nI_clamp h
abbrev cl (x : Int32) : Nat := x.toNatClampNeg
theorem vpn {x : Int32} {n : Nat} (h : vp_in x n) (hn : n < 2 ^ 31) : x = nI (cl x) ∧ cl x < n := by
  obtain ⟨j, hj, e⟩ := vp_in_of h hn
  subst e
  have h2 : cl (nI j) = j := nI_clamp (by omega)
  rw [h2]
  exact ⟨rfl, hj⟩
theorem natS {x : Int32} {k : Nat} (h : x = nI k) (hk : k < 2 ^ 31) : x = nI (cl x) ∧ cl x = k := by
  subst h
  have h2 : cl (nI k) = k := nI_clamp hk
  rw [h2]
  exact ⟨rfl, rfl⟩
theorem natTI {x : Int32} {k : Nat} (h : x = nI k) (hk : k < 2 ^ 31) : x.toInt = k := by rw [h]; exact nI_toInt hk
theorem nltI {x y : Int32} {a b : Nat} (h1 : x = nI a) (h2 : y = nI b) (ha : a < 2 ^ 31) (hb : b < 2 ^ 31) : x < y ↔ a < b := by rw [h1, h2]; exact nI_ltI ha hb
theorem nleI {x y : Int32} {a b : Nat} (h1 : x = nI a) (h2 : y = nI b) (ha : a < 2 ^ 31) (hb : b < 2 ^ 31) : x ≤ y ↔ a ≤ b := by rw [h1, h2]; exact nI_leI ha hb
theorem neqI {x y : Int32} {a b : Nat} (h1 : x = nI a) (h2 : y = nI b) (ha : a < 2 ^ 31) (hb : b < 2 ^ 31) : x = y ↔ a = b := by rw [h1, h2]; exact nI_eq ha hb
theorem fa_eqI (a b : Int32) : a = b ↔ a.toInt = b.toInt := ⟨fun h => by rw [h], fun h => Int32.toInt_inj.mp h⟩
theorem dnS {x : Int32} {k : Nat} (h : x + 1 = nI k) (hk : k < 2 ^ 31) (h0 : 0 ≤ x) : x = nI (k - 1) ∧ 1 ≤ k := by
  have e : x = nI k + (-1) := by rw [← h, Int32.add_assoc]; simp
  cases k with
  | zero =>
    rw [e] at h0
    exact absurd h0 (by decide)
  | succ j =>
    rw [e, pk_m1]
    exact ⟨rfl, by omega⟩
theorem dnP {x : Int32} {a : Nat} (h : x = nI a) (ha : a < 2 ^ 31) : (x + (-1 : Int32)) + 1 = nI (cl ((x + (-1 : Int32)) + 1)) ∧ cl ((x + (-1 : Int32)) + 1) = a := by
  have e : (x + (-1 : Int32)) + 1 = x := by rw [Int32.add_assoc]; simp
  rw [e]
  exact natS h ha
theorem dnI {x : Int32} {a : Nat} (h : x = nI a) (ha : a < 2 ^ 31) : (x - 1) + 1 = nI (cl ((x - 1) + 1)) ∧ cl ((x - 1) + 1) = a := by
  have e : (x - 1) + 1 = x := Int32.sub_add_cancel x 1
  rw [e]
  exact natS h ha
/-- a row like net: its counts are in range, what it names is there -/
def OkR (f : Nat → Int32) : Prop := vp_in (f 0) 9 ∧ vp_in (f 1) 42 ∧ vp_in (f 2) 61 ∧ vp_in (f 3) 41 ∧ vp_in (f 4) 21 ∧ vp_in (f 6) 7 ∧ vp_in (f 7) 5 ∧ (∀ c, c < 41 → vp_in (f (330 + 7 * c)) 8 ∧ vp_in (f (330 + 7 * c + 2) - f (330 + 7 * c + 1) + 1) 31) ∧ (∀ i, i < 60 → vp_in (f (617 + 10 * i)) 41 ∧ vp_in (f (617 + 10 * i + 2)) 21) ∧ ∀ v, v < 21 → vp_in (f (22 + 12 * v + 10)) 31
theorem OkR_0 {f : Nat → Int32} (h : OkR f) : vp_in (f 0) 9 := h.1
theorem OkR_1 {f : Nat → Int32} (h : OkR f) : vp_in (f 1) 42 := h.2.1
theorem OkR_2 {f : Nat → Int32} (h : OkR f) : vp_in (f 2) 61 := h.2.2.1
theorem OkR_3 {f : Nat → Int32} (h : OkR f) : vp_in (f 3) 41 := h.2.2.2.1
theorem OkR_4 {f : Nat → Int32} (h : OkR f) : vp_in (f 4) 21 := h.2.2.2.2.1
theorem OkR_6 {f : Nat → Int32} (h : OkR f) : vp_in (f 6) 7 := h.2.2.2.2.2.1
theorem OkR_7 {f : Nat → Int32} (h : OkR f) : vp_in (f 7) 5 := h.2.2.2.2.2.2.1
theorem nb {a b : Nat} (h : Nat.ble a b = true) : a ≤ b := Nat.le_of_ble_eq_true h
theorem nbt {b : Bool} (h : b = false) : ¬ b = true := by rw [h]; decide
theorem e_i {F v : Int32} (h : F = v) : some (Value.int v) = some (.int F) := by rw [h]
theorem e_l {F v : Int64} (h : F = v) : some (Value.long v) = some (.long F) := by rw [h]
theorem e_b {F v : Bool} (h : F = v) : some (Value.int (bI v)) = some (.int (bI F)) := by rw [h]
theorem e_b0 {F : Bool} (h : F = false) : some (Value.int 0) = some (.int (bI F)) := by rw [h]; rfl
theorem e_b1 {F : Bool} (h : F = true) : some (Value.int 1) = some (.int (bI F)) := by rw [h]; rfl
theorem e_r {F v : Nat} (h : F = v) : some (Value.ref v) = some (.ref F) := by rw [h]
