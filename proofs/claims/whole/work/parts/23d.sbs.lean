/-! The JDK own code of StringBuilder.toString. -/
/-- a new String at a, its n bytes behind it -/
def StN (D : va_G) (cA : Nat → ClassId) (a n : Nat) (g : Nat → Int32) (H : Heap) : Prop := va_at D xcl (a, .inr (13, [.ref (a + 1), .int 0, .int 0, .int 0])) H ∧ va_at D xcl (a + 1, .inl (cA 2, n, .inl g)) H ∧ H.size = a + 2
set_option maxRecDepth 20000 in
set_option maxHeartbeats 4000000 in
theorem kJ_strInit2 (l : Launch) (D : va_G) (cA : Nat → ClassId) (s0 : State) (hZ : xSt s0) (a q v n : Nat) (g : Nat → Int32) (hn : n < 16) (hq : q < a) (hv : v < a) (hfit : ∀ i, i < n → fits .byte (.int (g i)) = true) : Met l yJ0_init_db425 (wsG yJ0_init_db425 cJ0_init_db425 5 none) { frames := 3, cells := 1, slots := n, locals := 88 } (xP D cA s0 [.ref a, .ref q, .null] (fun H => SbH D cA s0 q v n g H ∧ va_at D xcl (a, .inr (13, [.null, .int 0, .int 0, .int 0])) H ∧ H.size = a + 1)) (xQm none (StN D cA a n g) (fun x => a ≤ x)) 1 n (fun x => a ≤ x) := by
  refine i_start (own := RJ0) [(0, .ref a), (1, .ref q), (2, .null)] rfl rfl (by decide) (nb rfl) ?_
  intro p e s m args below meth c C hin hw
  obtain ⟨hw, ho, hz⟩ := hw
  have hS : va_S (fun x => a ≤ x) s.heap s.heap [] := va_S.rf
  refine x_aload_n C dJ0_init_db425_0 rfl ?_
  refine x_obj C oi_J0_1 oi_i oi_c (nb rfl) (nb rfl) dJ0_init_db425_1 ?_
  refine x_aload_n C dJ0_init_db425_4 rfl ?_
  refine x_goR (fun ls h => x_runU (As := []) [] h C mu_J0_552 (C.2.2.2.2.2.1 _ se_getValue) (kJ_getValue l D cA s0 q v n g) ⟨rfl, rfl, nb rfl, nb rfl⟩ rfl hw.2.1 rfl hw (nb rfl) ⟨Nat.zero_le _, Nat.zero_le _⟩ dJ0_init_db425_5) ?_
  refine x_astore_n [(3, .ref v), (0, .ref a), (1, .ref q), (2, .null)] C dJ0_init_db425_8 rfl (by decide) rfl ?_
  refine x_aload_n C dJ0_init_db425_9 rfl ?_
  refine x_goR (fun ls h => x_runO (As := []) [] h C mu_J0_549 se_length im_length co_length ii_J4 (kJ_length4 l D cA s0 q v n g) ⟨rfl, rfl, nb rfl, nb rfl⟩ rfl hw.2.1 rfl hw (nb rfl) ⟨Nat.zero_le _, Nat.zero_le _⟩ dJ0_init_db425_10) ?_
  refine x_istore [(4, .int (nI n)), (3, .ref v), (0, .ref a), (1, .ref q), (2, .null)] C dJ0_init_db425_13 (by decide) rfl ?_
  refine x_aload_n C dJ0_init_db425_15 rfl ?_
  refine x_goR (fun ls h => x_runU (As := []) [] h C mu_J0_1047 (C.2.2.2.2.2.1 _ se_isLatin1) (kJ_isLatin1 l D cA s0 hZ q v n g) ⟨rfl, rfl, nb rfl, nb rfl⟩ rfl hw.2.1 rfl hw (nb rfl) ⟨Nat.zero_le _, Nat.zero_le _⟩ dJ0_init_db425_16) ?_
  refine x_if_eq 41 C dJ0_init_db425_19 (by decide) (fun z => absurd z (by decide)) (fun _ => ?_)
  refine x_aload_n C dJ0_init_db425_22 rfl ?_
  refine x_iconst (0 : Int32) C dJ0_init_db425_23 rfl ?_
  refine x_putF C fl_J0_15 ho rfl hin rfl rfl rfl (nb rfl) dJ0_init_db425_24 hS (Nat.le_refl a) (fun H1 locs1 h1 o1 z1 hS => ?_)
  have hv1 := hw.2.2.1.kept (o1 v (by omega))
  refine x_aload_n C dJ0_init_db425_27 rfl ?_
  refine x_aload_n C dJ0_init_db425_28 rfl ?_
  refine x_iconst (0 : Int32) C dJ0_init_db425_29 rfl ?_
  refine x_iload C dJ0_init_db425_30 rfl ?_
  refine x_goM (fun ls h => x_runS (As := [.ref v, .int 0, .int (nI n)]) [.ref a] h C ml_J0_54 (kJ_cpr l D cA s0 v n (a + 1) g hn (by omega) hfit) ⟨rfl, rfl, nb rfl, nb rfl⟩ rfl ⟨z1.trans hz, hv1⟩ (nb rfl) ⟨nb rfl, by show 0 + n ≤ n; omega⟩ dJ0_init_db425_32) hS (fun x h => by have h' : a + 1 ≤ x := h; show a ≤ x; omega) (fun H2 locs2 h2 z2 o2 hS => ?_)
  have h1' := h1.kept (o2 a (by omega) (by show ¬ a + 1 ≤ a; omega))
  refine x_putF C fl_J0_9 h1' rfl hin rfl rfl rfl (nb rfl) dJ0_init_db425_35 hS (Nat.le_refl a) (fun H3 locs3 h3 o3 z3 hS => ?_)
  refine x_goto 97 C dJ0_init_db425_38 (by decide) ?_
  exact x_vretM2 C rfl dJ0_init_db425_97 rfl ⟨h3, h2.1.kept (o3 (a + 1) (by omega)), by rw [z3, h2.2]⟩ hS (nb rfl) (by show 0 + n ≤ n; omega)
set_option maxRecDepth 20000 in
set_option maxHeartbeats 4000000 in
theorem kJ_strInit1 (l : Launch) (D : va_G) (cA : Nat → ClassId) (s0 : State) (hZ : xSt s0) (a q v n : Nat) (g : Nat → Int32) (hn : n < 16) (hq : q < a) (hv : v < a) (hfit : ∀ i, i < n → fits .byte (.int (g i)) = true) : Met l yJ0_init_81219 (wsG yJ0_init_81219 cJ0_init_81219 2 none) { frames := 4, cells := 1, slots := n, locals := 112 } (xP D cA s0 [.ref a, .ref q] (fun H => SbH D cA s0 q v n g H ∧ va_at D xcl (a, .inr (13, [.null, .int 0, .int 0, .int 0])) H ∧ H.size = a + 1)) (xQm none (StN D cA a n g) (fun x => a ≤ x)) 1 n (fun x => a ≤ x) := by
  refine i_start (own := RJ0) [(0, .ref a), (1, .ref q)] rfl rfl (by decide) (nb rfl) ?_
  intro p e s m args below meth c C hin hw
  have hS : va_S (fun x => a ≤ x) s.heap s.heap [] := va_S.rf
  refine x_aload_n C dJ0_init_81219_0 rfl ?_
  refine x_aload_n C dJ0_init_81219_1 rfl ?_
  refine x_null C dJ0_init_81219_2 ?_
  refine x_goM (fun ls h => x_runI (As := [.ref q, .null]) [] h C mi_J0_489 (kJ_strInit2 l D cA s0 hZ a q v n g hn hq hv hfit) ⟨rfl, rfl, nb rfl, nb rfl⟩ rfl hw (nb rfl) ⟨nb rfl, by show 0 + n ≤ n; omega⟩ dJ0_init_81219_3) hS (fun _ h => h) (fun H1 locs1 h1 h2 h3 hS => ?_)
  exact x_vretM2 C rfl dJ0_init_81219_6 rfl h1 hS (nb rfl) (by show 0 + n ≤ n; omega)
set_option maxRecDepth 20000 in
set_option maxHeartbeats 4000000 in
theorem kJ_toString (l : Launch) (D : va_G) (cA : Nat → ClassId) (s0 : State) (hZ : xSt s0) (sz q v n : Nat) (g : Nat → Int32) (hn : n < 16) (hq : q < sz) (hv : v < sz) (hfit : ∀ i, i < n → fits .byte (.int (g i)) = true) : Met l yJ4_toString_0e30d (wsG yJ4_toString_0e30d cJ4_toString_0e30d 1 (some (.object "java/lang/String"))) { frames := 5, cells := 2, slots := 4 + n, locals := 133 } (xP D cA s0 [.ref q] (fun H => SbH D cA s0 q v n g H ∧ H.size = sz)) (xQm (some (.ref sz)) (StN D cA sz n g) (fun x => sz ≤ x)) 2 (4 + n) (fun x => sz ≤ x) := by
  refine x_start (own := RJ4) [(0, .ref q)] rfl rfl (by decide) (nb rfl) ?_
  intro p e s m args below meth c C hw
  obtain ⟨hw, hz⟩ := hw
  have hS : va_S (fun x => sz ≤ x) s.heap s.heap [] := va_S.rf
  refine x_new (fs := [.null, .int 0, .int 0, .int 0]) C cf_J0 kl_J4_18 in_J0 ii_J0 (fun j hj => ?_) (nb rfl) (by show 0 + 4 ≤ 4 + n; omega) dJ4_toString_0e30d_0 (fun H1 h1 z1 o1 => ?_)
  · match j, hj with
    | 0, _ => rfl
    | 1, _ => rfl
    | 2, _ => rfl
    | 3, _ => rfl
    | j + 4, h => exact absurd h (by omega)
  have hS := sb_grow hS z1 o1
  rw [hz] at h1 z1 ⊢
  obtain ⟨hx, hqa, hva, hne, hbq, hbv⟩ := hw
  have hw1 : SbH D cA s0 q v n g H1 := ⟨sb_ext hx (by omega) (fun r hr => o1 r (by omega)), hqa.kept (o1 q (by omega)), hva.kept (o1 v (by omega)), hne, hbq, hbv⟩
  refine x_dup C dJ4_toString_0e30d_3 rfl ?_
  refine x_aload_n C dJ4_toString_0e30d_4 rfl ?_
  refine x_goM (fun ls h => x_runI (As := [.ref q]) [.ref sz] h C mi_J4_137 (kJ_strInit1 l D cA s0 hZ sz q v n g hn hq hv hfit) ⟨rfl, rfl, nb rfl, nb rfl⟩ rfl ⟨hw1, h1, z1⟩ (nb rfl) ⟨nb rfl, by show 0 + 4 + n ≤ 4 + n; omega⟩ dJ4_toString_0e30d_5) hS (fun _ h => h) (fun H2 locs2 h2 z2 o2 hS => ?_)
  exact x_aretM2 C rfl dJ4_toString_0e30d_8 (Or.inl ⟨_, rfl⟩) rfl h2 hS (nb rfl) (by show 0 + 4 + n ≤ 4 + n; omega)
theorem str_of {p : Program} {s : State} {m : MethodId} {args : Array Value} {meth : Method} {c : Code} {nL : Nat} {D : va_G} {cA : Nat → ClassId} {s0 : State} {own : String} {cc : ByteArray} {rt : Option FieldType} {a n k : Nat} {g : Nat → Int32} {H : Heap} (C : xC D cA s0 own cc nL rt p s m args meth c) (h : StN D cA a n g H) (hk : slen k = n) (hg : ∀ j, j < n → schar k j = g j) : StrAt s0 a (a + 1) k H := by
  obtain ⟨h1, h2, -⟩ := h
  have hts := C.2.2.2.2.2.1
  have hK := C.2.2.2.2.2.2.2.1
  have hA : s.vm.Alike s0.vm := C.2.2.2.2.2.2.2.2.2.alike.symm
  have hK0 : va_K D xcl (xty cA) s0 := va_K.moved hA hK
  obtain ⟨r, e1, cell, q1, q2, q3, q4⟩ := h1
  have hr : r = (RJ0, TJ0, 4) := Option.some.inj (e1.symm.trans rfl)
  subst hr
  obtain ⟨-, hfc0, -⟩ := hK0.1 13 _ rfl
  obtain ⟨hS, hfc, kC, hkC, hkind⟩ := hK.1 13 _ rfl
  have OF : ∀ (i : Nat) (hi : i < 4), va_OF (TJ0 i).1 (TJ0 i).2.1 (TJ0 i).2.2.1 (vp_V [.ref (a + 1), .int 0, .int 0, .int 0] i) a xF s0 H := fun i hi => by
    obtain ⟨cf, kf, fi, f, hf, hsl⟩ := hS i hi
    refine va_OF.moved hA ⟨cf, kf, fi, f, cell, hf, (u_facts hfc hkC (u_lays hts cf_J0.2.1 hi) hf).1, q1, ?_, ?_, fun h => h⟩
    · rw [q3]
      exact (fun h => (by cases h))
    · rw [hsl]
      exact q4 i hi
  have hfc0' : s0.vm.findClass "java/lang/String" = some (D.1 13) := hfc0
  refine ⟨⟨cell, q1, by rw [q3]; rfl, by rw [hfc0', q2], fun h => h⟩, OF 1 (by decide), OF 0 (by decide), ?_⟩
  have h2' : H[a + 1]? = some (vp_cell (cA 2) (n, .inl g)) := h2
  rw [vp_cell_i] at h2'
  refine ⟨_, h2', (hK0.2 2 _ rfl).1 n (fun j => .int (g j)), ?_, ?_, ?_, fun j hj => ?_, fun h => h⟩
  · exact (fun h => (by cases h))
  · rw [arrV_size, hk]
    exact Nat.le_refl n
  · rw [arrV_size, hk]
  · rw [arrV_read _ _ (by omega)]
    exact congrArg (fun z => some (Value.int z)) (hg j (by omega)).symm
