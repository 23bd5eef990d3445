/-! The constructors' contracts. -/
theorem va_S.grow {A : Nat → Prop} {H0 H H1 : Heap} {locs : List Loc} (hS : va_S A H0 H locs) (hz : H1.size = H.size + 1) (ho : ∀ q : Nat, q < H.size → H1[q]? = H[q]?) : va_S A H0 H1 locs :=
  ⟨Nat.le_trans hS.1 (by omega), fun q h1 h2 => (ho q (Nat.lt_of_lt_of_le h1 hS.1)).trans (hS.2.1 q h1 h2), hS.2.2⟩
theorem Lay.at {D : va_G} {E : Nat → va_E} {a n : Nat} {H : Heap} (h : Lay D E a n H) (o : Nat) (ho : o < n) {e : va_E} (he : E o = e) : va_at D xcl (a + o, e) H := he ▸ h.2 o ho
theorem Lay.zero {D : va_G} {E : Nat → va_E} {a n : Nat} {H : Heap} (h : Lay D E a n H) (ho : 0 < n) {e : va_E} (he : E 0 = e) : va_at D xcl (a, e) H := by
  have := h.at 0 ho he
  exact this
theorem Lay.one {D : va_G} {a : Nat} {H : Heap} {e : va_E} (h : va_at D xcl (a, e) H) (hz : H.size = a + 1) : Lay D (fun _ => e) a 1 H := ⟨hz, fun o ho => by
  have : o = 0 := by omega
  subst this
  exact h⟩
theorem Lay.congr {D : va_G} {E E' : Nat → va_E} {a n : Nat} {H : Heap} (h : Lay D E a n H) (he : ∀ o, o < n → E o = E' o) : Lay D E' a n H := ⟨h.1, fun o ho => he o ho ▸ h.2 o ho⟩
theorem Lay.set {D : va_G} {E : Nat → va_E} {a n : Nat} {H H1 : Heap} (h : Lay D E a n H) (o : Nat) {e : va_E} (h1 : va_at D xcl (a + o, e) H1) (h2 : ∀ q : Nat, q ≠ a + o → H1[q]? = H[q]?) (h3 : H1.size = H.size) : Lay D (fun o' => if o' = o then e else E o') a n H1 :=
  ⟨h3.trans h.1, fun o' ho' => by
    show va_at D xcl (a + o', if o' = o then e else E o') H1
    by_cases q : o' = o
    · rw [if_pos q, q]; exact h1
    · rw [if_neg q]; exact (h.2 o' ho').kept (h2 _ (by show a + o' ≠ a + o; omega))⟩
theorem Lay.push {D : va_G} {E : Nat → va_E} {a n : Nat} {H H1 : Heap} (h : Lay D E a n H) {e : va_E} (h1 : va_at D xcl (H.size, e) H1) (h3 : H1.size = H.size + 1) (h2 : ∀ q : Nat, q < H.size → H1[q]? = H[q]?) : Lay D (fun o' => if o' = n then e else E o') a (n + 1) H1 :=
  ⟨by rw [h3, h.1]; rfl, fun o' ho' => by
    show va_at D xcl (a + o', if o' = n then e else E o') H1
    by_cases q : o' = n
    · rw [if_pos q, q, ← h.1]; exact h1
    · rw [if_neg q]; exact (h.2 o' (by omega)).kept (h2 _ (by show a + o' < H.size; have := h.1; omega))⟩
theorem Lay.app {D : va_G} {E E' : Nat → va_E} {a n k : Nat} {H H1 : Heap} (h : Lay D E a n H) (h1 : Lay D E' (a + n) k H1) (h2 : ∀ q : Nat, q < a + n → H1[q]? = H[q]?) : Lay D (fun o' => if o' < n then E o' else E' (o' - n)) a (n + k) H1 :=
  ⟨by rw [h1.1]; omega, fun o' ho' => by
    show va_at D xcl (a + o', if o' < n then E o' else E' (o' - n)) H1
    by_cases q : o' < n
    · rw [if_pos q]; exact (h.2 o' q).kept (h2 _ (by show a + o' < a + n; omega))
    · rw [if_neg q]
      have := h1.2 (o' - n) (by omega)
      rw [show a + n + (o' - n) = a + o' by omega] at this
      exact this⟩
theorem x_ldcV {p : Program} {l : Launch} {e : Env} {R : Room} {s : State} {m : MethodId} {args : Array Value} {below : List Frame} {meth : Method} {c : Code} {nL : Nat} {Q : State → Prop} {H : Heap} {locs : List Loc} {cells slots : Nat} {pc : Nat} {lv : List (Nat × Value)} {st : List Value} {D : va_G} {cA : Nat → ClassId} {s0 : State} {own : String} {cc : ByteArray} {rt : Option FieldType} {ix nr : Nat} {tx : String} (C : xC D cA s0 own cc nL rt p s m args meth c) (hr : vk_R own ix tx nr s0) (hd : decode cc pc = .ok (.ldc ix, 2)) (kk : xW p l e R s m args below meth c nL Q H locs cells slots (pc + 2) lv (.ref nr :: st)) : xW p l e R s m args below meth c nL Q H locs cells slots pc lv st := fun ls hl => va_ldcS C.1 C.2.1 C.2.2.2.2.1 (vk_R.warm C.2.2.2.2.2.2.2.2.2 hr) hd (kk ls hl)
theorem F_below {a : Nat} {st t : State} (h : va_F (xA0 a) st t) (hz : a ≤ st.heap.size) : ∀ q : Nat, q < a → t.heap[q]? = st.heap[q]? := fun q hq => h.2 q (by omega) (by unfold xA0; omega)
/-- partly filled rows of objects -/
def pf (a b s c : Nat) : Nat → Option Nat := fun i => if i < c then some (a + (b + s * i)) else none
theorem pf_0 {a b s : Nat} : pf a b s 0 = fun _ => none := rfl
theorem pf_up {a b s c v : Nat} (h : v = a + (b + s * c)) : va_up (pf a b s c) c (some v) = pf a b s (c + 1) := by
  funext i
  unfold va_up pf
  by_cases q : i = c
  · rw [if_pos q, if_pos (by omega), q, h]
  · rw [if_neg q]
    by_cases r : i < c
    · rw [if_pos r, if_pos (by omega)]
    · rw [if_neg r, if_neg (by omega)]
theorem df_0 : ∀ j, j < 1 → defaultValue (tyX0 j) = vp_V [.null] j
  | 0, _ => rfl
  | j + 1, h => absurd h (by omega)
theorem df_1 : ∀ j, j < 3 → defaultValue (tyX1 j) = vp_V [.null, .null, .int 0] j
  | 0, _ => rfl
  | 1, _ => rfl
  | 2, _ => rfl
  | j + 3, h => absurd h (by omega)
theorem df_2 : ∀ j, j < 7 → defaultValue (tyX2 j) = vp_V [.int 0, .int 0, .int 0, .int 0, .int 0, .int 0, .int 0] j
  | 0, _ => rfl
  | 1, _ => rfl
  | 2, _ => rfl
  | 3, _ => rfl
  | 4, _ => rfl
  | 5, _ => rfl
  | 6, _ => rfl
  | j + 7, h => absurd h (by omega)
theorem df_3 : ∀ j, j < 3 → defaultValue (tyX3 j) = vp_V [.null, .int 0, .int 0] j
  | 0, _ => rfl
  | 1, _ => rfl
  | 2, _ => rfl
  | j + 3, h => absurd h (by omega)
theorem df_4 : ∀ j, j < 7 → defaultValue (tyX4 j) = vp_V [.null, .int 0, .int 0, .int 0, .int 0, .int 0, .int 0] j
  | 0, _ => rfl
  | 1, _ => rfl
  | 2, _ => rfl
  | 3, _ => rfl
  | 4, _ => rfl
  | 5, _ => rfl
  | 6, _ => rfl
  | j + 7, h => absurd h (by omega)
theorem df_5 : ∀ j, j < 11 → defaultValue (tyX5 j) = vp_V [.null, .null, .null, .null, .null, .int 0, .int 0, .int 0, .int 0, .int 0, .int 0] j
  | 0, _ => rfl
  | 1, _ => rfl
  | 2, _ => rfl
  | 3, _ => rfl
  | 4, _ => rfl
  | 5, _ => rfl
  | 6, _ => rfl
  | 7, _ => rfl
  | 8, _ => rfl
  | 9, _ => rfl
  | 10, _ => rfl
  | j + 11, h => absurd h (by omega)
theorem df_6 : ∀ j, j < 4 → defaultValue (tyX6 j) = vp_V [.int 0, .int 0, .int 0, .int 0] j
  | 0, _ => rfl
  | 1, _ => rfl
  | 2, _ => rfl
  | 3, _ => rfl
  | j + 4, h => absurd h (by omega)
theorem df_7 : ∀ j, j < 11 → defaultValue (tyX7 j) = vp_V [.null, .null, .int 0, .int 0, .int 0, .int 0, .int 0, .int 0, .int 0, .int 0, .int 0] j
  | 0, _ => rfl
  | 1, _ => rfl
  | 2, _ => rfl
  | 3, _ => rfl
  | 4, _ => rfl
  | 5, _ => rfl
  | 6, _ => rfl
  | 7, _ => rfl
  | 8, _ => rfl
  | 9, _ => rfl
  | 10, _ => rfl
  | j + 11, h => absurd h (by omega)
theorem df_8 : ∀ j, j < 3 → defaultValue (tyX8 j) = vp_V [.null, .null, .null] j
  | 0, _ => rfl
  | 1, _ => rfl
  | 2, _ => rfl
  | j + 3, h => absurd h (by omega)
theorem df_9 : ∀ j, j < 4 → defaultValue (tyX9 j) = vp_V [.null, .int 0, .int 0, .long 0] j
  | 0, _ => rfl
  | 1, _ => rfl
  | 2, _ => rfl
  | 3, _ => rfl
  | j + 4, h => absurd h (by omega)
theorem df_10 : ∀ j, j < 12 → defaultValue (tyX10 j) = vp_V [.null, .null, .null, .null, .int 0, .int 0, .int 0, .int 0, .int 0, .int 0, .int 0, .int 0] j
  | 0, _ => rfl
  | 1, _ => rfl
  | 2, _ => rfl
  | 3, _ => rfl
  | 4, _ => rfl
  | 5, _ => rfl
  | 6, _ => rfl
  | 7, _ => rfl
  | 8, _ => rfl
  | 9, _ => rfl
  | 10, _ => rfl
  | 11, _ => rfl
  | j + 12, h => absurd h (by omega)
theorem df_11 : ∀ j, j < 8 → defaultValue (tyX11 j) = vp_V [.null, .null, .null, .null, .null, .null, .null, .null] j
  | 0, _ => rfl
  | 1, _ => rfl
  | 2, _ => rfl
  | 3, _ => rfl
  | 4, _ => rfl
  | 5, _ => rfl
  | 6, _ => rfl
  | 7, _ => rfl
  | j + 8, h => absurd h (by omega)
theorem df_12 : ∀ j, j < 22 → defaultValue (tyX12 j) = vp_V [.int 0, .null, .null, .null, .null, .null, .int 0, .int 0, .int 0, .int 0, .int 0, .int 0, .int 0, .int 0, .int 0, .int 0, .int 0, .null, .null, .int 0, .null, .int 0] j
  | 0, _ => rfl
  | 1, _ => rfl
  | 2, _ => rfl
  | 3, _ => rfl
  | 4, _ => rfl
  | 5, _ => rfl
  | 6, _ => rfl
  | 7, _ => rfl
  | 8, _ => rfl
  | 9, _ => rfl
  | 10, _ => rfl
  | 11, _ => rfl
  | 12, _ => rfl
  | 13, _ => rfl
  | 14, _ => rfl
  | 15, _ => rfl
  | 16, _ => rfl
  | 17, _ => rfl
  | 18, _ => rfl
  | 19, _ => rfl
  | 20, _ => rfl
  | 21, _ => rfl
  | j + 22, h => absurd h (by omega)
set_option maxRecDepth 20000 in
set_option maxHeartbeats 4000000 in
theorem k_X2_init (l : Launch) (D : va_G) (cA : Nat → ClassId) (s0 : State) (a : Nat) : Met l yX2_init (wsG yX2_init cX2_init 1 none) { frames := 1, cells := 0, slots := 0, locals := 12 } (xP D cA s0 [.ref a] (fun H => Lay D (fun _ => (.inr (2, [.int 0, .int 0, .int 0, .int 0, .int 0, .int 0, .int 0]))) a 1 H)) (xQm none (fun H => Lay D (fun _ => (.inr (2, [.int 0, .int 0, .int 0, .int 0, .int 0, .int 0, .int 0]))) a 1 H) (xA0 a)) 0 0 (xA0 a) := by
  refine i_start (own := RX2) [(0, .ref a)] rfl rfl (by decide) (nb rfl) ?_
  intro p e s m args below meth c C hin hw
  refine x_aload_n C dX2_init_0 rfl ?_
  refine x_obj C oi_X2_3 oi_i oi_c (nb rfl) (nb rfl) dX2_init_1 ?_
  exact x_vretM C rfl dX2_init_4 rfl hw va_S.rf
set_option maxRecDepth 20000 in
set_option maxHeartbeats 4000000 in
theorem k_X6_init (l : Launch) (D : va_G) (cA : Nat → ClassId) (s0 : State) (a : Nat) : Met l yX6_init (wsG yX6_init cX6_init 1 none) { frames := 1, cells := 0, slots := 0, locals := 12 } (xP D cA s0 [.ref a] (fun H => Lay D (fun _ => (.inr (6, [.int 0, .int 0, .int 0, .int 0]))) a 1 H)) (xQm none (fun H => Lay D (fun _ => (.inr (6, [.int 0, .int 0, .int 0, .int 0]))) a 1 H) (xA0 a)) 0 0 (xA0 a) := by
  refine i_start (own := RX6) [(0, .ref a)] rfl rfl (by decide) (nb rfl) ?_
  intro p e s m args below meth c C hin hw
  refine x_aload_n C dX6_init_0 rfl ?_
  refine x_obj C oi_X6_1 oi_i oi_c (nb rfl) (nb rfl) dX6_init_1 ?_
  exact x_vretM C rfl dX6_init_4 rfl hw va_S.rf
set_option maxRecDepth 20000 in
set_option maxHeartbeats 4000000 in
theorem k_X9_init (l : Launch) (D : va_G) (cA : Nat → ClassId) (s0 : State) (a : Nat) : Met l yX9_init (wsG yX9_init cX9_init 1 none) { frames := 1, cells := 1, slots := 6, locals := 13 } (xP D cA s0 [.ref a] (fun H => Lay D (fun _ => (.inr (9, [.null, .int 0, .int 0, .long 0]))) a 1 H)) (xQm none (fun H => Lay D (fun o => if o = 0 then .inr (9, [.ref (a + 1), .int 0, .int 0, .long 0]) else .inl (cA 2, 6, .inl (fun _ => 0))) a 2 H) (xA0 a)) 1 6 (xA0 a) := by
  refine i_start (own := RX9) [(0, .ref a)] rfl rfl (by decide) (nb rfl) ?_
  intro p e s m args below meth c C hin hw
  refine x_aload_n C dX9_init_0 rfl ?_
  refine x_obj C oi_X9_3 oi_i oi_c (nb rfl) (nb rfl) dX9_init_1 ?_
  refine x_aload_n C dX9_init_4 rfl ?_
  refine x_bipush (6 : Int32) C dX9_init_5 rfl ?_
  refine x_newaB (N := 6) C ar_byte rfl (by decide) (nb rfl) (nb rfl) dX9_init_7 (fun H1 h1 hz ho => ?_)
  have hL := hw.push h1 hz ho
  have hS : va_S (xA0 a) s.heap H1 [] := va_S.rf.grow hz ho
  rw [show s.heap.size = a + 1 from hw.1]
  refine x_putF C fl_X9_9 (hL.zero (by decide) rfl) rfl hin rfl rfl rfl (nb rfl) dX9_init_9 hS (Nat.le_refl _) (fun H2 locs2 h2 ho2 hz2 hS => ?_)
  have hL := hL.set 0 h2 ho2 hz2
  refine x_vretM2 C rfl dX9_init_12 rfl (hL.congr ?_) hS (nb rfl) (nb rfl)
  intro o ho
  match o, ho with
  | 0, _ => rfl
  | 1, _ => rfl
  | o + 2, h => exact absurd h (by omega)
set_option maxRecDepth 20000 in
set_option maxHeartbeats 4000000 in
theorem k_X4_init (l : Launch) (D : va_G) (cA : Nat → ClassId) (s0 : State) (a : Nat) : Met l yX4_init (wsG yX4_init cX4_init 1 none) { frames := 1, cells := 1, slots := 4, locals := 13 } (xP D cA s0 [.ref a] (fun H => Lay D (fun _ => (.inr (4, [.null, .int 0, .int 0, .int 0, .int 0, .int 0, .int 0]))) a 1 H)) (xQm none (fun H => Lay D (fun o => if o = 0 then .inr (4, [.ref (a + 1), .int 0, .int 0, .int 0, .int 0, .int 0, .int 0]) else .inl (cA 0, 4, .inl (fun _ => 0))) a 2 H) (xA0 a)) 1 4 (xA0 a) := by
  refine i_start (own := RX4) [(0, .ref a)] rfl rfl (by decide) (nb rfl) ?_
  intro p e s m args below meth c C hin hw
  refine x_aload_n C dX4_init_0 rfl ?_
  refine x_obj C oi_X4_3 oi_i oi_c (nb rfl) (nb rfl) dX4_init_1 ?_
  refine x_aload_n C dX4_init_4 rfl ?_
  refine x_iconst (4 : Int32) C dX4_init_5 rfl ?_
  refine x_newaI (N := 4) C ar_int rfl (by decide) (nb rfl) (nb rfl) dX4_init_6 (fun H1 h1 hz ho => ?_)
  have hL := hw.push h1 hz ho
  have hS : va_S (xA0 a) s.heap H1 [] := va_S.rf.grow hz ho
  rw [show s.heap.size = a + 1 from hw.1]
  refine x_putF C fl_X4_9 (hL.zero (by decide) rfl) rfl hin rfl rfl rfl (nb rfl) dX4_init_8 hS (Nat.le_refl _) (fun H2 locs2 h2 ho2 hz2 hS => ?_)
  have hL := hL.set 0 h2 ho2 hz2
  refine x_vretM2 C rfl dX4_init_11 rfl (hL.congr ?_) hS (nb rfl) (nb rfl)
  intro o ho
  match o, ho with
  | 0, _ => rfl
  | 1, _ => rfl
  | o + 2, h => exact absurd h (by omega)
def TarE (cA : Nat → ClassId) (a o : Nat) : va_E := if o = 0 then .inr (10, [.ref (a + 1), .ref (a + 2), .ref (a + 3), .ref (a + 4), .int 0, .int 0, .int 0, .int 0, .int 0, .int 0, .int 30, .int 0]) else .inl (cA 0, (if o < 3 then 6 else 4), .inl (fun _ => 0))
set_option maxRecDepth 20000 in
set_option maxHeartbeats 4000000 in
theorem k_X10_init (l : Launch) (D : va_G) (cA : Nat → ClassId) (s0 : State) (a : Nat) : Met l yX10_init (wsG yX10_init cX10_init 1 none) { frames := 1, cells := 4, slots := 20, locals := 13 } (xP D cA s0 [.ref a] (fun H => Lay D (fun _ => (.inr (10, [.null, .null, .null, .null, .int 0, .int 0, .int 0, .int 0, .int 0, .int 0, .int 0, .int 0]))) a 1 H)) (xQm none (fun H => Lay D (TarE cA a) a 5 H) (xA0 a)) 4 20 (xA0 a) := by
  refine i_start (own := RX10) [(0, .ref a)] rfl rfl (by decide) (nb rfl) ?_
  intro p e s m args below meth c C hin hw
  refine x_aload_n C dX10_init_0 rfl ?_
  refine x_obj C oi_X10_3 oi_i oi_c (nb rfl) (nb rfl) dX10_init_1 ?_
  have hL := hw
  have hS : va_S (xA0 a) s.heap s.heap [] := va_S.rf
  refine x_aload_n C dX10_init_4 rfl ?_
  refine x_bipush (6 : Int32) C dX10_init_5 rfl ?_
  refine x_newaI (N := 6) C ar_int rfl (by decide) (nb rfl) (nb rfl) dX10_init_7 (fun H1 h1 hz ho => ?_)
  have hS := hS.grow hz ho
  have ea := hL.1
  have hL := hL.push h1 hz ho
  rw [ea]
  refine x_putF C fl_X10_9 (hL.zero (by decide) rfl) rfl hin rfl rfl rfl (nb rfl) dX10_init_9 hS (Nat.le_refl _) (fun H2 locs2 h2 ho2 hz2 hS => ?_)
  have hL := hL.set 0 h2 ho2 hz2
  refine x_aload_n C dX10_init_12 rfl ?_
  refine x_bipush (6 : Int32) C dX10_init_13 rfl ?_
  refine x_newaI (N := 6) C ar_int rfl (by decide) (nb rfl) (nb rfl) dX10_init_15 (fun H1 h1 hz ho => ?_)
  have hS := hS.grow hz ho
  have ea := hL.1
  have hL := hL.push h1 hz ho
  rw [ea]
  refine x_putF C fl_X10_15 (hL.zero (by decide) rfl) rfl hin rfl rfl rfl (nb rfl) dX10_init_17 hS (Nat.le_refl _) (fun H2 locs2 h2 ho2 hz2 hS => ?_)
  have hL := hL.set 0 h2 ho2 hz2
  refine x_aload_n C dX10_init_20 rfl ?_
  refine x_iconst (4 : Int32) C dX10_init_21 rfl ?_
  refine x_newaI (N := 4) C ar_int rfl (by decide) (nb rfl) (nb rfl) dX10_init_22 (fun H1 h1 hz ho => ?_)
  have hS := hS.grow hz ho
  have ea := hL.1
  have hL := hL.push h1 hz ho
  rw [ea]
  refine x_putF C fl_X10_18 (hL.zero (by decide) rfl) rfl hin rfl rfl rfl (nb rfl) dX10_init_24 hS (Nat.le_refl _) (fun H2 locs2 h2 ho2 hz2 hS => ?_)
  have hL := hL.set 0 h2 ho2 hz2
  refine x_aload_n C dX10_init_27 rfl ?_
  refine x_iconst (4 : Int32) C dX10_init_28 rfl ?_
  refine x_newaI (N := 4) C ar_int rfl (by decide) (nb rfl) (nb rfl) dX10_init_29 (fun H1 h1 hz ho => ?_)
  have hS := hS.grow hz ho
  have ea := hL.1
  have hL := hL.push h1 hz ho
  rw [ea]
  refine x_putF C fl_X10_21 (hL.zero (by decide) rfl) rfl hin rfl rfl rfl (nb rfl) dX10_init_31 hS (Nat.le_refl _) (fun H2 locs2 h2 ho2 hz2 hS => ?_)
  have hL := hL.set 0 h2 ho2 hz2
  refine x_aload_n C dX10_init_34 rfl ?_
  refine x_bipush (30 : Int32) C dX10_init_35 rfl ?_
  refine x_put0 C fl_X10_24 (hL.zero (by decide) rfl) rfl rfl rfl (nb rfl) dX10_init_37 hS (Nat.le_refl _) (fun H2 locs2 h2 ho2 hz2 hS => ?_)
  have hL := hL.set 0 h2 ho2 hz2
  refine x_vretM2 C rfl dX10_init_40 rfl (hL.congr ?_) hS (nb rfl) (nb rfl)
  intro o ho
  match o, ho with
  | 0, _ => rfl
  | 1, _ => rfl
  | 2, _ => rfl
  | 3, _ => rfl
  | 4, _ => rfl
  | o + 5, h => exact absurd h (by omega)
def BytE (cA : Nat → ClassId) (a N o : Nat) : va_E := if o = 0 then .inr (1, [.ref (a + 2), .ref (a + 1), .int 0]) else if o = 1 then .inl (cA 2, 19, .inl (fun _ => 0)) else .inl (cA 2, N, .inl (fun _ => 0))
set_option maxRecDepth 20000 in
set_option maxHeartbeats 4000000 in
theorem k_X1_init (l : Launch) (D : va_G) (cA : Nat → ClassId) (s0 : State) (a : Nat) (N : Nat) (hN : N ≤ 2000) : Met l yX1_init (wsG yX1_init cX1_init 2 none) { frames := 1, cells := 2, slots := 19 + N, locals := 40 } (xP D cA s0 [.ref a, .int (nI N)] (fun H => Lay D (fun _ => (.inr (1, [.null, .null, .int 0]))) a 1 H)) (xQm none (fun H => Lay D (BytE cA a N) a 3 H) (xA0 a)) 2 (19 + N) (xA0 a) := by
  refine i_start (own := RX1) [(0, .ref a), (1, .int (nI N))] rfl rfl (by decide) (nb rfl) ?_
  intro p e s m args below meth c C hin hw
  refine x_aload_n C dX1_init_0 rfl ?_
  refine x_obj C oi_X1_1 oi_i oi_c (nb rfl) (nb rfl) dX1_init_1 ?_
  refine x_aload_n C dX1_init_4 rfl ?_
  refine x_bipush (19 : Int32) C dX1_init_5 rfl ?_
  refine x_newaB (N := 19) C ar_byte rfl (by decide) (nb rfl) (by show 0 + 19 ≤ 19 + N; omega) dX1_init_7 (fun H1 h1 hz ho => ?_)
  have hS : va_S (xA0 a) s.heap H1 [] := va_S.rf.grow hz ho
  have ea := hw.1
  have hL := hw.push h1 hz ho
  rw [ea]
  refine x_putF C fl_X1_9 (hL.zero (by decide) rfl) rfl hin rfl rfl rfl (nb rfl) dX1_init_9 hS (Nat.le_refl _) (fun H2 locs2 h2 ho2 hz2 hS => ?_)
  have hL := hL.set 0 h2 ho2 hz2
  refine x_aload_n C dX1_init_12 rfl ?_
  refine x_iload_n C dX1_init_13 rfl ?_
  refine x_iconst (0 : Int32) C dX1_init_14 rfl ?_
  refine x_mmax C ml_X1_13 (nb rfl) (nb rfl) ⟨nb rfl, by show 0 + 19 ≤ 19 + N; omega⟩ dX1_init_15 ?_
  have em : imax (nI N) 0 = nI N := by
    unfold imax
    exact if_neg (nI_pos (by omega))
  refine x_topi (nI N) em ?_
  refine x_newaB (N := N) C ar_byte rfl (by omega) (nb rfl) (by show 0 + 19 + N ≤ 19 + N; omega) dX1_init_18 (fun H1 h1 hz ho => ?_)
  have hS := hS.grow hz ho
  have ea := hL.1
  have hL := hL.push h1 hz ho
  rw [ea]
  refine x_putF C fl_X1_19 (hL.zero (by decide) rfl) rfl hin rfl rfl rfl (nb rfl) dX1_init_20 hS (Nat.le_refl _) (fun H2 locs2 h2 ho2 hz2 hS => ?_)
  have hL := hL.set 0 h2 ho2 hz2
  refine x_vretM2 C rfl dX1_init_23 rfl (hL.congr ?_) hS (nb rfl) (by show 0 + 19 + N ≤ 19 + N; omega)
  intro o ho
  match o, ho with
  | 0, _ => rfl
  | 1, _ => rfl
  | 2, _ => rfl
  | o + 3, h => exact absurd h (by omega)
set_option maxRecDepth 20000 in
set_option maxHeartbeats 4000000 in
theorem k_X0_init (l : Launch) (D : va_G) (cA : Nat → ClassId) (s0 : State) (a : Nat) (r1 : Nat) : Met l yX0_init (wsG yX0_init cX0_init 2 none) { frames := 1, cells := 0, slots := 0, locals := 13 } (xP D cA s0 [.ref a, .ref r1] (fun H => Lay D (fun _ => (.inr (0, [.null]))) a 1 H)) (xQm none (fun H => Lay D (fun _ => .inr (0, [.ref r1])) a 1 H) (xA0 a)) 0 0 (xA0 a) := by
  refine i_start (own := RX0) [(0, .ref a), (1, .ref r1)] rfl rfl (by decide) (nb rfl) ?_
  intro p e s m args below meth c C hin hw
  refine x_aload_n C dX0_init_0 rfl ?_
  refine x_obj C oi_X0_3 oi_i oi_c (nb rfl) (nb rfl) dX0_init_1 ?_
  have hL := hw
  have hS : va_S (xA0 a) s.heap s.heap [] := va_S.rf
  refine x_aload_n C dX0_init_4 rfl ?_
  refine x_aload_n C dX0_init_5 rfl ?_
  refine x_putF C fl_X0_9 (hL.zero (by decide) rfl) rfl hin rfl rfl rfl (nb rfl) dX0_init_6 hS (Nat.le_refl _) (fun H2 locs2 h2 ho2 hz2 hS => ?_)
  have hL := hL.set 0 h2 ho2 hz2
  refine x_vretM2 C rfl dX0_init_9 rfl (hL.congr ?_) hS (nb rfl) (nb rfl)
  intro o ho
  match o, ho with
  | 0, _ => rfl
  | o + 1, h => exact absurd h (by omega)
set_option maxRecDepth 20000 in
set_option maxHeartbeats 4000000 in
theorem k_X8_init (l : Launch) (D : va_G) (cA : Nat → ClassId) (s0 : State) (a : Nat) (r1 : Nat) (r2 : Nat) (r3 : Nat) : Met l yX8_init (wsG yX8_init cX8_init 4 none) { frames := 1, cells := 0, slots := 0, locals := 13 } (xP D cA s0 [.ref a, .ref r1, .ref r2, .ref r3] (fun H => Lay D (fun _ => (.inr (8, [.null, .null, .null]))) a 1 H)) (xQm none (fun H => Lay D (fun _ => .inr (8, [.ref r1, .ref r2, .ref r3])) a 1 H) (xA0 a)) 0 0 (xA0 a) := by
  refine i_start (own := RX8) [(0, .ref a), (1, .ref r1), (2, .ref r2), (3, .ref r3)] rfl rfl (by decide) (nb rfl) ?_
  intro p e s m args below meth c C hin hw
  refine x_aload_n C dX8_init_0 rfl ?_
  refine x_obj C oi_X8_3 oi_i oi_c (nb rfl) (nb rfl) dX8_init_1 ?_
  have hL := hw
  have hS : va_S (xA0 a) s.heap s.heap [] := va_S.rf
  refine x_aload_n C dX8_init_4 rfl ?_
  refine x_aload_n C dX8_init_5 rfl ?_
  refine x_putF C fl_X8_9 (hL.zero (by decide) rfl) rfl hin rfl rfl rfl (nb rfl) dX8_init_6 hS (Nat.le_refl _) (fun H2 locs2 h2 ho2 hz2 hS => ?_)
  have hL := hL.set 0 h2 ho2 hz2
  refine x_aload_n C dX8_init_9 rfl ?_
  refine x_aload_n C dX8_init_10 rfl ?_
  refine x_putF C fl_X8_15 (hL.zero (by decide) rfl) rfl hin rfl rfl rfl (nb rfl) dX8_init_11 hS (Nat.le_refl _) (fun H2 locs2 h2 ho2 hz2 hS => ?_)
  have hL := hL.set 0 h2 ho2 hz2
  refine x_aload_n C dX8_init_14 rfl ?_
  refine x_aload_n C dX8_init_15 rfl ?_
  refine x_putF C fl_X8_19 (hL.zero (by decide) rfl) rfl hin rfl rfl rfl (nb rfl) dX8_init_16 hS (Nat.le_refl _) (fun H2 locs2 h2 ho2 hz2 hS => ?_)
  have hL := hL.set 0 h2 ho2 hz2
  refine x_vretM2 C rfl dX8_init_19 rfl (hL.congr ?_) hS (nb rfl) (nb rfl)
  intro o ho
  match o, ho with
  | 0, _ => rfl
  | o + 1, h => exact absurd h (by omega)
set_option maxRecDepth 20000 in
set_option maxHeartbeats 4000000 in
theorem k_X7_init (l : Launch) (D : va_G) (cA : Nat → ClassId) (s0 : State) (a : Nat) (r1 : Nat) (r2 : Nat) : Met l yX7_init (wsG yX7_init cX7_init 3 none) { frames := 1, cells := 0, slots := 0, locals := 13 } (xP D cA s0 [.ref a, .ref r1, .ref r2] (fun H => Lay D (fun _ => (.inr (7, [.null, .null, .int 0, .int 0, .int 0, .int 0, .int 0, .int 0, .int 0, .int 0, .int 0]))) a 1 H)) (xQm none (fun H => Lay D (fun _ => .inr (7, [.ref r1, .ref r2, .int 0, .int 0, .int 0, .int 0, .int 0, .int 0, .int 0, .int 0, .int (-1)])) a 1 H) (xA0 a)) 0 0 (xA0 a) := by
  refine i_start (own := RX7) [(0, .ref a), (1, .ref r1), (2, .ref r2)] rfl rfl (by decide) (nb rfl) ?_
  intro p e s m args below meth c C hin hw
  refine x_aload_n C dX7_init_0 rfl ?_
  refine x_obj C oi_X7_3 oi_i oi_c (nb rfl) (nb rfl) dX7_init_1 ?_
  have hL := hw
  have hS : va_S (xA0 a) s.heap s.heap [] := va_S.rf
  refine x_aload_n C dX7_init_4 rfl ?_
  refine x_iconst (-1 : Int32) C dX7_init_5 rfl ?_
  refine x_put0 C fl_X7_9 (hL.zero (by decide) rfl) rfl rfl rfl (nb rfl) dX7_init_6 hS (Nat.le_refl _) (fun H2 locs2 h2 ho2 hz2 hS => ?_)
  have hL := hL.set 0 h2 ho2 hz2
  refine x_aload_n C dX7_init_9 rfl ?_
  refine x_aload_n C dX7_init_10 rfl ?_
  refine x_putF C fl_X7_15 (hL.zero (by decide) rfl) rfl hin rfl rfl rfl (nb rfl) dX7_init_11 hS (Nat.le_refl _) (fun H2 locs2 h2 ho2 hz2 hS => ?_)
  have hL := hL.set 0 h2 ho2 hz2
  refine x_aload_n C dX7_init_14 rfl ?_
  refine x_aload_n C dX7_init_15 rfl ?_
  refine x_putF C fl_X7_19 (hL.zero (by decide) rfl) rfl hin rfl rfl rfl (nb rfl) dX7_init_16 hS (Nat.le_refl _) (fun H2 locs2 h2 ho2 hz2 hS => ?_)
  have hL := hL.set 0 h2 ho2 hz2
  refine x_vretM2 C rfl dX7_init_19 rfl (hL.congr ?_) hS (nb rfl) (nb rfl)
  intro o ho
  match o, ho with
  | 0, _ => rfl
  | o + 1, h => exact absurd h (by omega)
def fIni (o : Nat) : Nat → Int32 := fun k => if (222 ≤ o ∧ (o - 222) % 5 = 0) ∧ k = 10 then 30 else 0
def RowE (cA : Nat → ClassId) (nr a o : Nat) : va_E := shLed (fun _ => nr) cA a 0 o (fIni o) (fun _ => 0)
/-- a ledger half made: so many rows of each kind -/
def LE (cA : Nat → ClassId) (nr a c1 c2 c3 c4 c5 o : Nat) : va_E :=
  if o = 0 then .inr (5, [.ref (a + 1), .ref (a + 2), .ref (a + 3), .ref (a + 4), .ref (a + 5), .int 0, .int 0, .int 0, .int 0, .int 0, .int 0])
  else if o = 1 then .inl (cA 3, 8, .inr (.inr (.inr (.inr (pf a 6 2 c1)))))
  else if o = 2 then .inl (cA 4, 40, .inr (.inr (.inr (.inr (pf a 22 1 c2)))))
  else if o = 3 then .inl (cA 5, 60, .inr (.inr (.inr (.inr (pf a 62 2 c3)))))
  else if o = 4 then .inl (cA 6, 40, .inr (.inr (.inr (.inr (pf a 182 1 c4)))))
  else if o = 5 then .inl (cA 7, 21, .inr (.inr (.inr (.inr (pf a 222 5 c5)))))
  else RowE cA nr a o
section ROWE
variable {cA : Nat → ClassId} {nr a o : Nat}
theorem RE_1 (h : 6 ≤ o) (h2 : o < 22) (h3 : o % 2 = 0) : RowE cA nr a o = .inr (9, [.ref (a + o + 1), .int 0, .int 0, .long 0]) := by
  unfold RowE shLed
  rw [if_neg (by omega), if_neg (by omega), if_neg (by omega), if_neg (by omega), if_neg (by omega), if_neg (by omega), if_pos (by omega), if_pos h3]
  have e : ∀ k, fIni o k = 0 := fun k => if_neg (by omega)
  simp only [e, Nat.zero_add, Nat.add_assoc]
theorem RE_1a (h : 6 ≤ o) (h2 : o < 22) (h3 : ¬ o % 2 = 0) : RowE cA nr a o = .inl (cA 2, 6, .inl (fun _ => 0)) := by
  unfold RowE shLed
  rw [if_neg (by omega), if_neg (by omega), if_neg (by omega), if_neg (by omega), if_neg (by omega), if_neg (by omega), if_pos (by omega), if_neg h3]
  have e : (fun k => vp_nar .byte (fIni o k)) = fun _ => 0 := funext fun k => by
    rw [show fIni o k = 0 from if_neg (by omega)]
    rfl
  rw [e]
theorem RE_2 (h : 22 ≤ o) (h2 : o < 62) : RowE cA nr a o = .inr (2, [.int 0, .int 0, .int 0, .int 0, .int 0, .int 0, .int 0]) := by
  unfold RowE shLed
  rw [if_neg (by omega), if_neg (by omega), if_neg (by omega), if_neg (by omega), if_neg (by omega), if_neg (by omega), if_neg (by omega), if_pos (by omega)]
  have e : ∀ k, fIni o k = 0 := fun k => if_neg (by omega)
  simp only [e]
theorem RE_3 (h : 62 ≤ o) (h2 : o < 182) (h3 : o % 2 = 0) : RowE cA nr a o = .inr (4, [.ref (a + o + 1), .int 0, .int 0, .int 0, .int 0, .int 0, .int 0]) := by
  unfold RowE shLed
  rw [if_neg (by omega), if_neg (by omega), if_neg (by omega), if_neg (by omega), if_neg (by omega), if_neg (by omega), if_neg (by omega), if_neg (by omega), if_pos (by omega), if_pos h3]
  have e : ∀ k, fIni o k = 0 := fun k => if_neg (by omega)
  simp only [e, Nat.zero_add, Nat.add_assoc]
theorem RE_3a (h : 62 ≤ o) (h2 : o < 182) (h3 : ¬ o % 2 = 0) : RowE cA nr a o = .inl (cA 0, 4, .inl (fun _ => 0)) := by
  unfold RowE shLed
  rw [if_neg (by omega), if_neg (by omega), if_neg (by omega), if_neg (by omega), if_neg (by omega), if_neg (by omega), if_neg (by omega), if_neg (by omega), if_pos (by omega), if_neg h3]
  have e : fIni o = fun _ => 0 := funext fun k => if_neg (by omega)
  rw [e]
theorem RE_4 (h : 182 ≤ o) (h2 : o < 222) : RowE cA nr a o = .inr (6, [.int 0, .int 0, .int 0, .int 0]) := by
  unfold RowE shLed
  rw [if_neg (by omega), if_neg (by omega), if_neg (by omega), if_neg (by omega), if_neg (by omega), if_neg (by omega), if_neg (by omega), if_neg (by omega), if_neg (by omega), if_pos (by omega)]
  have e : ∀ k, fIni o k = 0 := fun k => if_neg (by omega)
  simp only [e]
theorem RE_5 {c : Nat} (h : o = 222 + 5 * c) (r : Nat) (hr : r < 5) : RowE cA nr a (o + r) = TarE cA (a + o) r := by
  subst h
  unfold RowE shLed TarE
  rw [if_neg (by omega), if_neg (by omega), if_neg (by omega), if_neg (by omega), if_neg (by omega), if_neg (by omega), if_neg (by omega), if_neg (by omega), if_neg (by omega), if_neg (by omega)]
  by_cases q : r = 0
  · subst q
    rw [if_pos (by omega), if_pos rfl]
    have e : ∀ k, fIni (222 + 5 * c) k = if k = 10 then 30 else 0 := fun k => by
      unfold fIni
      by_cases z : k = 10
      · rw [if_pos ⟨⟨by omega, by omega⟩, z⟩, if_pos z]
      · rw [if_neg (fun w => z w.2), if_neg z]
    simp only [Nat.zero_add, Nat.add_assoc, Nat.add_zero, e]
    rfl
  · rw [if_neg (by omega), if_neg q]
    have e : fIni (222 + 5 * c + r) = fun _ => 0 := funext fun k => if_neg (fun w => by omega)
    rw [e]
    have e2 : (222 + 5 * c + r - 222) % 5 = r := by omega
    rw [e2]
end ROWE
theorem LE_row {cA : Nat → ClassId} {nr a c1 c2 c3 c4 c5 o : Nat} (h : 6 ≤ o) : LE cA nr a c1 c2 c3 c4 c5 o = RowE cA nr a o := by
  unfold LE
  rw [if_neg (by omega), if_neg (by omega), if_neg (by omega), if_neg (by omega), if_neg (by omega), if_neg (by omega)]
theorem LE_low {cA : Nat → ClassId} {nr a c1 c2 c3 c4 c5 d1 d2 d3 d4 d5 j o : Nat} (hj : 1 ≤ j ∧ j ≤ 5) (ho : o ≠ j) (e1 : j ≠ 1 → c1 = d1) (e2 : j ≠ 2 → c2 = d2) (e3 : j ≠ 3 → c3 = d3) (e4 : j ≠ 4 → c4 = d4) (e5 : j ≠ 5 → c5 = d5) : LE cA nr a c1 c2 c3 c4 c5 o = LE cA nr a d1 d2 d3 d4 d5 o := by
  unfold LE
  by_cases q0 : o = 0
  · rw [if_pos q0, if_pos q0]
  rw [if_neg q0, if_neg q0]
  by_cases q1 : o = 1
  · rw [if_pos q1, if_pos q1, e1 (by omega)]
  rw [if_neg q1, if_neg q1]
  by_cases q2 : o = 2
  · rw [if_pos q2, if_pos q2, e2 (by omega)]
  rw [if_neg q2, if_neg q2]
  by_cases q3 : o = 3
  · rw [if_pos q3, if_pos q3, e3 (by omega)]
  rw [if_neg q3, if_neg q3]
  by_cases q4 : o = 4
  · rw [if_pos q4, if_pos q4, e4 (by omega)]
  rw [if_neg q4, if_neg q4]
  by_cases q5 : o = 5
  · rw [if_pos q5, if_pos q5, e5 (by omega)]
  rw [if_neg q5, if_neg q5]
theorem Lay.conv {D : va_G} {E E' : Nat → va_E} {a n : Nat} {H : Heap} (h : Lay D E a n H) (he : ∀ o, o < n → va_at D xcl (a + o, E o) H → va_at D xcl (a + o, E' o) H) : Lay D E' a n H := ⟨h.1, fun o ho => he o ho (h.2 o ho)⟩
theorem q_conv {D : va_G} {a0 n : Nat} {c : ClassId} {f g : Nat → Option Nat} {H : Heap} (h : va_at D xcl (a0, .inl (c, n, .inr (.inr (.inr (.inr f))))) H) (e : ∀ i, i < n → f i = g i) : va_at D xcl (a0, .inl (c, n, .inr (.inr (.inr (.inr g))))) H := by
  have h' : H[a0]? = some (vp_cell c (n, .inr (.inr (.inr (.inr f))))) := h
  show H[a0]? = some (vp_cell c (n, .inr (.inr (.inr (.inr g)))))
  rw [h', vp_cell_q, vp_cell_q, arrV_same (fun j hj => by rw [e j hj])]
abbrev RowEnd (cA : Nat → ClassId) (nr a o : Nat) : va_E := RowE cA nr a o
theorem pf_in {a b s c i : Nat} (h : i < c) : pf a b s c i = some (a + (0 + (b + s * i))) := by
  unfold pf
  rw [if_pos h, Nat.zero_add]
theorem LE_end {D : va_G} {cA : Nat → ClassId} {nr a o : Nat} {H : Heap} (h : va_at D xcl (a + o, LE cA nr a 8 40 60 40 21 o) H) : va_at D xcl (a + o, RowEnd cA nr a o) H := by
  match o, h with
  | 0, h => exact h
  | 1, h => exact q_conv (f := pf a 6 2 8) h (fun i hi => by rw [pf_in hi])
  | 2, h => exact q_conv (f := pf a 22 1 40) h (fun i hi => by rw [pf_in hi, Nat.one_mul])
  | 3, h => exact q_conv (f := pf a 62 2 60) h (fun i hi => by rw [pf_in hi])
  | 4, h => exact q_conv (f := pf a 182 1 40) h (fun i hi => by rw [pf_in hi, Nat.one_mul])
  | 5, h => exact q_conv (f := pf a 222 5 21) h (fun i hi => by rw [pf_in hi])
  | o + 6, h =>
    rw [LE_row (by omega)] at h
    exact h
set_option maxRecDepth 20000 in
set_option maxHeartbeats 4000000 in
theorem k_X5_init (l : Launch) (D : va_G) (cA : Nat → ClassId) (s0 : State) (a : Nat) (nr : Nat) (hAO : xAOs s0) : Met l yX5_init (wsG yX5_init cX5_init 2 none) { frames := 3, cells := 326, slots := 2021, locals := 60 } (xP D cA s0 [.ref a] (fun H => Lay D (fun _ => (.inr (5, [.null, .null, .null, .null, .null, .int 0, .int 0, .int 0, .int 0, .int 0, .int 0]))) a 1 H)) (xQm none (fun H => Lay D (RowEnd cA nr a) a 327 H) (xA0 a)) 326 2021 (xA0 a) := by
  refine i_start (own := RX5) [(0, .ref a)] rfl rfl (by decide) (nb rfl) ?_
  intro p e s m args below meth c C hin hw
  have hL := hw
  have hS : va_S (xA0 a) s.heap s.heap [] := va_S.rf
  have X : ∀ (x : Nat), a ≤ a + x := fun x => by omega
  have hl5 : ∀ (d cc0 : Nat), cc0 + d = 21 → ∀ (H : Heap) (locs : List Loc), Lay D (LE cA nr a 8 40 60 40 cc0) a (222 + 5 * cc0) H → va_S (xA0 a) s.heap H locs → xW p l e { frames := 3, cells := 326, slots := 2021, locals := 60 } s m args below meth c 2 (MQ below (xQm none (fun H => Lay D (RowEnd cA nr a) a 327 H) (xA0 a)) args s 326 2021 (xA0 a)) H locs (221 + 5 * cc0) (1349 + 32 * cc0) 159 [(1, .int (nI cc0)), (0, .ref a)] [] := by
    intro d
    induction d with
    | zero =>
      intro cc0 hc H locs hL hS
      have hc : cc0 = 21 := by omega
      subst hc
      refine x_iload_n C dX5_init_159 rfl ?_
      refine x_bipush (20 : Int32) C dX5_init_160 rfl ?_
      refine x_icmp_gt 184 C dX5_init_162 (by decide) (fun _ => ?_) (fun z => absurd (by decide) z)
      refine x_vretM2 C rfl dX5_init_184 rfl (hL.conv (fun o _ h => LE_end h)) hS (nb rfl) (nb rfl)
    | succ d ih =>
      intro cc0 hc H locs hL hS
      have hz0 := hL.1
      refine x_iload_n C dX5_init_159 rfl ?_
      refine x_bipush (20 : Int32) C dX5_init_160 rfl ?_
      refine x_icmp_gt 184 C dX5_init_162 (by decide) (fun z => absurd ((nltI (a := 20) (b := cc0) rfl rfl (by decide) (by omega)).mp z) (by omega)) (fun _ => ?_)
      refine x_aload_n C dX5_init_165 rfl ?_
      refine x_get (.ref (a + 5)) C fl_X5_37 (hL.zero (by omega) rfl) rfl dX5_init_166 ?_
      refine x_iload_n C dX5_init_169 rfl ?_
      refine x_new C cf_X10 kl_X5_35 in_10 ii_10 df_10 (by show _ ≤ 326; omega) (by show _ ≤ 2021; omega) dX5_init_170 (fun H1 h1 hz ho => ?_)
      refine x_dup C dX5_init_173 rfl ?_
      refine x_goM (fun ls h => x_runJ (As := []) [.ref H.size, .int (nI cc0), .ref (a + 5)] h C mi_X5_45 (k_X10_init l D cA s0 H.size) ⟨rfl, rfl, nb rfl, nb rfl⟩ rfl (Lay.one h1 hz) (nb rfl) ⟨by show _ ≤ 326; omega, by show _ ≤ 2021; omega⟩ dX5_init_174) (hS.grow hz ho) (fun q hq => by unfold xA0 at hq ⊢; omega) (fun H2 locs2 hw2 hz2 hk2 hS2 => ?_)
      have hk3 : ∀ q : Nat, q < a + (222 + 5 * cc0) → H2[q]? = H[q]? := fun q hq => (hk2 q (by omega) (by unfold xA0; omega)).trans (ho q (by omega))
      have hw3 : Lay D _ (a + (222 + 5 * cc0)) 5 H2 := hz0 ▸ hw2
      have hL2 := hL.app hw3 hk3
      have hv := hw2.zero (by decide) rfl
      refine x_astq (t := 7) (k := cc0) C (hL2.at 5 (by omega) (show _ = _ from if_pos (by omega))) rfl hv (cf_X10).1 rfl (by omega) (by decide) dX5_init_177 hS2 (X 5) (fun H3 locs3 h3 ho3 hz3 hS3 => ?_)
      have hL3 := hL2.set 5 h3 ho3 hz3
      refine x_iinc (nI (cc0 + 1)) [(1, .int (nI (cc0 + 1))), (0, .ref a)] C dX5_init_178 rfl (by rw [nI_succ]; rfl) (by decide) rfl ?_
      refine x_goto 159 C dX5_init_181 (by decide) ?_
      refine x_widen (k := 221 + 5 * (cc0 + 1)) (n := 1349 + 32 * (cc0 + 1)) (by omega) (by omega) ?_
      refine ih (cc0 + 1) (by omega) H3 locs3 ?_ hS3
      rw [show 222 + 5 * (cc0 + 1) = 222 + 5 * cc0 + 5 by omega]
      refine hL3.congr (fun o ho => ?_)
      by_cases q : o = 5
      · rw [if_pos q, q]
        show Sum.inl (cA 7, 21, Sum.inr (Sum.inr (Sum.inr (Sum.inr (va_up (pf a 222 5 cc0) cc0 (some H.size)))))) = Sum.inl (cA 7, 21, Sum.inr (Sum.inr (Sum.inr (Sum.inr (pf a 222 5 (cc0 + 1))))))
        rw [pf_up hz0]
      · rw [if_neg q]
        by_cases q2 : o < 222 + 5 * cc0
        · rw [if_pos q2]
          exact LE_low (j := 5) (by decide) q (fun _ => rfl) (fun _ => rfl) (fun _ => rfl) (fun _ => rfl) (fun z => absurd rfl z)
        · rw [if_neg q2, LE_row (by omega)]
          obtain ⟨r, hr⟩ : ∃ r, o = 222 + 5 * cc0 + r := ⟨o - (222 + 5 * cc0), by omega⟩
          subst hr
          rw [RE_5 rfl r (by omega), show 222 + 5 * cc0 + r - (222 + 5 * cc0) = r by omega]
  have hl4 : ∀ (d cc0 : Nat), cc0 + d = 40 → ∀ (H : Heap) (locs : List Loc), Lay D (LE cA nr a 8 40 60 cc0 0) a (182 + 1 * cc0) H → va_S (xA0 a) s.heap H locs → xW p l e { frames := 3, cells := 326, slots := 2021, locals := 60 } s m args below meth c 2 (MQ below (xQm none (fun H => Lay D (RowEnd cA nr a) a 327 H) (xA0 a)) args s 326 2021 (xA0 a)) H locs (181 + 1 * cc0) (1189 + 4 * cc0) 132 [(1, .int (nI cc0)), (0, .ref a)] [] := by
    intro d
    induction d with
    | zero =>
      intro cc0 hc H locs hL hS
      have hc : cc0 = 40 := by omega
      subst hc
      refine x_iload_n C dX5_init_132 rfl ?_
      refine x_bipush (40 : Int32) C dX5_init_133 rfl ?_
      refine x_icmp_ge 157 C dX5_init_135 (by decide) (fun _ => ?_) (fun z => absurd (by decide) z)
      refine x_iconst (0 : Int32) C dX5_init_157 rfl ?_
      refine x_istore_n [(1, .int (nI 0)), (0, .ref a)] C dX5_init_158 rfl (by decide) rfl ?_
      exact hl5 21 0 (by decide) H locs hL hS
    | succ d ih =>
      intro cc0 hc H locs hL hS
      have hz0 := hL.1
      refine x_iload_n C dX5_init_132 rfl ?_
      refine x_bipush (40 : Int32) C dX5_init_133 rfl ?_
      refine x_icmp_ge 157 C dX5_init_135 (by decide) (fun z => absurd ((nleI (a := 40) (b := cc0) rfl rfl (by decide) (by omega)).mp z) (by omega)) (fun _ => ?_)
      refine x_aload_n C dX5_init_138 rfl ?_
      refine x_get (.ref (a + 4)) C fl_X5_31 (hL.zero (by omega) rfl) rfl dX5_init_139 ?_
      refine x_iload_n C dX5_init_142 rfl ?_
      refine x_new C cf_X6 kl_X5_29 in_6 ii_6 df_6 (by show _ ≤ 326; omega) (by show _ ≤ 2021; omega) dX5_init_143 (fun H1 h1 hz ho => ?_)
      refine x_dup C dX5_init_146 rfl ?_
      refine x_goM (fun ls h => x_runJ (As := []) [.ref H.size, .int (nI cc0), .ref (a + 4)] h C mi_X5_44 (k_X6_init l D cA s0 H.size) ⟨rfl, rfl, nb rfl, nb rfl⟩ rfl (Lay.one h1 hz) (nb rfl) ⟨by show _ ≤ 326; omega, by show _ ≤ 2021; omega⟩ dX5_init_147) (hS.grow hz ho) (fun q hq => by unfold xA0 at hq ⊢; omega) (fun H2 locs2 hw2 hz2 hk2 hS2 => ?_)
      have hk3 : ∀ q : Nat, q < a + (182 + 1 * cc0) → H2[q]? = H[q]? := fun q hq => (hk2 q (by omega) (by unfold xA0; omega)).trans (ho q (by omega))
      have hw3 : Lay D _ (a + (182 + 1 * cc0)) 1 H2 := hz0 ▸ hw2
      have hL2 := hL.app hw3 hk3
      have hv := hw2.zero (by decide) rfl
      refine x_astq (t := 6) (k := cc0) C (hL2.at 4 (by omega) (show _ = _ from if_pos (by omega))) rfl hv (cf_X6).1 rfl (by omega) (by decide) dX5_init_150 hS2 (X 4) (fun H3 locs3 h3 ho3 hz3 hS3 => ?_)
      have hL3 := hL2.set 4 h3 ho3 hz3
      refine x_iinc (nI (cc0 + 1)) [(1, .int (nI (cc0 + 1))), (0, .ref a)] C dX5_init_151 rfl (by rw [nI_succ]; rfl) (by decide) rfl ?_
      refine x_goto 132 C dX5_init_154 (by decide) ?_
      refine x_widen (k := 181 + 1 * (cc0 + 1)) (n := 1189 + 4 * (cc0 + 1)) (by omega) (by omega) ?_
      refine ih (cc0 + 1) (by omega) H3 locs3 ?_ hS3
      rw [show 182 + 1 * (cc0 + 1) = 182 + 1 * cc0 + 1 by omega]
      refine hL3.congr (fun o ho => ?_)
      by_cases q : o = 4
      · rw [if_pos q, q]
        show Sum.inl (cA 6, 40, Sum.inr (Sum.inr (Sum.inr (Sum.inr (va_up (pf a 182 1 cc0) cc0 (some H.size)))))) = Sum.inl (cA 6, 40, Sum.inr (Sum.inr (Sum.inr (Sum.inr (pf a 182 1 (cc0 + 1))))))
        rw [pf_up hz0]
      · rw [if_neg q]
        by_cases q2 : o < 182 + 1 * cc0
        · rw [if_pos q2]
          exact LE_low (j := 4) (by decide) q (fun _ => rfl) (fun _ => rfl) (fun _ => rfl) (fun z => absurd rfl z) (fun _ => rfl)
        · rw [if_neg q2, LE_row (by omega)]
          exact (RE_4 (by omega) (by omega)).symm
  have hl3 : ∀ (d cc0 : Nat), cc0 + d = 60 → ∀ (H : Heap) (locs : List Loc), Lay D (LE cA nr a 8 40 cc0 0 0) a (62 + 2 * cc0) H → va_S (xA0 a) s.heap H locs → xW p l e { frames := 3, cells := 326, slots := 2021, locals := 60 } s m args below meth c 2 (MQ below (xQm none (fun H => Lay D (RowEnd cA nr a) a 327 H) (xA0 a)) args s 326 2021 (xA0 a)) H locs (61 + 2 * cc0) (529 + 11 * cc0) 105 [(1, .int (nI cc0)), (0, .ref a)] [] := by
    intro d
    induction d with
    | zero =>
      intro cc0 hc H locs hL hS
      have hc : cc0 = 60 := by omega
      subst hc
      refine x_iload_n C dX5_init_105 rfl ?_
      refine x_bipush (60 : Int32) C dX5_init_106 rfl ?_
      refine x_icmp_ge 130 C dX5_init_108 (by decide) (fun _ => ?_) (fun z => absurd (by decide) z)
      refine x_iconst (0 : Int32) C dX5_init_130 rfl ?_
      refine x_istore_n [(1, .int (nI 0)), (0, .ref a)] C dX5_init_131 rfl (by decide) rfl ?_
      exact hl4 40 0 (by decide) H locs hL hS
    | succ d ih =>
      intro cc0 hc H locs hL hS
      have hz0 := hL.1
      refine x_iload_n C dX5_init_105 rfl ?_
      refine x_bipush (60 : Int32) C dX5_init_106 rfl ?_
      refine x_icmp_ge 130 C dX5_init_108 (by decide) (fun z => absurd ((nleI (a := 60) (b := cc0) rfl rfl (by decide) (by omega)).mp z) (by omega)) (fun _ => ?_)
      refine x_aload_n C dX5_init_111 rfl ?_
      refine x_get (.ref (a + 3)) C fl_X5_25 (hL.zero (by omega) rfl) rfl dX5_init_112 ?_
      refine x_iload_n C dX5_init_115 rfl ?_
      refine x_new C cf_X4 kl_X5_23 in_4 ii_4 df_4 (by show _ ≤ 326; omega) (by show _ ≤ 2021; omega) dX5_init_116 (fun H1 h1 hz ho => ?_)
      refine x_dup C dX5_init_119 rfl ?_
      refine x_goM (fun ls h => x_runJ (As := []) [.ref H.size, .int (nI cc0), .ref (a + 3)] h C mi_X5_43 (k_X4_init l D cA s0 H.size) ⟨rfl, rfl, nb rfl, nb rfl⟩ rfl (Lay.one h1 hz) (nb rfl) ⟨by show _ ≤ 326; omega, by show _ ≤ 2021; omega⟩ dX5_init_120) (hS.grow hz ho) (fun q hq => by unfold xA0 at hq ⊢; omega) (fun H2 locs2 hw2 hz2 hk2 hS2 => ?_)
      have hk3 : ∀ q : Nat, q < a + (62 + 2 * cc0) → H2[q]? = H[q]? := fun q hq => (hk2 q (by omega) (by unfold xA0; omega)).trans (ho q (by omega))
      have hw3 : Lay D _ (a + (62 + 2 * cc0)) 2 H2 := hz0 ▸ hw2
      have hL2 := hL.app hw3 hk3
      have hv := hw2.zero (by decide) rfl
      refine x_astq (t := 5) (k := cc0) C (hL2.at 3 (by omega) (show _ = _ from if_pos (by omega))) rfl hv (cf_X4).1 rfl (by omega) (by decide) dX5_init_123 hS2 (X 3) (fun H3 locs3 h3 ho3 hz3 hS3 => ?_)
      have hL3 := hL2.set 3 h3 ho3 hz3
      refine x_iinc (nI (cc0 + 1)) [(1, .int (nI (cc0 + 1))), (0, .ref a)] C dX5_init_124 rfl (by rw [nI_succ]; rfl) (by decide) rfl ?_
      refine x_goto 105 C dX5_init_127 (by decide) ?_
      refine x_widen (k := 61 + 2 * (cc0 + 1)) (n := 529 + 11 * (cc0 + 1)) (by omega) (by omega) ?_
      refine ih (cc0 + 1) (by omega) H3 locs3 ?_ hS3
      rw [show 62 + 2 * (cc0 + 1) = 62 + 2 * cc0 + 2 by omega]
      refine hL3.congr (fun o ho => ?_)
      by_cases q : o = 3
      · rw [if_pos q, q]
        show Sum.inl (cA 5, 60, Sum.inr (Sum.inr (Sum.inr (Sum.inr (va_up (pf a 62 2 cc0) cc0 (some H.size)))))) = Sum.inl (cA 5, 60, Sum.inr (Sum.inr (Sum.inr (Sum.inr (pf a 62 2 (cc0 + 1))))))
        rw [pf_up hz0]
      · rw [if_neg q]
        by_cases q2 : o < 62 + 2 * cc0
        · rw [if_pos q2]
          exact LE_low (j := 3) (by decide) q (fun _ => rfl) (fun _ => rfl) (fun z => absurd rfl z) (fun _ => rfl) (fun _ => rfl)
        · rw [if_neg q2, LE_row (by omega)]
          by_cases q3 : o = 62 + 2 * cc0
          · subst q3
            rw [RE_3 (by omega) (by omega) (by omega), Nat.sub_self]
            rfl
          · rw [RE_3a (by omega) (by omega) (by omega)]
            exact if_neg (by omega)
  have hl2 : ∀ (d cc0 : Nat), cc0 + d = 40 → ∀ (H : Heap) (locs : List Loc), Lay D (LE cA nr a 8 cc0 0 0 0) a (22 + 1 * cc0) H → va_S (xA0 a) s.heap H locs → xW p l e { frames := 3, cells := 326, slots := 2021, locals := 60 } s m args below meth c 2 (MQ below (xQm none (fun H => Lay D (RowEnd cA nr a) a 327 H) (xA0 a)) args s 326 2021 (xA0 a)) H locs (21 + 1 * cc0) (249 + 7 * cc0) 78 [(1, .int (nI cc0)), (0, .ref a)] [] := by
    intro d
    induction d with
    | zero =>
      intro cc0 hc H locs hL hS
      have hc : cc0 = 40 := by omega
      subst hc
      refine x_iload_n C dX5_init_78 rfl ?_
      refine x_bipush (40 : Int32) C dX5_init_79 rfl ?_
      refine x_icmp_ge 103 C dX5_init_81 (by decide) (fun _ => ?_) (fun z => absurd (by decide) z)
      refine x_iconst (0 : Int32) C dX5_init_103 rfl ?_
      refine x_istore_n [(1, .int (nI 0)), (0, .ref a)] C dX5_init_104 rfl (by decide) rfl ?_
      exact hl3 60 0 (by decide) H locs hL hS
    | succ d ih =>
      intro cc0 hc H locs hL hS
      have hz0 := hL.1
      refine x_iload_n C dX5_init_78 rfl ?_
      refine x_bipush (40 : Int32) C dX5_init_79 rfl ?_
      refine x_icmp_ge 103 C dX5_init_81 (by decide) (fun z => absurd ((nleI (a := 40) (b := cc0) rfl rfl (by decide) (by omega)).mp z) (by omega)) (fun _ => ?_)
      refine x_aload_n C dX5_init_84 rfl ?_
      refine x_get (.ref (a + 2)) C fl_X5_19 (hL.zero (by omega) rfl) rfl dX5_init_85 ?_
      refine x_iload_n C dX5_init_88 rfl ?_
      refine x_new C cf_X2 kl_X5_17 in_2 ii_2 df_2 (by show _ ≤ 326; omega) (by show _ ≤ 2021; omega) dX5_init_89 (fun H1 h1 hz ho => ?_)
      refine x_dup C dX5_init_92 rfl ?_
      refine x_goM (fun ls h => x_runJ (As := []) [.ref H.size, .int (nI cc0), .ref (a + 2)] h C mi_X5_42 (k_X2_init l D cA s0 H.size) ⟨rfl, rfl, nb rfl, nb rfl⟩ rfl (Lay.one h1 hz) (nb rfl) ⟨by show _ ≤ 326; omega, by show _ ≤ 2021; omega⟩ dX5_init_93) (hS.grow hz ho) (fun q hq => by unfold xA0 at hq ⊢; omega) (fun H2 locs2 hw2 hz2 hk2 hS2 => ?_)
      have hk3 : ∀ q : Nat, q < a + (22 + 1 * cc0) → H2[q]? = H[q]? := fun q hq => (hk2 q (by omega) (by unfold xA0; omega)).trans (ho q (by omega))
      have hw3 : Lay D _ (a + (22 + 1 * cc0)) 1 H2 := hz0 ▸ hw2
      have hL2 := hL.app hw3 hk3
      have hv := hw2.zero (by decide) rfl
      refine x_astq (t := 4) (k := cc0) C (hL2.at 2 (by omega) (show _ = _ from if_pos (by omega))) rfl hv (cf_X2).1 rfl (by omega) (by decide) dX5_init_96 hS2 (X 2) (fun H3 locs3 h3 ho3 hz3 hS3 => ?_)
      have hL3 := hL2.set 2 h3 ho3 hz3
      refine x_iinc (nI (cc0 + 1)) [(1, .int (nI (cc0 + 1))), (0, .ref a)] C dX5_init_97 rfl (by rw [nI_succ]; rfl) (by decide) rfl ?_
      refine x_goto 78 C dX5_init_100 (by decide) ?_
      refine x_widen (k := 21 + 1 * (cc0 + 1)) (n := 249 + 7 * (cc0 + 1)) (by omega) (by omega) ?_
      refine ih (cc0 + 1) (by omega) H3 locs3 ?_ hS3
      rw [show 22 + 1 * (cc0 + 1) = 22 + 1 * cc0 + 1 by omega]
      refine hL3.congr (fun o ho => ?_)
      by_cases q : o = 2
      · rw [if_pos q, q]
        show Sum.inl (cA 4, 40, Sum.inr (Sum.inr (Sum.inr (Sum.inr (va_up (pf a 22 1 cc0) cc0 (some H.size)))))) = Sum.inl (cA 4, 40, Sum.inr (Sum.inr (Sum.inr (Sum.inr (pf a 22 1 (cc0 + 1))))))
        rw [pf_up hz0]
      · rw [if_neg q]
        by_cases q2 : o < 22 + 1 * cc0
        · rw [if_pos q2]
          exact LE_low (j := 2) (by decide) q (fun _ => rfl) (fun z => absurd rfl z) (fun _ => rfl) (fun _ => rfl) (fun _ => rfl)
        · rw [if_neg q2, LE_row (by omega)]
          exact (RE_2 (by omega) (by omega)).symm
  have hl1 : ∀ (d cc0 : Nat), cc0 + d = 8 → ∀ (H : Heap) (locs : List Loc), Lay D (LE cA nr a cc0 0 0 0 0) a (6 + 2 * cc0) H → va_S (xA0 a) s.heap H locs → xW p l e { frames := 3, cells := 326, slots := 2021, locals := 60 } s m args below meth c 2 (MQ below (xQm none (fun H => Lay D (RowEnd cA nr a) a 327 H) (xA0 a)) args s 326 2021 (xA0 a)) H locs (5 + 2 * cc0) (169 + 10 * cc0) 51 [(1, .int (nI cc0)), (0, .ref a)] [] := by
    intro d
    induction d with
    | zero =>
      intro cc0 hc H locs hL hS
      have hc : cc0 = 8 := by omega
      subst hc
      refine x_iload_n C dX5_init_51 rfl ?_
      refine x_bipush (8 : Int32) C dX5_init_52 rfl ?_
      refine x_icmp_ge 76 C dX5_init_54 (by decide) (fun _ => ?_) (fun z => absurd (by decide) z)
      refine x_iconst (0 : Int32) C dX5_init_76 rfl ?_
      refine x_istore_n [(1, .int (nI 0)), (0, .ref a)] C dX5_init_77 rfl (by decide) rfl ?_
      exact hl2 40 0 (by decide) H locs hL hS
    | succ d ih =>
      intro cc0 hc H locs hL hS
      have hz0 := hL.1
      refine x_iload_n C dX5_init_51 rfl ?_
      refine x_bipush (8 : Int32) C dX5_init_52 rfl ?_
      refine x_icmp_ge 76 C dX5_init_54 (by decide) (fun z => absurd ((nleI (a := 8) (b := cc0) rfl rfl (by decide) (by omega)).mp z) (by omega)) (fun _ => ?_)
      refine x_aload_n C dX5_init_57 rfl ?_
      refine x_get (.ref (a + 1)) C fl_X5_11 (hL.zero (by omega) rfl) rfl dX5_init_58 ?_
      refine x_iload_n C dX5_init_61 rfl ?_
      refine x_new C cf_X9 kl_X5_9 in_9 ii_9 df_9 (by show _ ≤ 326; omega) (by show _ ≤ 2021; omega) dX5_init_62 (fun H1 h1 hz ho => ?_)
      refine x_dup C dX5_init_65 rfl ?_
      refine x_goM (fun ls h => x_runJ (As := []) [.ref H.size, .int (nI cc0), .ref (a + 1)] h C mi_X5_41 (k_X9_init l D cA s0 H.size) ⟨rfl, rfl, nb rfl, nb rfl⟩ rfl (Lay.one h1 hz) (nb rfl) ⟨by show _ ≤ 326; omega, by show _ ≤ 2021; omega⟩ dX5_init_66) (hS.grow hz ho) (fun q hq => by unfold xA0 at hq ⊢; omega) (fun H2 locs2 hw2 hz2 hk2 hS2 => ?_)
      have hk3 : ∀ q : Nat, q < a + (6 + 2 * cc0) → H2[q]? = H[q]? := fun q hq => (hk2 q (by omega) (by unfold xA0; omega)).trans (ho q (by omega))
      have hw3 : Lay D _ (a + (6 + 2 * cc0)) 2 H2 := hz0 ▸ hw2
      have hL2 := hL.app hw3 hk3
      have hv := hw2.zero (by decide) rfl
      refine x_astq (t := 3) (k := cc0) C (hL2.at 1 (by omega) (show _ = _ from if_pos (by omega))) rfl hv (cf_X9).1 rfl (by omega) (by decide) dX5_init_69 hS2 (X 1) (fun H3 locs3 h3 ho3 hz3 hS3 => ?_)
      have hL3 := hL2.set 1 h3 ho3 hz3
      refine x_iinc (nI (cc0 + 1)) [(1, .int (nI (cc0 + 1))), (0, .ref a)] C dX5_init_70 rfl (by rw [nI_succ]; rfl) (by decide) rfl ?_
      refine x_goto 51 C dX5_init_73 (by decide) ?_
      refine x_widen (k := 5 + 2 * (cc0 + 1)) (n := 169 + 10 * (cc0 + 1)) (by omega) (by omega) ?_
      refine ih (cc0 + 1) (by omega) H3 locs3 ?_ hS3
      rw [show 6 + 2 * (cc0 + 1) = 6 + 2 * cc0 + 2 by omega]
      refine hL3.congr (fun o ho => ?_)
      by_cases q : o = 1
      · rw [if_pos q, q]
        show Sum.inl (cA 3, 8, Sum.inr (Sum.inr (Sum.inr (Sum.inr (va_up (pf a 6 2 cc0) cc0 (some H.size)))))) = Sum.inl (cA 3, 8, Sum.inr (Sum.inr (Sum.inr (Sum.inr (pf a 6 2 (cc0 + 1))))))
        rw [pf_up hz0]
      · rw [if_neg q]
        by_cases q2 : o < 6 + 2 * cc0
        · rw [if_pos q2]
          exact LE_low (j := 1) (by decide) q (fun z => absurd rfl z) (fun _ => rfl) (fun _ => rfl) (fun _ => rfl) (fun _ => rfl)
        · rw [if_neg q2, LE_row (by omega)]
          by_cases q3 : o = 6 + 2 * cc0
          · subst q3
            rw [RE_1 (by omega) (by omega) (by omega), Nat.sub_self]
            rfl
          · rw [RE_1a (by omega) (by omega) (by omega)]
            exact if_neg (by omega)
  refine x_aload_n C dX5_init_0 rfl ?_
  refine x_obj C oi_X5_3 oi_i oi_c (nb rfl) (nb rfl) dX5_init_1 ?_
  refine x_aload_n C dX5_init_4 rfl ?_
  refine x_bipush (8 : Int32) C dX5_init_5 rfl ?_
  refine x_newaQ (N := 8) (t := 3) C hAO.1 rfl kl_X5_9 rfl (by decide) (nb rfl) (nb rfl) dX5_init_7 (fun H1 h1 hz ho => ?_)
  have hS := hS.grow hz ho
  have ea := hL.1
  have hL := hL.push h1 hz ho
  rw [ea]
  refine x_putF C fl_X5_11 (hL.zero (by decide) rfl) rfl hin rfl rfl rfl (nb rfl) dX5_init_10 hS (Nat.le_refl _) (fun H2 locs2 h2 ho2 hz2 hS => ?_)
  have hL := hL.set 0 h2 ho2 hz2
  refine x_aload_n C dX5_init_13 rfl ?_
  refine x_bipush (40 : Int32) C dX5_init_14 rfl ?_
  refine x_newaQ (N := 40) (t := 4) C hAO.2.1 rfl kl_X5_17 rfl (by decide) (nb rfl) (nb rfl) dX5_init_16 (fun H1 h1 hz ho => ?_)
  have hS := hS.grow hz ho
  have ea := hL.1
  have hL := hL.push h1 hz ho
  rw [ea]
  refine x_putF C fl_X5_19 (hL.zero (by decide) rfl) rfl hin rfl rfl rfl (nb rfl) dX5_init_19 hS (Nat.le_refl _) (fun H2 locs2 h2 ho2 hz2 hS => ?_)
  have hL := hL.set 0 h2 ho2 hz2
  refine x_aload_n C dX5_init_22 rfl ?_
  refine x_bipush (60 : Int32) C dX5_init_23 rfl ?_
  refine x_newaQ (N := 60) (t := 5) C hAO.2.2.1 rfl kl_X5_23 rfl (by decide) (nb rfl) (nb rfl) dX5_init_25 (fun H1 h1 hz ho => ?_)
  have hS := hS.grow hz ho
  have ea := hL.1
  have hL := hL.push h1 hz ho
  rw [ea]
  refine x_putF C fl_X5_25 (hL.zero (by decide) rfl) rfl hin rfl rfl rfl (nb rfl) dX5_init_28 hS (Nat.le_refl _) (fun H2 locs2 h2 ho2 hz2 hS => ?_)
  have hL := hL.set 0 h2 ho2 hz2
  refine x_aload_n C dX5_init_31 rfl ?_
  refine x_bipush (40 : Int32) C dX5_init_32 rfl ?_
  refine x_newaQ (N := 40) (t := 6) C hAO.2.2.2.1 rfl kl_X5_29 rfl (by decide) (nb rfl) (nb rfl) dX5_init_34 (fun H1 h1 hz ho => ?_)
  have hS := hS.grow hz ho
  have ea := hL.1
  have hL := hL.push h1 hz ho
  rw [ea]
  refine x_putF C fl_X5_31 (hL.zero (by decide) rfl) rfl hin rfl rfl rfl (nb rfl) dX5_init_37 hS (Nat.le_refl _) (fun H2 locs2 h2 ho2 hz2 hS => ?_)
  have hL := hL.set 0 h2 ho2 hz2
  refine x_aload_n C dX5_init_40 rfl ?_
  refine x_bipush (21 : Int32) C dX5_init_41 rfl ?_
  refine x_newaQ (N := 21) (t := 7) C hAO.2.2.2.2.1 rfl kl_X5_35 rfl (by decide) (nb rfl) (nb rfl) dX5_init_43 (fun H1 h1 hz ho => ?_)
  have hS := hS.grow hz ho
  have ea := hL.1
  have hL := hL.push h1 hz ho
  rw [ea]
  refine x_putF C fl_X5_37 (hL.zero (by decide) rfl) rfl hin rfl rfl rfl (nb rfl) dX5_init_46 hS (Nat.le_refl _) (fun H2 locs2 h2 ho2 hz2 hS => ?_)
  have hL := hL.set 0 h2 ho2 hz2
  refine x_iconst (0 : Int32) C dX5_init_49 rfl ?_
  refine x_istore_n [(1, .int (nI 0)), (0, .ref a)] C dX5_init_50 rfl (by decide) rfl ?_
  refine hl1 8 0 (by decide) _ _ (hL.congr ?_) hS
  intro o ho
  match o, ho with
  | 0, _ => rfl
  | 1, _ => rfl
  | 2, _ => rfl
  | 3, _ => rfl
  | 4, _ => rfl
  | 5, _ => rfl
  | o + 6, h => exact absurd h (by omega)
