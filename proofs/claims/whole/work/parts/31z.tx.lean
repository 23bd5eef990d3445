/-! Bytes.textAt. -/
theorem dgs_enc : ∀ (n m : Nat) (h : Nat → Nat), n ≤ m → (∀ j, j < n → 0 < h j ∧ h j < 256) → (dgs m (enc n h)).length = n ∧ ∀ j, j < n → (dgs m (enc n h)).getD j 0 = h j := by
  intro n
  induction n with
  | zero =>
    intro m h hm hh
    refine ⟨?_, fun j hj => absurd hj (by omega)⟩
    cases m with
    | zero => rfl
    | succ m => rfl
  | succ n ih =>
    intro m h hm hh
    obtain ⟨m, rfl⟩ : ∃ k, m = k + 1 := ⟨m - 1, by omega⟩
    obtain ⟨i1, i2⟩ := ih m (fun j => h (j + 1)) (by omega) (fun j hj => hh (j + 1) (by omega))
    have h0 := hh 0 (by omega)
    have e0 : enc (n + 1) h = h 0 + 256 * enc n (fun j => h (j + 1)) := rfl
    have U : dgs (m + 1) (enc (n + 1) h) = h 0 :: dgs m (enc n (fun j => h (j + 1))) := by
      show (if enc (n + 1) h = 0 then [] else enc (n + 1) h % 256 :: dgs m (enc (n + 1) h / 256)) = _
      rw [e0]
      generalize enc n (fun j => h (j + 1)) = c
      rw [if_neg (by omega), show (h 0 + 256 * c) % 256 = h 0 by omega, show (h 0 + 256 * c) / 256 = c by omega]
    rw [U]
    refine ⟨by rw [List.length_cons, i1], fun j hj => ?_⟩
    cases j with
    | zero => rfl
    | succ j => exact i2 j (by omega)
theorem slen_enc {n : Nat} {h : Nat → Nat} (hn : n ≤ 16) (hh : ∀ j, j < n → 0 < h j ∧ h j < 256) : slen (enc n h) = n := (dgs_enc n 16 h hn hh).1
theorem schar_enc {n : Nat} {h : Nat → Nat} (hn : n ≤ 16) (hh : ∀ j, j < n → 0 < h j ∧ h j < 256) {j : Nat} (hj : j < n) : schar (enc n h) j = nI (h j) := congrArg nI ((dgs_enc n 16 h hn hh).2 j hj)
theorem cl0 {n : Nat} (h : n < 2 ^ 31) : cl (nI n) = n := nI_clamp h
section TXA
variable {p : Program} {l : Launch} {e : Env} {R : Room} {s : State} {m : MethodId} {args : Array Value} {below : List Frame} {meth : Method} {c : Code} {nL : Nat} {Q : State → Prop} {H : Heap} {locs : List Loc} {cells slots : Nat} {pc : Nat} {lv : List (Nat × Value)} {st : List Value}
  {D : va_G} {cA : Nat → ClassId} {s0 : State} {own : String} {cc : ByteArray} {rt : Option FieldType}
theorem x_aretMS {v z k mc ms : Nat} {n : String} (C : xC D cA s0 own cc nL rt p s m args meth c) (hr : rt = some (.object n)) (hd : decode cc pc = .ok (.areturn, 1)) {Wd : Heap → Prop} {A : Nat → Prop} (hw : Wd H) (hst : Str D cA s0 z v k H) (hS : va_S A s.heap H locs) (hc : cells ≤ mc) (hs : slots ≤ ms) : xW p l e R s m args below meth c nL (MQ below (xQmS D cA s0 z k Wd A) args s mc ms A) H locs cells slots pc lv [.ref v] := fun ls hl =>
  W.widen hc hs (W.aret C.1 C.2.1 (C.2.2.1.trans hr) (Or.inl ⟨_, rfl⟩) (Or.inr ⟨_, rfl⟩) (fun t ht hW => ⟨v, rfl, by rw [ht]; exact ⟨hw, hst⟩, hS.F ht⟩) hS.2.2 hd C.2.2.2.2.2.2.1)
set_option maxRecDepth 20000 in
set_option maxHeartbeats 4000000 in
theorem tx_loop {z b o f len : Nat} {ν : Mm} (C : xC D cA s0 RX1 cX1_textAt 5 rt p s m args meth c) (hG : xG l D cA s0) (hpo : isByt o) (hw : WC D cA s0 z b ν s.heap) (hl6 : len ≤ 6) (hl8 : f + len ≤ 800) (hlt : ∀ j, j < len → nI (f + j) < ν.1 o 2) (hby : ∀ j, j < len → ∃ d, 0 < d ∧ d < 128 ∧ ν.1 (o + 2) (f + j) = nI d)
    (kk : ∀ (H : Heap) (locs : List Loc) (g : Nat → Int32), SbH D cA s0 s.heap.size (s.heap.size + 1) len g H → (∀ i, i < len → g i = ν.1 (o + 2) (f + i)) → s.heap.size + 2 ≤ H.size → (∀ q : Nat, q < s.heap.size → H[q]? = s.heap[q]?) → va_S (xA b 2564 s.heap.size) s.heap H locs → xW p l e { frames := 8, cells := 4, slots := 40, locals := 300 } s m args below meth c 5 Q H locs 2 20 39 [(4, .int (nI (f + len))), (3, .ref s.heap.size), (0, .ref (b + o)), (1, .int (nI f)), (2, .int (nI (f + len)))] []) :
    ∀ (d k : Nat), k + d = len → ∀ (H : Heap) (locs : List Loc) (g : Nat → Int32), SbH D cA s0 s.heap.size (s.heap.size + 1) k g H → (∀ i, i < k → g i = ν.1 (o + 2) (f + i)) → s.heap.size + 2 ≤ H.size → (∀ q : Nat, q < s.heap.size → H[q]? = s.heap[q]?) → va_S (xA b 2564 s.heap.size) s.heap H locs → xW p l e { frames := 8, cells := 4, slots := 40, locals := 300 } s m args below meth c 5 Q H locs 2 20 11 [(4, .int (nI (f + k))), (3, .ref s.heap.size), (0, .ref (b + o)), (1, .int (nI f)), (2, .int (nI (f + len)))] [] := by
  intro d
  induction d with
  | zero =>
    intro k hk H locs g h1 h2 h3 h4 hS
    have ek : k = len := by omega
    subst ek
    refine x_iload C dX1_textAt_11 rfl ?_
    refine x_iload_n C dX1_textAt_13 rfl ?_
    refine x_icmp_ge 39 C dX1_textAt_14 (by decide) (fun _ => ?_) (fun z => absurd (Int32.le_refl _) z)
    exact kk H locs g h1 h2 h3 h4 hS
  | succ d ih =>
    intro k hk H locs g h1 h2 h3 h4 hS
    obtain ⟨dd, hd0, hd1, hd2⟩ := hby k (by omega)
    have hwH : WC D cA s0 z b ν H := hw.ext (by omega) h4
    have hB : g_X1_byteAt ν o (nI (f + k)) = some (nI dd) := by
      unfold g_X1_byteAt
      rw [asr_pos hpo, if_neg (nI_pos (by omega)), if_neg (fun z => absurd (hlt k (by omega)) (Int32.not_lt.mpr z)), asr_pos (vp_in_nI (show f + k < szB o by rcases hpo with rfl | rfl <;> (show f + k < _; first | (exact Nat.lt_of_lt_of_le (show f + k < 800 by omega) (by decide)))) (szB_31)), cl0 (n := f + k) (by omega), hd2]
    refine x_iload C dX1_textAt_11 rfl ?_
    refine x_iload_n C dX1_textAt_13 rfl ?_
    refine x_icmp_ge 39 C dX1_textAt_14 (by decide) (fun z => absurd z (Int32.not_le.mpr ((nI_ltI (by omega) (by omega)).mpr (by omega)))) (fun _ => ?_)
    refine x_aload_n C dX1_textAt_17 rfl ?_
    refine x_aload_n C dX1_textAt_18 rfl ?_
    refine x_iload C dX1_textAt_19 rfl ?_
    refine x_goR (fun ls h => x_runV (As := [.int (nI (f + k))]) [.ref s.heap.size] h C ml_X1_38 (k_X1_byteAt l D cA s0 z b ν hG o (nI (f + k)) (nI dd) hB) ⟨rfl, rfl, nb rfl, nb rfl⟩ rfl (C_Byt hpo hwH) rfl hwH (nb rfl) ⟨nb rfl, nb rfl⟩ dX1_textAt_21) ?_
    refine x_sipush (255 : Int32) C dX1_textAt_24 rfl ?_
    refine x_iand C dX1_textAt_27 ?_
    refine x_i2c C dX1_textAt_28 ?_
    refine x_topi (nI dd) (sc_and hd1).1 ?_
    refine x_goM (fun ls h => x_runV (As := [.int (nI dd)]) [] h C ml_X1_42 (kJ_append4 l D cA s0 hG.2.2.1 s.heap.size (s.heap.size + 1) k g (by omega) hd1) ⟨rfl, rfl, nb rfl, nb rfl⟩ rfl h1.2.1 rfl h1 (nb rfl) ⟨nb rfl, nb rfl⟩ dX1_textAt_29) hS (fun x h => Or.inr (by have h' : x = s.heap.size ∨ x = s.heap.size + 1 := h; omega)) (fun H3 locs3 g1 g2 g3 hS => ?_)
    refine x_pop C dX1_textAt_32 rfl ?_
    refine x_iinc (nI (f + (k + 1))) [(4, .int (nI (f + (k + 1)))), (3, .ref s.heap.size), (0, .ref (b + o)), (1, .int (nI f)), (2, .int (nI (f + len)))] C dX1_textAt_33 rfl (nI_1 (f + k)) (by decide) rfl ?_
    refine x_goto 11 C dX1_textAt_36 (by decide) ?_
    refine ih (k + 1) (by omega) H3 locs3 _ g1 (fun i hi => ?_) (by omega) (fun q hq => ?_) hS
    · unfold upd
      by_cases e : i = k
      · rw [if_pos e, e, hd2]
      · rw [if_neg e]
        exact h2 i (by omega)
    · exact (g3 q (by omega) (fun z => by have h' : q = s.heap.size ∨ q = s.heap.size + 1 := z; omega)).trans (h4 q hq)
end TXA
set_option maxRecDepth 20000 in
set_option maxHeartbeats 4000000 in
theorem k_X1_textAt (l : Launch) (D : va_G) (cA : Nat → ClassId) (s0 : State) (z : Nat) (b : Nat) (ν : Mm) (sz : Nat) (hG : xG l D cA s0) (o : Nat) (a1 : Int32) (a2 : Int32) (r : Nat × Mm) (hF : g_X1_textAt ν o a1 a2 = some r) : Met l yX1_textAt (wsG yX1_textAt cX1_textAt 5 (some (.object "java/lang/String"))) { frames := 8, cells := 4, slots := 40, locals := 300 } (xP D cA s0 [.ref (b + o), .int a1, .int a2] (fun H => H.size = sz ∧ WC D cA s0 z b ν H)) (xQmS D cA s0 z r.1 (fun H => WC D cA s0 z b r.2 H) (xA b 2564 sz)) 4 40 (xA b 2564 sz) := by
  obtain ⟨hpo, hF⟩ := asr_e hF
  obtain ⟨⟨f, len, e1, e2, hl6, hl8, hlt, hby⟩, hF⟩ := asr_e hF
  have hr := Option.some.inj hF
  subst hr
  subst e1
  subst e2
  refine x_start (own := RX1) [(0, .ref (b + o)), (1, .int (nI f)), (2, .int (nI (f + len)))] rfl rfl (by decide) (nb rfl) ?_
  intro p e s m args below meth c C hw
  obtain ⟨hsz, hw⟩ := hw
  subst hsz
  have hZ : xSt s0 := hG.2.2.1
  obtain ⟨hb1, hb2, hb3, hxt, -⟩ := id hw
  have hS : va_S (xA b 2564 s.heap.size) s.heap s.heap [] := va_S.rf
  refine x_new (fs := [.null, .int 0, .int 0, .int 0]) C cf_J4 kl_X1_35 in_J4 ii_J4 (fun j hj => ?_) (nb rfl) (nb rfl) dX1_textAt_0 (fun H1 h1 z1 o1 => ?_)
  · match j, hj with
    | 0, _ => rfl
    | 1, _ => rfl
    | 2, _ => rfl
    | 3, _ => rfl
    | j + 4, h => exact absurd h (by omega)
  have hS := sb_grow hS z1 o1
  refine x_dup C dX1_textAt_3 rfl ?_
  refine x_goM (fun ls h => x_runI (As := []) [.ref s.heap.size] h C mi_X1_37 (kJ_init4 l D cA s0 hZ s.heap.size (by omega)) ⟨rfl, rfl, nb rfl, nb rfl⟩ rfl ⟨sb_ext hxt (by omega) (fun r hr => o1 r (by omega)), h1, z1⟩ (nb rfl) ⟨nb rfl, nb rfl⟩ dX1_textAt_4) hS (fun q h => Or.inr h) (fun H2 locs2 h2 z2 o2 hS => ?_)
  refine x_astore_n [(3, .ref s.heap.size), (0, .ref (b + o)), (1, .int (nI f)), (2, .int (nI (f + len)))] C dX1_textAt_7 rfl (by decide) rfl ?_
  refine x_iload_n C dX1_textAt_8 rfl ?_
  refine x_istore [(4, .int (nI f)), (3, .ref s.heap.size), (0, .ref (b + o)), (1, .int (nI f)), (2, .int (nI (f + len)))] C dX1_textAt_9 (by decide) rfl ?_
  refine tx_loop (o := o) (f := f) (len := len) C hG hpo hw hl6 hl8 hlt hby ?_ len 0 (by omega) H2 locs2 (fun _ => 0) h2.1 (fun i hi => absurd hi (by omega)) (by omega) (fun q hq => ?_) hS
  rotate_left
  · exact (o2 q (by omega) (fun z => by have h' : s.heap.size ≤ q := z; omega)).trans (o1 q hq)
  intro H locs g h1 h2 h3 h4 hS
  have D0 : ∀ i, i < len → ∃ d, 0 < d ∧ d < 128 ∧ g i = nI d := fun i hi => by
    obtain ⟨d, x1, x2, x3⟩ := hby i hi
    exact ⟨d, x1, x2, (h2 i hi).trans x3⟩
  have es : nI (f + len) - nI f = nI len := by rw [Nat.add_comm f len, ← nI_add, Int32.add_sub_cancel]
  have ec : enc (cl (nI (f + len) - nI f)) (fun j => cl (ν.1 (o + 2) (cl (nI f) + j))) = enc len (fun j => cl (ν.1 (o + 2) (f + j))) := by
    rw [es, cl0 (n := len) (by omega), cl0 (n := f) (by omega)]
  have cb : ∀ j, j < len → 0 < cl (ν.1 (o + 2) (f + j)) ∧ cl (ν.1 (o + 2) (f + j)) < 256 ∧ nI (cl (ν.1 (o + 2) (f + j))) = g j := fun j hj => by
    obtain ⟨d, x1, x2, x3⟩ := hby j hj
    rw [x3, cl0 (n := d) (by omega), h2 j hj, x3]
    exact ⟨x1, by omega, rfl⟩
  have SL : slen (enc len (fun j => cl (ν.1 (o + 2) (f + j)))) = len := slen_enc (by omega) (fun j hj => ⟨(cb j hj).1, (cb j hj).2.1⟩)
  have SC : ∀ j, j < len → schar (enc len (fun j => cl (ν.1 (o + 2) (f + j)))) j = g j := fun j hj => (schar_enc (h := fun j => cl (ν.1 (o + 2) (f + j))) (by omega) (fun j hj => ⟨(cb j hj).1, (cb j hj).2.1⟩) hj).trans (cb j hj).2.2
  show xW p l e _ s m args below meth c 5 (MQ below (xQmS D cA s0 z (enc (cl (nI (f + len) - nI f)) (fun j => cl (ν.1 (o + 2) (cl (nI f) + j)))) (fun H => WC D cA s0 z b ν H) (xA b 2564 s.heap.size)) args s 4 40 (xA b 2564 s.heap.size)) H locs 2 20 39 _ []
  rw [ec]
  refine x_aload_n C dX1_textAt_39 rfl ?_
  refine x_goM (fun ls h => x_runV (As := []) [] h C ml_X1_46 (kJ_toString l D cA s0 hZ H.size s.heap.size (s.heap.size + 1) len g (by omega) (by omega) (by omega) (fun i hi => by
    obtain ⟨d, x1, x2, x3⟩ := D0 i hi
    rw [x3]
    exact (sb_d x2).2.2.2)) ⟨rfl, rfl, nb rfl, nb rfl⟩ rfl h1.2.1 rfl ⟨h1, rfl⟩ (nb rfl) ⟨nb rfl, by show 20 + (4 + len) ≤ 40; omega⟩ dX1_textAt_40) hS (fun x h => Or.inr (by have h' : H.size ≤ x := h; omega)) (fun H3 locs3 g1 g2 g3 hS => ?_)
  refine x_aretMS C rfl dX1_textAt_43 ?_ ⟨fun j hj => ?_, Or.inr (by omega), H.size + 1, Or.inr (by omega), str_of C g1 SL SC⟩ hS (nb rfl) (by show 20 + (4 + len) ≤ 40; omega)
  · exact hw.ext (by omega) (fun q hq => (g3 q (by omega) (fun z => by have h' : H.size ≤ q := z; omega)).trans (h4 q hq))
  · rw [SL] at hj
    obtain ⟨d, x1, x2, x3⟩ := D0 j hj
    exact ⟨d, x2, (SC j hj).trans x3⟩
