/-! What the contracts of the partial functions rest on. -/
theorem ac_X4_15 : xAC RX4 15 := ⟨gW_in (gT3 (List.mem_of_getElem? (i := 194) (by decide +kernel))) (by decide +kernel), gW_in (gT3 (List.mem_of_getElem? (i := 185) (by decide +kernel))) (by decide +kernel), gW_in (gT3 (List.mem_of_getElem? (i := 184) (by decide +kernel))) (by decide +kernel), gW_in (gT1 (List.mem_of_getElem? (i := 24) (by decide +kernel))) (by decide +kernel)⟩
theorem ac_X9_15 : xAC RX9 15 := ⟨gW_in (gT3 (List.mem_of_getElem? (i := 183) (by decide +kernel))) (by decide +kernel), gW_in (gT3 (List.mem_of_getElem? (i := 185) (by decide +kernel))) (by decide +kernel), gW_in (gT3 (List.mem_of_getElem? (i := 184) (by decide +kernel))) (by decide +kernel), gW_in (gT1 (List.mem_of_getElem? (i := 24) (by decide +kernel))) (by decide +kernel)⟩
theorem ac_X10_50 : xAC RX10 50 := ⟨gW_in (gT3 (List.mem_of_getElem? (i := 203) (by decide +kernel))) (by decide +kernel), gW_in (gT3 (List.mem_of_getElem? (i := 185) (by decide +kernel))) (by decide +kernel), gW_in (gT3 (List.mem_of_getElem? (i := 184) (by decide +kernel))) (by decide +kernel), gW_in (gT1 (List.mem_of_getElem? (i := 24) (by decide +kernel))) (by decide +kernel)⟩
theorem xl_X7_62 : (RX7, 62, 126879296744563) ∈ xlits := List.mem_of_getElem? (i := 0) (by decide +kernel)
theorem xl_X7_72 : (RX7, 72, 1650551923) ∈ xlits := List.mem_of_getElem? (i := 1) (by decide +kernel)
theorem xl_X7_74 : (RX7, 74, 1684955490) ∈ xlits := List.mem_of_getElem? (i := 2) (by decide +kernel)
theorem xl_X7_84 : (RX7, 84, 111550524450162) ∈ xlits := List.mem_of_getElem? (i := 3) (by decide +kernel)
theorem xl_X7_89 : (RX7, 89, 435745415543) ∈ xlits := List.mem_of_getElem? (i := 4) (by decide +kernel)
theorem xl_X7_94 : (RX7, 94, 7954796) ∈ xlits := List.mem_of_getElem? (i := 5) (by decide +kernel)
theorem xl_X7_99 : (RX7, 99, 1885956211) ∈ xlits := List.mem_of_getElem? (i := 6) (by decide +kernel)
theorem xl_X7_104 : (RX7, 104, 1819042147) ∈ xlits := List.mem_of_getElem? (i := 7) (by decide +kernel)
theorem xl_X7_127 : (RX7, 127, 1702125938) ∈ xlits := List.mem_of_getElem? (i := 8) (by decide +kernel)
theorem xl_X7_141 : (RX7, 141, 32772479037629808) ∈ xlits := List.mem_of_getElem? (i := 9) (by decide +kernel)
theorem xl_X7_146 : (RX7, 146, 431199119718) ∈ xlits := List.mem_of_getElem? (i := 10) (by decide +kernel)
theorem xl_X7_151 : (RX7, 151, 1701147238) ∈ xlits := List.mem_of_getElem? (i := 11) (by decide +kernel)
theorem xl_X7_156 : (RX7, 156, 435459551856) ∈ xlits := List.mem_of_getElem? (i := 12) (by decide +kernel)
theorem xl_X7_180 : (RX7, 180, 1936617332) ∈ xlits := List.mem_of_getElem? (i := 13) (by decide +kernel)
theorem xl_X7_189 : (RX7, 189, 28532) ∈ xlits := List.mem_of_getElem? (i := 14) (by decide +kernel)
theorem xl_X8_56 : (RX8, 56, 32) ∈ xlits := List.mem_of_getElem? (i := 15) (by decide +kernel)
theorem xl_X8_79 : (RX8, 79, 2334381286354218601) ∈ xlits := List.mem_of_getElem? (i := 16) (by decide +kernel)
theorem xl_X8_81 : (RX8, 81, 35667176878880) ∈ xlits := List.mem_of_getElem? (i := 17) (by decide +kernel)
theorem xl_X8_87 : (RX8, 87, 35650046878496) ∈ xlits := List.mem_of_getElem? (i := 18) (by decide +kernel)
theorem xl_X8_92 : (RX8, 92, 35620116325408) ∈ xlits := List.mem_of_getElem? (i := 19) (by decide +kernel)
theorem xl_X8_108 : (RX8, 108, 544499054) ∈ xlits := List.mem_of_getElem? (i := 20) (by decide +kernel)
theorem xl_X8_110 : (RX8, 110, 35658520358688) ∈ xlits := List.mem_of_getElem? (i := 21) (by decide +kernel)
theorem xl_X8_132 : (RX8, 132, 1851984991346003960608) ∈ xlits := List.mem_of_getElem? (i := 22) (by decide +kernel)
theorem xl_X8_134 : (RX8, 134, 139442744864) ∈ xlits := List.mem_of_getElem? (i := 23) (by decide +kernel)
theorem xl_X8_136 : (RX8, 136, 139374982500) ∈ xlits := List.mem_of_getElem? (i := 24) (by decide +kernel)
theorem xl_X8_138 : (RX8, 138, 9118749779191154) ∈ xlits := List.mem_of_getElem? (i := 25) (by decide +kernel)
theorem xl_X8_140 : (RX8, 140, 35620117504375) ∈ xlits := List.mem_of_getElem? (i := 26) (by decide +kernel)
theorem xl_X8_142 : (RX8, 142, 544825708) ∈ xlits := List.mem_of_getElem? (i := 27) (by decide +kernel)
theorem xl_X8_148 : (RX8, 148, 495957664800) ∈ xlits := List.mem_of_getElem? (i := 28) (by decide +kernel)
theorem xl_X8_171 : (RX8, 171, 2336927755350992246) ∈ xlits := List.mem_of_getElem? (i := 29) (by decide +kernel)
theorem xl_X8_179 : (RX8, 179, 11417657570058) ∈ xlits := List.mem_of_getElem? (i := 30) (by decide +kernel)
theorem xl_X8_181 : (RX8, 181, 753057040345887498) ∈ xlits := List.mem_of_getElem? (i := 31) (by decide +kernel)
theorem xl_X8_186 : (RX8, 186, 139123908962) ∈ xlits := List.mem_of_getElem? (i := 32) (by decide +kernel)
theorem xl_X8_191 : (RX8, 191, 35620116328992) ∈ xlits := List.mem_of_getElem? (i := 33) (by decide +kernel)
theorem xl_X8_206 : (RX8, 206, 598685564992338882592) ∈ xlits := List.mem_of_getElem? (i := 34) (by decide +kernel)
theorem xl_X8_211 : (RX8, 211, 10024892076463357237700813175) ∈ xlits := List.mem_of_getElem? (i := 35) (by decide +kernel)
theorem xl_X8_216 : (RX8, 216, 35619865781792) ∈ xlits := List.mem_of_getElem? (i := 36) (by decide +kernel)
theorem xl_X8_221 : (RX8, 221, 9118676900016160) ∈ xlits := List.mem_of_getElem? (i := 37) (by decide +kernel)
theorem xl_X8_226 : (RX8, 226, 597602182112141205868) ∈ xlits := List.mem_of_getElem? (i := 38) (by decide +kernel)
theorem xl_X8_234 : (RX8, 234, 191701742837314380576) ∈ xlits := List.mem_of_getElem? (i := 39) (by decide +kernel)
theorem xl_X8_236 : (RX8, 236, 10) ∈ xlits := List.mem_of_getElem? (i := 40) (by decide +kernel)
theorem xl_X12_128 : (RX12, 128, 126879296744563) ∈ xlits := List.mem_of_getElem? (i := 41) (by decide +kernel)
theorem xl_X12_130 : (RX12, 130, 1650551923) ∈ xlits := List.mem_of_getElem? (i := 42) (by decide +kernel)
theorem xl_X12_132 : (RX12, 132, 1684955490) ∈ xlits := List.mem_of_getElem? (i := 43) (by decide +kernel)
theorem xl_X12_134 : (RX12, 134, 1702125938) ∈ xlits := List.mem_of_getElem? (i := 44) (by decide +kernel)
theorem xl_X12_136 : (RX12, 136, 111550524450162) ∈ xlits := List.mem_of_getElem? (i := 45) (by decide +kernel)
theorem xl_X12_138 : (RX12, 138, 32772479037629808) ∈ xlits := List.mem_of_getElem? (i := 46) (by decide +kernel)
theorem xl_X12_140 : (RX12, 140, 435745415543) ∈ xlits := List.mem_of_getElem? (i := 47) (by decide +kernel)
theorem xl_X12_142 : (RX12, 142, 431199119718) ∈ xlits := List.mem_of_getElem? (i := 48) (by decide +kernel)
theorem xl_X12_144 : (RX12, 144, 1701147238) ∈ xlits := List.mem_of_getElem? (i := 49) (by decide +kernel)
theorem xl_X12_146 : (RX12, 146, 435459551856) ∈ xlits := List.mem_of_getElem? (i := 50) (by decide +kernel)
theorem xl_X12_148 : (RX12, 148, 7954796) ∈ xlits := List.mem_of_getElem? (i := 51) (by decide +kernel)
theorem xl_X12_150 : (RX12, 150, 1885956211) ∈ xlits := List.mem_of_getElem? (i := 52) (by decide +kernel)
theorem xl_X12_152 : (RX12, 152, 1936617332) ∈ xlits := List.mem_of_getElem? (i := 53) (by decide +kernel)
theorem xl_X12_154 : (RX12, 154, 1819042147) ∈ xlits := List.mem_of_getElem? (i := 54) (by decide +kernel)
theorem xl_X12_156 : (RX12, 156, 28532) ∈ xlits := List.mem_of_getElem? (i := 55) (by decide +kernel)
theorem xl_X12_466 : (RX12, 466, 139374982500) ∈ xlits := List.mem_of_getElem? (i := 56) (by decide +kernel)
theorem xl_X12_468 : (RX12, 468, 9118749779191154) ∈ xlits := List.mem_of_getElem? (i := 57) (by decide +kernel)
theorem xl_X12_470 : (RX12, 470, 35620117504375) ∈ xlits := List.mem_of_getElem? (i := 58) (by decide +kernel)
theorem xl_X12_472 : (RX12, 472, 544825708) ∈ xlits := List.mem_of_getElem? (i := 59) (by decide +kernel)
theorem xl_X12_474 : (RX12, 474, 495957664800) ∈ xlits := List.mem_of_getElem? (i := 60) (by decide +kernel)
theorem xl_X12_476 : (RX12, 476, 32) ∈ xlits := List.mem_of_getElem? (i := 61) (by decide +kernel)
theorem xl_X12_489 : (RX12, 489, 1851984991346003960608) ∈ xlits := List.mem_of_getElem? (i := 62) (by decide +kernel)
theorem xl_X12_491 : (RX12, 491, 139442744864) ∈ xlits := List.mem_of_getElem? (i := 63) (by decide +kernel)
theorem xl_X12_493 : (RX12, 493, 2334381286354218601) ∈ xlits := List.mem_of_getElem? (i := 64) (by decide +kernel)
theorem xl_X12_495 : (RX12, 495, 35667176878880) ∈ xlits := List.mem_of_getElem? (i := 65) (by decide +kernel)
theorem xl_X12_497 : (RX12, 497, 35650046878496) ∈ xlits := List.mem_of_getElem? (i := 66) (by decide +kernel)
theorem xl_X12_499 : (RX12, 499, 35620116325408) ∈ xlits := List.mem_of_getElem? (i := 67) (by decide +kernel)
theorem xl_X12_505 : (RX12, 505, 544499054) ∈ xlits := List.mem_of_getElem? (i := 68) (by decide +kernel)
theorem xl_X12_507 : (RX12, 507, 35658520358688) ∈ xlits := List.mem_of_getElem? (i := 69) (by decide +kernel)
theorem xl_X12_509 : (RX12, 509, 7234302100218864416) ∈ xlits := List.mem_of_getElem? (i := 70) (by decide +kernel)
theorem xl_X12_511 : (RX12, 511, 2336927755350992246) ∈ xlits := List.mem_of_getElem? (i := 71) (by decide +kernel)
theorem xl_X12_513 : (RX12, 513, 753057040345887498) ∈ xlits := List.mem_of_getElem? (i := 72) (by decide +kernel)
theorem xl_X12_515 : (RX12, 515, 11417657570058) ∈ xlits := List.mem_of_getElem? (i := 73) (by decide +kernel)
theorem xl_X12_517 : (RX12, 517, 139123908962) ∈ xlits := List.mem_of_getElem? (i := 74) (by decide +kernel)
theorem xl_X12_519 : (RX12, 519, 35620116328992) ∈ xlits := List.mem_of_getElem? (i := 75) (by decide +kernel)
theorem xl_X12_524 : (RX12, 524, 598685564992338882592) ∈ xlits := List.mem_of_getElem? (i := 76) (by decide +kernel)
theorem xl_X12_526 : (RX12, 526, 10024892076463357237700813175) ∈ xlits := List.mem_of_getElem? (i := 77) (by decide +kernel)
theorem xl_X12_528 : (RX12, 528, 35619865781792) ∈ xlits := List.mem_of_getElem? (i := 78) (by decide +kernel)
theorem xl_X12_530 : (RX12, 530, 9118676900016160) ∈ xlits := List.mem_of_getElem? (i := 79) (by decide +kernel)
theorem xl_X12_532 : (RX12, 532, 597602182112141205868) ∈ xlits := List.mem_of_getElem? (i := 80) (by decide +kernel)
theorem thr_k1 : Cond.classLink "PortDues" 408 (exN 1) ∈ gW := gW_in (gT4 (List.mem_of_getElem? (i := 205) (by decide +kernel))) (by decide +kernel)
theorem thr_i1 : Cond.initialized (exN 1) ∈ gW := gW_in (gT1 (List.mem_of_getElem? (i := 26) (by decide +kernel))) (by decide +kernel)
theorem thr_at1 : ∀ w ∈ vx_atS "PortDues" 412 (exN 1) xexP, w ∈ gW ∨ w = .castable (exN 1) (exN 1) ∨ ∃ y ∈ xdcl, w = .declares y := by
  have h : ∀ w ∈ vx_atS "PortDues" 412 (exN 1) xexP, (w ∈ lw_tbl ∧ goodWord w = true) ∨ w = .castable (exN 1) (exN 1) ∨ ∃ y ∈ xdcl, w = .declares y := by decide +kernel
  intro w hw
  rcases h w hw with g | g
  · exact Or.inl (gW_in g.1 g.2)
  · exact Or.inr g
theorem thr_k2 : Cond.classLink "PortDues" 415 (exN 2) ∈ gW := gW_in (gT4 (List.mem_of_getElem? (i := 159) (by decide +kernel))) (by decide +kernel)
theorem thr_i2 : Cond.initialized (exN 2) ∈ gW := gW_in (gT1 (List.mem_of_getElem? (i := 19) (by decide +kernel))) (by decide +kernel)
theorem thr_at2 : ∀ w ∈ vx_atS "PortDues" 419 (exN 2) xexP, w ∈ gW ∨ w = .castable (exN 2) (exN 2) ∨ ∃ y ∈ xdcl, w = .declares y := by
  have h : ∀ w ∈ vx_atS "PortDues" 419 (exN 2) xexP, (w ∈ lw_tbl ∧ goodWord w = true) ∨ w = .castable (exN 2) (exN 2) ∨ ∃ y ∈ xdcl, w = .declares y := by decide +kernel
  intro w hw
  rcases h w hw with g | g
  · exact Or.inl (gW_in g.1 g.2)
  · exact Or.inr g
theorem thr_k3 : Cond.classLink "PortDues" 420 (exN 3) ∈ gW := gW_in (gT4 (List.mem_of_getElem? (i := 70) (by decide +kernel))) (by decide +kernel)
theorem thr_i3 : Cond.initialized (exN 3) ∈ gW := gW_in (gT1 (List.mem_of_getElem? (i := 18) (by decide +kernel))) (by decide +kernel)
theorem thr_at3 : ∀ w ∈ vx_atS "PortDues" 424 (exN 3) xexP, w ∈ gW ∨ w = .castable (exN 3) (exN 3) ∨ ∃ y ∈ xdcl, w = .declares y := by
  have h : ∀ w ∈ vx_atS "PortDues" 424 (exN 3) xexP, (w ∈ lw_tbl ∧ goodWord w = true) ∨ w = .castable (exN 3) (exN 3) ∨ ∃ y ∈ xdcl, w = .declares y := by decide +kernel
  intro w hw
  rcases h w hw with g | g
  · exact Or.inl (gW_in g.1 g.2)
  · exact Or.inr g
theorem slen_31 {c : Nat} : slen c < 2 ^ 31 := by have := slen_le c; omega
theorem szB_31 {o : Nat} : szB o < 2 ^ 31 := by unfold szB; split <;> decide
theorem szB_c {o k : Nat} (h : k < 800) : k < szB o := by unfold szB; split <;> omega
def xG (l : Launch) (D : va_G) (cA : Nat → ClassId) (s0 : State) : Prop := l.stackTraces = false ∧ xThr s0 ∧ xSt s0 ∧ xLit D cA s0 xlits
/-- the model's world -/
def RX (D : va_G) (cA : Nat → ClassId) (s0 : State) (z b : Nat) (μ : Mm) (H : Heap) : Prop := s0.heap.size ≤ b ∧ b + 8 ≤ z ∧ z ≤ H.size ∧ extS s0 H ∧ RM D cA b μ H
def isRow (o : Nat) : Prop := o = 1 ∨ o = 2
theorem M_row {D : va_G} {cA : Nat → ClassId} {b o : Nat} {μ : Mm} {H : Heap} (h : isRow o) (hw : RM D cA b μ H) : va_at D xcl (b + o, .inl (cA 0, 1377, .inl (μ.1 o))) H := by
  rcases h with rfl | rfl
  · exact M_a1 hw
  · exact M_a2 hw
theorem RX.of {D : va_G} {cA : Nat → ClassId} {s0 : State} {z b : Nat} {μ μ1 : Mm} {H H1 : Heap} (hw : RX D cA s0 z b μ H) (h : RM D cA b μ1 H1) (hz : H.size ≤ H1.size) (hk : ∀ q : Nat, q < H.size → ¬ xA b 8 H.size q → H1[q]? = H[q]?) : RX D cA s0 z b μ1 H1 :=
  ⟨hw.1, hw.2.1, Nat.le_trans hw.2.2.1 hz, ⟨Nat.le_trans hw.2.2.2.1.1 hz, fun q hq => (hk q (Nat.lt_of_lt_of_le hq hw.2.2.2.1.1) (fun z' => z'.elim (fun g => absurd (Nat.lt_of_lt_of_le hq hw.1) (by omega)) (fun g => absurd (Nat.lt_of_lt_of_le hq hw.2.2.2.1.1) (by omega)))).trans (hw.2.2.2.1.2 q hq)⟩, h⟩
theorem RX.upd {D : va_G} {cA : Nat → ClassId} {s0 : State} {z b off : Nat} {μ μ1 : Mm} {H H1 : Heap} (hw : RX D cA s0 z b μ H) (ho : off < 8) (h : RM D cA b μ1 H1) (hq : ∀ q : Nat, q ≠ b + off → H1[q]? = H[q]?) (hs : H1.size = H.size) : RX D cA s0 z b μ1 H1 :=
  RX.of hw h (by rw [hs]; exact Nat.le_refl _) (fun q _ hn => hq q (fun e => hn (Or.inl (by omega))))
/-- the end of a method that answers a text -/
def xQrS (D : va_G) (cA : Nat → ClassId) (s0 : State) (z k : Nat) : Array Value → State → Outcome → State → Prop := fun _ st o t => ∃ a, o = .returned (some (.ref a)) ∧ Str D cA s0 z a k st.heap ∧ t.heap = st.heap
def xQmS (D : va_G) (cA : Nat → ClassId) (s0 : State) (z k : Nat) (Wd : Heap → Prop) (A : Nat → Prop) : Array Value → State → Outcome → State → Prop := fun _ st o t => ∃ a, o = .returned (some (.ref a)) ∧ (Wd t.heap ∧ Str D cA s0 z a k t.heap) ∧ va_F A st t
section GROWS
variable {p : Program} {l : Launch} {e : Env} {R : Room} {s : State} {m : MethodId} {args : Array Value} {below : List Frame} {meth : Method} {c : Code} {nL : Nat} {Q : State → Prop} {H : Heap} {locs : List Loc} {cells slots : Nat} {pc : Nat} {lv : List (Nat × Value)} {st : List Value}
  {D : va_G} {cA : Nat → ClassId} {s0 : State} {own : String} {cc : ByteArray} {rt : Option FieldType} {z b : Nat} {μ : Mm} {n0 : Nat} {H0 : Heap}
theorem x_goRS {rest st0 : List Value} {a : Array Value} {k : Nat} (run : ∀ ls : Array Slot, ls.size = nL → va_Run p l e R s m args below meth c H locs cells slots 0 0 (F0 m pc ls st0) rest (xQrS D cA s0 z k a) xN) (kk : ∀ ra, Str D cA s0 z ra k H → xW p l e R s m args below meth c nL Q H locs cells slots (pc + 3) lv (.ref ra :: rest)) : xW p l e R s m args below meth c nL Q H locs cells slots pc lv st0 := fun ls hl T hT X => by
  obtain ⟨v', st₀, t, T', L, h0, X', hL, e1, e2, ⟨ra, hv, hst, hh⟩, stp⟩ := run ls hl.1 T hT X
  cases hv
  obtain ⟨t2, a1, b1⟩ := kk ra (by rw [← h0]; exact hst) ls hl T' (by rw [e1, hh, h0]) (Stand.forget X' (fun q h => False.elim (hL q h)))
  exact ⟨t2, stp t2 a1, b1⟩
theorem x_goMS {rest st0 : List Value} {a : Array Value} {k mc ms : Nat} {Wd' : Heap → Prop} {A0 A1 : Nat → Prop} (run : ∀ ls : Array Slot, ls.size = nL → va_Run p l e R s m args below meth c H locs cells slots mc ms (F0 m pc ls st0) rest (xQmS D cA s0 z k Wd' A1 a) A1) (hS : va_S A0 H0 H locs) (hA : ∀ q, A1 q → A0 q)
    (kk : ∀ (H1 : Heap) (locs1 : List Loc), Wd' H1 → va_S A0 H0 H1 locs1 → ∀ ra, Str D cA s0 z ra k H1 → xW p l e R s m args below meth c nL Q H1 locs1 (cells + mc) (slots + ms) (pc + 3) lv (.ref ra :: rest)) : xW p l e R s m args below meth c nL Q H locs cells slots pc lv st0 := fun ls hl T hT X => by
  obtain ⟨v', st₀, t, T', L, h0, X', hL, e1, e2, ⟨ra, hv, ⟨hw, hst⟩, hz, hk⟩, stp⟩ := run ls hl.1 T hT X
  cases hv
  rw [h0] at hz hk
  obtain ⟨t2, a1, b1⟩ := kk t.heap (locs ++ L) hw ⟨Nat.le_trans hS.1 hz, fun q h1 h2 => (hk q (Nat.lt_of_lt_of_le h1 hS.1) (fun z => h2 (hA q z))).trans (hS.2.1 q h1 h2), fun q hq => by
    rcases List.mem_append.mp hq with h | h
    · exact hS.2.2 q h
    · exact hA _ (hL q h)⟩ ra hst ls hl T' e1 X'
  exact ⟨t2, stp t2 a1, b1⟩
theorem m_putI {ix ci k kk0 N : Nat} {Cn : String} {T : u_T} {ty0 : Nat → FieldType} {fs : List Value} {x : Int32} (C : xC D cA s0 own cc nL rt p s m args meth c) (FL : xFL own ix ci k Cn T N ty0) (hw : RX D cA s0 z b μ H) (hs : shM cA b 0 (μ.1 0) (μ.2.1 0) (μ.2.2 0) = .inr (ci, fs)) (he : shM cA b 0 (upd (μ.1 0) kk0 x) (μ.2.1 0) (μ.2.2 0) = .inr (ci, fs.set k (.int x))) (hfin : (T k).2.2.2 = false) (ht : ty0 k = .int) (hlen : k < fs.length) (hd : decode cc pc = .ok (.putfield ix, 3)) (hS : va_S (xA b 8 n0) H0 H locs)
    (kk : ∀ (H1 : Heap) (locs1 : List Loc), RX D cA s0 z b (uI μ 0 kk0 x) H1 → va_S (xA b 8 n0) H0 H1 locs1 → xW p l e R s m args below meth c nL Q H1 locs1 cells slots (pc + 3) lv st) : xW p l e R s m args below meth c nL Q H locs cells slots pc lv (.int x :: .ref b :: st) :=
  x_putI (b := b) (sh := shM cA) (n := 8) 0 C FL hw.2.2.2.2 (by decide) hs he hfin ht hlen hd hS (xA_in (by decide)) (fun H1 locs1 h1 h2 h3 h4 => kk H1 locs1 (hw.upd (off := 0) (by decide) h1 h2 h3) h4)
theorem m_putZ {ix ci k kk0 N : Nat} {Cn : String} {T : u_T} {ty0 : Nat → FieldType} {fs : List Value} {x : Int32} (C : xC D cA s0 own cc nL rt p s m args meth c) (FL : xFL own ix ci k Cn T N ty0) (hw : RX D cA s0 z b μ H) (hs : shM cA b 0 (μ.1 0) (μ.2.1 0) (μ.2.2 0) = .inr (ci, fs)) (he : shM cA b 0 (upd (μ.1 0) kk0 x) (μ.2.1 0) (μ.2.2 0) = .inr (ci, fs.set k (.int x))) (hfin : (T k).2.2.2 = false) (hn : narrow (ty0 k) (.int x) = .int x) (hfit : fits (ty0 k) (.int x) = true) (hlen : k < fs.length) (hd : decode cc pc = .ok (.putfield ix, 3)) (hS : va_S (xA b 8 n0) H0 H locs)
    (kk : ∀ (H1 : Heap) (locs1 : List Loc), RX D cA s0 z b (uI μ 0 kk0 x) H1 → va_S (xA b 8 n0) H0 H1 locs1 → xW p l e R s m args below meth c nL Q H1 locs1 cells slots (pc + 3) lv st) : xW p l e R s m args below meth c nL Q H locs cells slots pc lv (.int x :: .ref b :: st) :=
  x_putZ (b := b) (sh := shM cA) (n := 8) 0 C FL hw.2.2.2.2 (by decide) hs he hfin hn hfit hlen hd hS (xA_in (by decide)) (fun H1 locs1 h1 h2 h3 h4 => kk H1 locs1 (hw.upd (off := 0) (by decide) h1 h2 h3) h4)
theorem m_putRow {ix x N : Nat} (C : xC D cA s0 own cc nL rt p s m args meth c) (FL : xFL own ix 12 3 RX12 TX12 N tyX12) (hw : RX D cA s0 z b μ H) (hd : decode cc pc = .ok (.putfield ix, 3)) (hS : va_S (xA b 8 n0) H0 H locs)
    (kk : ∀ (H1 : Heap) (locs1 : List Loc), RX D cA s0 z b (uN μ 0 3 x) H1 → va_S (xA b 8 n0) H0 H1 locs1 → xW p l e R s m args below meth c nL Q H1 locs1 cells slots (pc + 3) lv st) : xW p l e R s m args below meth c nL Q H locs cells slots pc lv (.ref (b + x) :: .ref b :: st) :=
  x_putNb (x := x) (kk0 := 3) (b := b) (sh := shM cA) (n := 8) 0 C FL hw.2.2.2.2 (by decide) rfl rfl rfl rfl rfl (nb rfl) hd hS (xA_in (by decide)) (fun H1 locs1 h1 h2 h3 h4 => kk H1 locs1 (hw.upd (off := 0) (by decide) h1 h2 h3) h4)
theorem m_iast {n1 k : Nat} {i : Int32} {x : Int32} (off : Nat) (C : xC D cA s0 own cc nL rt p s m args meth c) (hw : RX D cA s0 z b μ H) (hlt : off < 8) (hs : ∀ f : Nat → Int32, shM cA b off f (μ.2.1 off) (μ.2.2 off) = .inl (cA 0, n1, .inl f)) (hi : i = nI k) (hk : k < n1) (h31 : n1 < 2 ^ 31) (hd : decode cc pc = .ok (.iastore, 1)) (hS : va_S (xA b 8 n0) H0 H locs)
    (kk : ∀ (H1 : Heap) (locs1 : List Loc), RX D cA s0 z b (uI μ off k x) H1 → va_S (xA b 8 n0) H0 H1 locs1 → xW p l e R s m args below meth c nL Q H1 locs1 cells slots (pc + 1) lv st) : xW p l e R s m args below meth c nL Q H locs cells slots pc lv (.int x :: .int i :: .ref (b + off) :: st) :=
  x_iastN (b := b) (sh := shM cA) (n := 8) off C hw.2.2.2.2 hlt hs hi hk h31 hd hS (xA_in hlt) (fun H1 locs1 h1 h2 h3 h4 => kk H1 locs1 (hw.upd (off := off) hlt h1 h2 h3) h4)
theorem m_last {n1 k : Nat} {i : Int32} {x : Int64} (off : Nat) (C : xC D cA s0 own cc nL rt p s m args meth c) (hw : RX D cA s0 z b μ H) (hlt : off < 8) (hs : ∀ f : Nat → Int64, shM cA b off (μ.1 off) f (μ.2.2 off) = .inl (cA 1, n1, .inr (.inl f))) (hi : i = nI k) (hk : k < n1) (h31 : n1 < 2 ^ 31) (hd : decode cc pc = .ok (.lastore, 1)) (hS : va_S (xA b 8 n0) H0 H locs)
    (kk : ∀ (H1 : Heap) (locs1 : List Loc), RX D cA s0 z b (uP μ off k x) H1 → va_S (xA b 8 n0) H0 H1 locs1 → xW p l e R s m args below meth c nL Q H1 locs1 cells slots (pc + 1) lv st) : xW p l e R s m args below meth c nL Q H locs cells slots pc lv (.long x :: .int i :: .ref (b + off) :: st) :=
  x_lastN (b := b) (sh := shM cA) (n := 8) off C hw.2.2.2.2 hlt hs hi hk h31 hd hS (xA_in hlt) (fun H1 locs1 h1 h2 h3 h4 => kk H1 locs1 (hw.upd (off := off) hlt h1 h2 h3) h4)
theorem m_bast {n1 k : Nat} {i : Int32} {x : Int32} (off : Nat) (C : xC D cA s0 own cc nL rt p s m args meth c) (hw : RX D cA s0 z b μ H) (hlt : off < 8) (hs : ∀ f : Nat → Int32, shM cA b off f (μ.2.1 off) (μ.2.2 off) = .inl (cA 2, n1, .inl f)) (hi : i = nI k) (hk : k < n1) (h31 : n1 < 2 ^ 31) (hd : decode cc pc = .ok (.bastore, 1)) (hS : va_S (xA b 8 n0) H0 H locs)
    (kk : ∀ (H1 : Heap) (locs1 : List Loc), RX D cA s0 z b (uI μ off k (vp_nar .byte x)) H1 → va_S (xA b 8 n0) H0 H1 locs1 → xW p l e R s m args below meth c nL Q H1 locs1 cells slots (pc + 1) lv st) : xW p l e R s m args below meth c nL Q H locs cells slots pc lv (.int x :: .int i :: .ref (b + off) :: st) :=
  x_bastN (b := b) (sh := shM cA) (n := 8) off C hw.2.2.2.2 hlt hs hi hk h31 hd hS (xA_in hlt) (fun H1 locs1 h1 h2 h3 h4 => kk H1 locs1 (hw.upd (off := off) hlt h1 h2 h3) h4)
theorem m_iastRow {o k : Nat} {i x : Int32} (hr : isRow o) (C : xC D cA s0 own cc nL rt p s m args meth c) (hw : RX D cA s0 z b μ H) (hi : i = nI k) (hk : k < 1377) (hd : decode cc pc = .ok (.iastore, 1)) (hS : va_S (xA b 8 n0) H0 H locs)
    (kk : ∀ (H1 : Heap) (locs1 : List Loc), RX D cA s0 z b (uI μ o k x) H1 → va_S (xA b 8 n0) H0 H1 locs1 → xW p l e R s m args below meth c nL Q H1 locs1 cells slots (pc + 1) lv st) : xW p l e R s m args below meth c nL Q H locs cells slots pc lv (.int x :: .int i :: .ref (b + o) :: st) := by
  rcases hr with rfl | rfl
  · exact m_iast 1 C hw (by decide) (fun _ => rfl) hi hk (by decide) hd hS kk
  · exact m_iast 2 C hw (by decide) (fun _ => rfl) hi hk (by decide) hd hS kk
end GROWS
