/-! The start: what the tables and the statement give. -/
abbrev nF : List Cond := flatC (Jvm.Cond.and given_1 narrow_1)
def xtyT : List FieldType := [.int, .long, .byte, .object RX9, .object RX2, .object RX4, .object RX6, .object RX10, .object RX5]
theorem arrT_of {ty : FieldType} {args : Array Value} {s : State} (hp : ∀ C, ty ≠ .object C) (h : (Cond.arrayClass ty).before args s = true) : ∃ c, ArrOfT s c ty ∧ va_RA s c ty := by
  obtain ⟨c, k, comp, h1, h2, h3⟩ := Cond.arrayClass_spec h
  refine ⟨c, fun n z => ⟨fun k h => (by cases h), k, h2, comp, h3⟩, ?_⟩
  cases ty with
  | object C => exact absurd rfl (hp C)
  | _ => exact h1
theorem arrT_ob {C : String} {args : Array Value} {s : State} (h : (Cond.arrayOver (.object C)).before args s = true) : ∃ c, ArrOfT s c (.object C) ∧ va_RA s c (.object C) := by
  obtain ⟨comp, c, k, h1, h2, h3, h4, h5⟩ := Cond.arrayOver_spec h
  exact ⟨c, fun n z => ⟨fun k h => (by cases h), k, h3, comp, h4⟩, k, comp, h3, h4, h1, h5⟩

theorem kn_0 {b : Nat} {s : State} (hts : ∀ w ∈ lw_tbl, w.before #[Value.ref b] s = true) : ∃ x : ClassId × (Nat → Nat), u_Kn s RX0 TX0 1 x.1 x.2 := by
  obtain ⟨c, iS, h⟩ := u_known (C := RX0) (T := TX0) (N := 1) (n := 1) hts (fun w hw => (List.mem_filter.mp (cf_X0.2.1 w hw)).1) (hts _ (gT2 (List.mem_of_getElem? (i := 180) (by decide +kernel))))
  exact ⟨(c, iS), h⟩
theorem kn_1 {b : Nat} {s : State} (hts : ∀ w ∈ lw_tbl, w.before #[Value.ref b] s = true) : ∃ x : ClassId × (Nat → Nat), u_Kn s RX1 TX1 3 x.1 x.2 := by
  obtain ⟨c, iS, h⟩ := u_known (C := RX1) (T := TX1) (N := 3) (n := 3) hts (fun w hw => (List.mem_filter.mp (cf_X1.2.1 w hw)).1) (hts _ (gT1 (List.mem_of_getElem? (i := 36) (by decide +kernel))))
  exact ⟨(c, iS), h⟩
theorem kn_2 {b : Nat} {s : State} (hts : ∀ w ∈ lw_tbl, w.before #[Value.ref b] s = true) : ∃ x : ClassId × (Nat → Nat), u_Kn s RX2 TX2 7 x.1 x.2 := by
  obtain ⟨c, iS, h⟩ := u_known (C := RX2) (T := TX2) (N := 7) (n := 7) hts (fun w hw => (List.mem_filter.mp (cf_X2.2.1 w hw)).1) (hts _ (gT1 (List.mem_of_getElem? (i := 99) (by decide +kernel))))
  exact ⟨(c, iS), h⟩
theorem kn_3 {b : Nat} {s : State} (hts : ∀ w ∈ lw_tbl, w.before #[Value.ref b] s = true) : ∃ x : ClassId × (Nat → Nat), u_Kn s RX3 TX3 3 x.1 x.2 := by
  obtain ⟨c, iS, h⟩ := u_known (C := RX3) (T := TX3) (N := 3) (n := 3) hts (fun w hw => (List.mem_filter.mp (cf_X3.2.1 w hw)).1) (hts _ (gT2 (List.mem_of_getElem? (i := 160) (by decide +kernel))))
  exact ⟨(c, iS), h⟩
theorem kn_4 {b : Nat} {s : State} (hts : ∀ w ∈ lw_tbl, w.before #[Value.ref b] s = true) : ∃ x : ClassId × (Nat → Nat), u_Kn s RX4 TX4 7 x.1 x.2 := by
  obtain ⟨c, iS, h⟩ := u_known (C := RX4) (T := TX4) (N := 7) (n := 7) hts (fun w hw => (List.mem_filter.mp (cf_X4.2.1 w hw)).1) (hts _ (gT1 (List.mem_of_getElem? (i := 144) (by decide +kernel))))
  exact ⟨(c, iS), h⟩
theorem kn_5 {b : Nat} {s : State} (hts : ∀ w ∈ lw_tbl, w.before #[Value.ref b] s = true) : ∃ x : ClassId × (Nat → Nat), u_Kn s RX5 TX5 11 x.1 x.2 := by
  obtain ⟨c, iS, h⟩ := u_known (C := RX5) (T := TX5) (N := 11) (n := 11) hts (fun w hw => (List.mem_filter.mp (cf_X5.2.1 w hw)).1) (hts _ (gT1 (List.mem_of_getElem? (i := 59) (by decide +kernel))))
  exact ⟨(c, iS), h⟩
theorem kn_6 {b : Nat} {s : State} (hts : ∀ w ∈ lw_tbl, w.before #[Value.ref b] s = true) : ∃ x : ClassId × (Nat → Nat), u_Kn s RX6 TX6 4 x.1 x.2 := by
  obtain ⟨c, iS, h⟩ := u_known (C := RX6) (T := TX6) (N := 4) (n := 4) hts (fun w hw => (List.mem_filter.mp (cf_X6.2.1 w hw)).1) (hts _ (gT1 (List.mem_of_getElem? (i := 191) (by decide +kernel))))
  exact ⟨(c, iS), h⟩
theorem kn_7 {b : Nat} {s : State} (hts : ∀ w ∈ lw_tbl, w.before #[Value.ref b] s = true) : ∃ x : ClassId × (Nat → Nat), u_Kn s RX7 TX7 11 x.1 x.2 := by
  obtain ⟨c, iS, h⟩ := u_known (C := RX7) (T := TX7) (N := 11) (n := 11) hts (fun w hw => (List.mem_filter.mp (cf_X7.2.1 w hw)).1) (hts _ (gT2 (List.mem_of_getElem? (i := 118) (by decide +kernel))))
  exact ⟨(c, iS), h⟩
theorem kn_8 {b : Nat} {s : State} (hts : ∀ w ∈ lw_tbl, w.before #[Value.ref b] s = true) : ∃ x : ClassId × (Nat → Nat), u_Kn s RX8 TX8 3 x.1 x.2 := by
  obtain ⟨c, iS, h⟩ := u_known (C := RX8) (T := TX8) (N := 3) (n := 3) hts (fun w hw => (List.mem_filter.mp (cf_X8.2.1 w hw)).1) (hts _ (gT2 (List.mem_of_getElem? (i := 190) (by decide +kernel))))
  exact ⟨(c, iS), h⟩
theorem kn_9 {b : Nat} {s : State} (hts : ∀ w ∈ lw_tbl, w.before #[Value.ref b] s = true) : ∃ x : ClassId × (Nat → Nat), u_Kn s RX9 TX9 4 x.1 x.2 := by
  obtain ⟨c, iS, h⟩ := u_known (C := RX9) (T := TX9) (N := 4) (n := 4) hts (fun w hw => (List.mem_filter.mp (cf_X9.2.1 w hw)).1) (hts _ (gT1 (List.mem_of_getElem? (i := 74) (by decide +kernel))))
  exact ⟨(c, iS), h⟩
theorem kn_10 {b : Nat} {s : State} (hts : ∀ w ∈ lw_tbl, w.before #[Value.ref b] s = true) : ∃ x : ClassId × (Nat → Nat), u_Kn s RX10 TX10 12 x.1 x.2 := by
  obtain ⟨c, iS, h⟩ := u_known (C := RX10) (T := TX10) (N := 12) (n := 12) hts (fun w hw => (List.mem_filter.mp (cf_X10.2.1 w hw)).1) (hts _ (gT1 (List.mem_of_getElem? (i := 217) (by decide +kernel))))
  exact ⟨(c, iS), h⟩
theorem kn_11 {b : Nat} {s : State} (hts : ∀ w ∈ lw_tbl, w.before #[Value.ref b] s = true) : ∃ x : ClassId × (Nat → Nat), u_Kn s RX11 TX11 8 x.1 x.2 := by
  obtain ⟨c, iS, h⟩ := u_known (C := RX11) (T := TX11) (N := 8) (n := 8) hts (fun w hw => (List.mem_filter.mp (cf_X11.2.1 w hw)).1) (hts _ (gT1 (List.mem_of_getElem? (i := 28) (by decide +kernel))))
  exact ⟨(c, iS), h⟩
theorem kn_12 {b : Nat} {s : State} (hts : ∀ w ∈ lw_tbl, w.before #[Value.ref b] s = true) : ∃ x : ClassId × (Nat → Nat), u_Kn s RX12 TX12 22 x.1 x.2 := by
  obtain ⟨c, iS, h⟩ := u_known (C := RX12) (T := TX12) (N := 22) (n := 22) hts (fun w hw => (List.mem_filter.mp (cf_X12.2.1 w hw)).1) (hts _ (gT7 (List.mem_of_getElem? (i := 101) (by decide +kernel))))
  exact ⟨(c, iS), h⟩
theorem st_K {b : Nat} {s : State} (hts : ∀ w ∈ lw_tbl, w.before #[Value.ref b] s = true) : ∃ (D : va_G) (cA : Nat → ClassId), xK D cA s s := by
  have h1 : ∀ k : Nat, ∃ x : ClassId × (Nat → Nat), ∀ q : vw_C, xcl[k]? = some q → u_Kn s q.1 q.2.1 q.2.2 x.1 x.2 := by
    intro k
    match k with
    | 0 => obtain ⟨x, hx⟩ := kn_0 hts; exact ⟨x, fun q hq => by cases hq; exact hx⟩
    | 1 => obtain ⟨x, hx⟩ := kn_1 hts; exact ⟨x, fun q hq => by cases hq; exact hx⟩
    | 2 => obtain ⟨x, hx⟩ := kn_2 hts; exact ⟨x, fun q hq => by cases hq; exact hx⟩
    | 3 => obtain ⟨x, hx⟩ := kn_3 hts; exact ⟨x, fun q hq => by cases hq; exact hx⟩
    | 4 => obtain ⟨x, hx⟩ := kn_4 hts; exact ⟨x, fun q hq => by cases hq; exact hx⟩
    | 5 => obtain ⟨x, hx⟩ := kn_5 hts; exact ⟨x, fun q hq => by cases hq; exact hx⟩
    | 6 => obtain ⟨x, hx⟩ := kn_6 hts; exact ⟨x, fun q hq => by cases hq; exact hx⟩
    | 7 => obtain ⟨x, hx⟩ := kn_7 hts; exact ⟨x, fun q hq => by cases hq; exact hx⟩
    | 8 => obtain ⟨x, hx⟩ := kn_8 hts; exact ⟨x, fun q hq => by cases hq; exact hx⟩
    | 9 => obtain ⟨x, hx⟩ := kn_9 hts; exact ⟨x, fun q hq => by cases hq; exact hx⟩
    | 10 => obtain ⟨x, hx⟩ := kn_10 hts; exact ⟨x, fun q hq => by cases hq; exact hx⟩
    | 11 => obtain ⟨x, hx⟩ := kn_11 hts; exact ⟨x, fun q hq => by cases hq; exact hx⟩
    | 12 => obtain ⟨x, hx⟩ := kn_12 hts; exact ⟨x, fun q hq => by cases hq; exact hx⟩
    | k + 13 => exact ⟨(0, fun _ => 0), fun q hq => by simp [xcl] at hq⟩
  have h2 : ∀ k : Nat, ∃ x : ClassId, ∀ q : FieldType, xtyT[k]? = some q → ArrOfT s x q ∧ va_RA s x q := by
    intro k
    match k with
    | 0 => obtain ⟨x, hx⟩ := arrT_of (ty := .int) (fun _ h => by cases h) (hts _ (gT1 (List.mem_of_getElem? (i := 190) (by decide +kernel)))); exact ⟨x, fun q hq => by cases hq; exact hx⟩
    | 1 => obtain ⟨x, hx⟩ := arrT_of (ty := .long) (fun _ h => by cases h) (hts _ (gT7 (List.mem_of_getElem? (i := 173) (by decide +kernel)))); exact ⟨x, fun q hq => by cases hq; exact hx⟩
    | 2 => obtain ⟨x, hx⟩ := arrT_of (ty := .byte) (fun _ h => by cases h) (hts _ (gT1 (List.mem_of_getElem? (i := 57) (by decide +kernel)))); exact ⟨x, fun q hq => by cases hq; exact hx⟩
    | 3 => obtain ⟨x, hx⟩ := arrT_ob (C := RX9) (hts _ (gT1 (List.mem_of_getElem? (i := 65) (by decide +kernel)))); exact ⟨x, fun q hq => by cases hq; exact hx⟩
    | 4 => obtain ⟨x, hx⟩ := arrT_ob (C := RX2) (hts _ (gT1 (List.mem_of_getElem? (i := 67) (by decide +kernel)))); exact ⟨x, fun q hq => by cases hq; exact hx⟩
    | 5 => obtain ⟨x, hx⟩ := arrT_ob (C := RX4) (hts _ (gT1 (List.mem_of_getElem? (i := 69) (by decide +kernel)))); exact ⟨x, fun q hq => by cases hq; exact hx⟩
    | 6 => obtain ⟨x, hx⟩ := arrT_ob (C := RX6) (hts _ (gT1 (List.mem_of_getElem? (i := 71) (by decide +kernel)))); exact ⟨x, fun q hq => by cases hq; exact hx⟩
    | 7 => obtain ⟨x, hx⟩ := arrT_ob (C := RX10) (hts _ (gT1 (List.mem_of_getElem? (i := 73) (by decide +kernel)))); exact ⟨x, fun q hq => by cases hq; exact hx⟩
    | 8 => obtain ⟨x, hx⟩ := arrT_ob (C := RX5) (hts _ (gT2 (List.mem_of_getElem? (i := 166) (by decide +kernel)))); exact ⟨x, fun q hq => by cases hq; exact hx⟩
    | k + 9 => exact ⟨0, fun q hq => by simp [xtyT] at hq⟩
  obtain ⟨f, hf⟩ := Classical.axiomOfChoice h1
  obtain ⟨g, hg⟩ := Classical.axiomOfChoice h2
  refine ⟨(fun k => (f k).1, fun k => (f k).2), g, ⟨fun c q hq => hf c q hq, fun k q hk => ?_⟩, fun w hw => ?_, State.WarmedH.refl s⟩
  · match k, hk with
    | 0, hk => cases hk; exact hg 0 _ rfl
    | 1, hk => cases hk; exact hg 1 _ rfl
    | 2, hk => cases hk; exact hg 2 _ rfl
    | 3, hk => cases hk; exact hg 3 _ rfl
    | 4, hk => cases hk; exact hg 4 _ rfl
    | 5, hk => cases hk; exact hg 5 _ rfl
    | 6, hk => cases hk; exact hg 6 _ rfl
    | 7, hk => cases hk; exact hg 7 _ rfl
    | 8, hk => cases hk; exact hg 8 _ rfl
    | k + 9, hk => simp [xty] at hk
  · simp only [xnw, List.mem_cons, List.not_mem_nil, or_false] at hw
    rcases hw with rfl | rfl | rfl | rfl | rfl | rfl | rfl | rfl
    · exact va_Nw.of rfl (hts _ (gT3 (List.mem_of_getElem? (i := 235) (by decide +kernel))))
    · exact va_Nw.of rfl (hts _ (gT7 (List.mem_of_getElem? (i := 25) (by decide +kernel))))
    · exact va_Nw.of rfl (hts _ (gT4 (List.mem_of_getElem? (i := 50) (by decide +kernel))))
    · exact va_Nw.of rfl (hts _ (gT1 (List.mem_of_getElem? (i := 75) (by decide +kernel))))
    · exact va_Nw.of rfl (hts _ (gT1 (List.mem_of_getElem? (i := 100) (by decide +kernel))))
    · exact va_Nw.of rfl (hts _ (gT1 (List.mem_of_getElem? (i := 145) (by decide +kernel))))
    · exact va_Nw.of rfl (hts _ (gT1 (List.mem_of_getElem? (i := 192) (by decide +kernel))))
    · exact va_Nw.of rfl (hts _ (gT1 (List.mem_of_getElem? (i := 218) (by decide +kernel))))
theorem st_AO {b : Nat} {s : State} (hts : ∀ w ∈ lw_tbl, w.before #[Value.ref b] s = true) : xAOs s := ⟨va_AO.of (hts _ (gT1 (List.mem_of_getElem? (i := 65) (by decide +kernel)))), va_AO.of (hts _ (gT1 (List.mem_of_getElem? (i := 67) (by decide +kernel)))), va_AO.of (hts _ (gT1 (List.mem_of_getElem? (i := 69) (by decide +kernel)))), va_AO.of (hts _ (gT1 (List.mem_of_getElem? (i := 71) (by decide +kernel)))), va_AO.of (hts _ (gT1 (List.mem_of_getElem? (i := 73) (by decide +kernel)))), va_AO.of (hts _ (gT2 (List.mem_of_getElem? (i := 166) (by decide +kernel))))⟩
theorem st_Nc {b : Nat} {s : State} (hq : ∀ w ∈ nF, w.before #[Value.ref b] s = true) : xNc s := by
  intro i j hi hj hij
  rcases hi with rfl | rfl | rfl <;> rcases hj with rfl | rfl | rfl
  · exact absurd rfl hij
  · exact (va_Nc.of (hq _ (List.mem_of_getElem? (i := 40) (by decide +kernel))))
  · exact (va_Nc.of (hq _ (List.mem_of_getElem? (i := 25) (by decide +kernel))))
  · exact (va_Nc.of (hq _ (List.mem_of_getElem? (i := 55) (by decide +kernel))))
  · exact absurd rfl hij
  · exact (va_Nc.of (hq _ (List.mem_of_getElem? (i := 24) (by decide +kernel))))
  · exact (va_Nc.of (hq _ (List.mem_of_getElem? (i := 54) (by decide +kernel))))
  · exact (va_Nc.of (hq _ (List.mem_of_getElem? (i := 39) (by decide +kernel))))
  · exact absurd rfl hij
theorem st_ma {b : Nat} {s : State} (hts : ∀ w ∈ lw_tbl, w.before #[Value.ref b] s = true) (hq : ∀ w ∈ nF, w.before #[Value.ref b] s = true) : ∃ a, vk_R "PortDues" 410 "there is no such number" a s := by
  obtain ⟨a, c, cA, kA, q1, -⟩ := Cond.exactly_spec (args := #[Value.ref b]) (first := s) (o := none) (s := s) (idx := []) (t := Term.string "PortDues" 410) (cls := "java/lang/String") (hq _ (List.mem_of_getElem? (i := 340) (by decide +kernel)))
  exact ⟨a, vk_R.of (hts _ (gT4 (List.mem_of_getElem? (i := 214) (by decide +kernel)))) q1⟩
theorem st_mb {b : Nat} {s : State} (hts : ∀ w ∈ lw_tbl, w.before #[Value.ref b] s = true) (hq : ∀ w ∈ nF, w.before #[Value.ref b] s = true) : ∃ a, vk_R "PortDues" 417 "a value is out of range" a s := by
  obtain ⟨a, c, cA, kA, q1, -⟩ := Cond.exactly_spec (args := #[Value.ref b]) (first := s) (o := none) (s := s) (idx := []) (t := Term.string "PortDues" 417) (cls := "java/lang/String") (hq _ (List.mem_of_getElem? (i := 313) (by decide +kernel)))
  exact ⟨a, vk_R.of (hts _ (gT4 (List.mem_of_getElem? (i := 168) (by decide +kernel)))) q1⟩
theorem st_mc {b : Nat} {s : State} (hts : ∀ w ∈ lw_tbl, w.before #[Value.ref b] s = true) (hq : ∀ w ∈ nF, w.before #[Value.ref b] s = true) : ∃ a, vk_R "PortDues" 422 "this is not possible now" a s := by
  obtain ⟨a, c, cA, kA, q1, -⟩ := Cond.exactly_spec (args := #[Value.ref b]) (first := s) (o := none) (s := s) (idx := []) (t := Term.string "PortDues" 422) (cls := "java/lang/String") (hq _ (List.mem_of_getElem? (i := 285) (by decide +kernel)))
  exact ⟨a, vk_R.of (hts _ (gT4 (List.mem_of_getElem? (i := 111) (by decide +kernel)))) q1⟩
theorem st_thr {b : Nat} {s : State} (hts : ∀ w ∈ lw_tbl, w.before #[Value.ref b] s = true) (hq : ∀ w ∈ nF, w.before #[Value.ref b] s = true) : xThr s := by
  refine ⟨vx_Zqof (args := #[Value.ref b]) (hts _ (gT4 (List.mem_of_getElem? (i := 97) (by decide +kernel)))) (hts _ (gT1 (List.mem_of_getElem? (i := 15) (by decide +kernel)))) (hq _ (List.mem_of_getElem? (i := 9) (by decide +kernel))) (fun a h z => absurd h (Nat.not_lt.mpr z)),
    vx_Zqof (args := #[Value.ref b]) (hts _ (gT4 (List.mem_of_getElem? (i := 99) (by decide +kernel)))) (hts _ (gT1 (List.mem_of_getElem? (i := 15) (by decide +kernel)))) (hq _ (List.mem_of_getElem? (i := 10) (by decide +kernel))) (fun a h z => absurd h (Nat.not_lt.mpr z)), ⟨fun k => ?_, fun y hy => ?_⟩, st_ma hts hq, st_mb hts hq, st_mc hts hq⟩
  · match k with
    | 1 => exact va_Nw.of rfl (hts _ (gT4 (List.mem_of_getElem? (i := 207) (by decide +kernel))))
    | 2 => exact va_Nw.of rfl (hts _ (gT4 (List.mem_of_getElem? (i := 161) (by decide +kernel))))
    | 0 => exact va_Nw.of rfl (hts _ (gT4 (List.mem_of_getElem? (i := 72) (by decide +kernel))))
    | k + 3 =>
      have e9 : exN (k + 3) = "java/lang/IllegalStateException" := rfl
      rw [e9]
      exact va_Nw.of rfl (hts _ (gT4 (List.mem_of_getElem? (i := 72) (by decide +kernel))))
  · simp only [xdcl, List.mem_cons, List.not_mem_nil, or_false] at hy
    rcases hy with rfl | rfl | rfl
    · exact va_Nw.of rfl (hts _ (gT4 (List.mem_of_getElem? (i := 74) (by decide +kernel))))
    · exact va_Nw.of rfl (hts _ (gT4 (List.mem_of_getElem? (i := 76) (by decide +kernel))))
    · exact va_Nw.of rfl (hts _ (gT4 (List.mem_of_getElem? (i := 78) (by decide +kernel))))
theorem st_St {b : Nat} {s : State} (hts : ∀ w ∈ lw_tbl, w.before #[Value.ref b] s = true) (hq : ∀ w ∈ nF, w.before #[Value.ref b] s = true) : xSt s := ⟨va_Zof (args := #[Value.ref b]) (hts _ (gT3 (List.mem_of_getElem? (i := 47) (by decide +kernel)))) (hts _ (gT1 (List.mem_of_getElem? (i := 20) (by decide +kernel)))) (va_eqi (hq _ (List.mem_of_getElem? (i := 4) (by decide +kernel)))) (fun _ _ h => h),
  va_Zqof (args := #[Value.ref b]) (hts _ (gT3 (List.mem_of_getElem? (i := 63) (by decide +kernel)))) (hts _ (gT1 (List.mem_of_getElem? (i := 22) (by decide +kernel)))) (hq _ (List.mem_of_getElem? (i := 5) (by decide +kernel))) (fun _ _ h => h)⟩
def litW (own : String) (k c : Nat) : List Cond := .exactly (.string own k) "java/lang/String" :: .eq (.field (.string own k) "java/lang/String" "coder" "B") (.int 0) :: .arrayOf (.field (.string own k) "java/lang/String" "value" "[B") .byte :: .eq (.length (.field (.string own k) "java/lang/String" "value" "[B")) (.int (Int32.ofNat (slen c))) :: (List.range (slen c)).map fun j => .eq (.elem (.field (.string own k) "java/lang/String" "value" "[B") (.int (Int32.ofNat j))) (.int (schar c j))
theorem okT_of {c : Nat} (h : (dgs 16 c).all (fun d => d < 128) = true) : okT c := by
  intro j hj
  have hj : j < (dgs 16 c).length := hj
  refine ⟨(dgs 16 c).getD j 0, ?_, rfl⟩
  have := List.all_eq_true.mp h ((dgs 16 c)[j]) (List.getElem_mem hj)
  rw [List.getD_eq_getElem?_getD, List.getElem?_eq_getElem hj]
  simpa using this
theorem lit_of {args : Array Value} {s : State} {own : String} {k c : Nat} (hw : ∀ w ∈ litW own k c, w.before args s = true) (ht : (dgs 16 c).all (fun d => d < 128) = true) : ∃ a, (Term.string own k).eval args s none [] s = some (.ref a) ∧ ∀ (D : va_G) (cA : Nat → ClassId) (z : Nat), Str D cA s z a c s.heap := by
  have hA : ∀ a : Nat, a < s.heap.size → ¬ xF a := fun _ _ h => h
  have w1 := hw _ (List.mem_cons_self)
  have w2 := hw _ (List.mem_cons_of_mem _ List.mem_cons_self)
  have w3 := hw _ (List.mem_cons_of_mem _ (List.mem_cons_of_mem _ List.mem_cons_self))
  have w4 := hw _ (List.mem_cons_of_mem _ (List.mem_cons_of_mem _ (List.mem_cons_of_mem _ List.mem_cons_self)))
  have w5 : ∀ j, j < slen c → (Cond.eq (.elem (.field (.string own k) "java/lang/String" "value" "[B") (.int (Int32.ofNat j))) (.int (schar c j))).before args s = true := fun j hj => hw _ (List.mem_cons_of_mem _ (List.mem_cons_of_mem _ (List.mem_cons_of_mem _ (List.mem_cons_of_mem _ (List.mem_map.mpr ⟨j, List.mem_range.mpr hj, rfl⟩)))))
  obtain ⟨a, c0, cA, kA, q1, q2, q3, q4, q5, q6, -⟩ := Cond.exactly_spec (args := args) (first := s) (o := none) (s := s) (idx := []) (t := .string own k) (cls := "java/lang/String") w1
  obtain ⟨t, ht', hT⟩ := va_Tof (f := fun j => .int (schar c j)) (A := xF) (Nat.lt_of_le_of_lt (slen_le c) (by decide)) w3 (va_eqt w4) (fun j hj => va_eqt (w5 j hj)) hA
  obtain ⟨tc, htc, hT2⟩ := id hT
  exact ⟨a, q1, fun D cB z => ⟨okT_of ht, Or.inl (Array.getElem?_eq_some_iff.mp q3).1, t, Or.inl (Array.getElem?_eq_some_iff.mp htc).1, ⟨cA, q3, q5, by rw [q6]; exact q2, fun h => h⟩, vk_OFof q1 (va_eqt w2) hA, vk_OFof q1 ht' hA, hT⟩⟩
theorem run_of {F W : List Cond} {args : Array Value} {s : State} (p n : Nat) (hq : ∀ w ∈ F, w.before args s = true) (h : (F.drop p).take n = W) : ∀ w ∈ W, w.before args s = true := fun w hw => by
  rw [← h] at hw
  exact hq w (List.mem_of_mem_drop (List.mem_of_mem_take hw))
theorem xl_0 {b : Nat} {s : State} (hts : ∀ w ∈ lw_tbl, w.before #[Value.ref b] s = true) (hq : ∀ w ∈ nF, w.before #[Value.ref b] s = true) (D : va_G) (cA : Nat → ClassId) : ∃ (a : Nat) (tx : String), vk_R "PortDues$Parser" 62 tx a s ∧ ∀ z, Str D cA s z a 126879296744563 s.heap := by
  obtain ⟨a, h1, h2⟩ := lit_of (own := "PortDues$Parser") (k := 62) (c := 126879296744563) (run_of 158 10 hq (by decide +kernel)) (by decide +kernel)
  exact ⟨a, "slices", vk_R.of (hts _ (gT3 (List.mem_of_getElem? (i := 29) (by decide +kernel)))) h1, h2 D cA⟩
theorem xl_1 {b : Nat} {s : State} (hts : ∀ w ∈ lw_tbl, w.before #[Value.ref b] s = true) (hq : ∀ w ∈ nF, w.before #[Value.ref b] s = true) (D : va_G) (cA : Nat → ClassId) : ∃ (a : Nat) (tx : String), vk_R "PortDues$Parser" 72 tx a s ∧ ∀ z, Str D cA s z a 1650551923 s.heap := by
  obtain ⟨a, h1, h2⟩ := lit_of (own := "PortDues$Parser") (k := 72) (c := 1650551923) (run_of 168 8 hq (by decide +kernel)) (by decide +kernel)
  exact ⟨a, "slab", vk_R.of (hts _ (gT3 (List.mem_of_getElem? (i := 94) (by decide +kernel)))) h1, h2 D cA⟩
theorem xl_2 {b : Nat} {s : State} (hts : ∀ w ∈ lw_tbl, w.before #[Value.ref b] s = true) (hq : ∀ w ∈ nF, w.before #[Value.ref b] s = true) (D : va_G) (cA : Nat → ClassId) : ∃ (a : Nat) (tx : String), vk_R "PortDues$Parser" 74 tx a s ∧ ∀ z, Str D cA s z a 1684955490 s.heap := by
  obtain ⟨a, h1, h2⟩ := lit_of (own := "PortDues$Parser") (k := 74) (c := 1684955490) (run_of 176 8 hq (by decide +kernel)) (by decide +kernel)
  exact ⟨a, "band", vk_R.of (hts _ (gT3 (List.mem_of_getElem? (i := 95) (by decide +kernel)))) h1, h2 D cA⟩
theorem xl_3 {b : Nat} {s : State} (hts : ∀ w ∈ lw_tbl, w.before #[Value.ref b] s = true) (hq : ∀ w ∈ nF, w.before #[Value.ref b] s = true) (D : va_G) (cA : Nat → ClassId) : ∃ (a : Nat) (tx : String), vk_R "PortDues$Parser" 84 tx a s ∧ ∀ z, Str D cA s z a 111550524450162 s.heap := by
  obtain ⟨a, h1, h2⟩ := lit_of (own := "PortDues$Parser") (k := 84) (c := 111550524450162) (run_of 192 10 hq (by decide +kernel)) (by decide +kernel)
  exact ⟨a, "rebate", vk_R.of (hts _ (gT3 (List.mem_of_getElem? (i := 110) (by decide +kernel)))) h1, h2 D cA⟩
theorem xl_4 {b : Nat} {s : State} (hts : ∀ w ∈ lw_tbl, w.before #[Value.ref b] s = true) (hq : ∀ w ∈ nF, w.before #[Value.ref b] s = true) (D : va_G) (cA : Nat → ClassId) : ∃ (a : Nat) (tx : String), vk_R "PortDues$Parser" 89 tx a s ∧ ∀ z, Str D cA s z a 435745415543 s.heap := by
  obtain ⟨a, h1, h2⟩ := lit_of (own := "PortDues$Parser") (k := 89) (c := 435745415543) (run_of 213 9 hq (by decide +kernel)) (by decide +kernel)
  exact ⟨a, "waste", vk_R.of (hts _ (gT3 (List.mem_of_getElem? (i := 116) (by decide +kernel)))) h1, h2 D cA⟩
theorem xl_5 {b : Nat} {s : State} (hts : ∀ w ∈ lw_tbl, w.before #[Value.ref b] s = true) (hq : ∀ w ∈ nF, w.before #[Value.ref b] s = true) (D : va_G) (cA : Nat → ClassId) : ∃ (a : Nat) (tx : String), vk_R "PortDues$Parser" 94 tx a s ∧ ∀ z, Str D cA s z a 7954796 s.heap := by
  obtain ⟨a, h1, h2⟩ := lit_of (own := "PortDues$Parser") (k := 94) (c := 7954796) (run_of 248 7 hq (by decide +kernel)) (by decide +kernel)
  exact ⟨a, "lay", vk_R.of (hts _ (gT3 (List.mem_of_getElem? (i := 124) (by decide +kernel)))) h1, h2 D cA⟩
theorem xl_6 {b : Nat} {s : State} (hts : ∀ w ∈ lw_tbl, w.before #[Value.ref b] s = true) (hq : ∀ w ∈ nF, w.before #[Value.ref b] s = true) (D : va_G) (cA : Nat → ClassId) : ∃ (a : Nat) (tx : String), vk_R "PortDues$Parser" 99 tx a s ∧ ∀ z, Str D cA s z a 1885956211 s.heap := by
  obtain ⟨a, h1, h2⟩ := lit_of (own := "PortDues$Parser") (k := 99) (c := 1885956211) (run_of 255 8 hq (by decide +kernel)) (by decide +kernel)
  exact ⟨a, "ship", vk_R.of (hts _ (gT3 (List.mem_of_getElem? (i := 129) (by decide +kernel)))) h1, h2 D cA⟩
theorem xl_7 {b : Nat} {s : State} (hts : ∀ w ∈ lw_tbl, w.before #[Value.ref b] s = true) (hq : ∀ w ∈ nF, w.before #[Value.ref b] s = true) (D : va_G) (cA : Nat → ClassId) : ∃ (a : Nat) (tx : String), vk_R "PortDues$Parser" 104 tx a s ∧ ∀ z, Str D cA s z a 1819042147 s.heap := by
  obtain ⟨a, h1, h2⟩ := lit_of (own := "PortDues$Parser") (k := 104) (c := 1819042147) (run_of 271 8 hq (by decide +kernel)) (by decide +kernel)
  exact ⟨a, "call", vk_R.of (hts _ (gT3 (List.mem_of_getElem? (i := 139) (by decide +kernel)))) h1, h2 D cA⟩
theorem xl_8 {b : Nat} {s : State} (hts : ∀ w ∈ lw_tbl, w.before #[Value.ref b] s = true) (hq : ∀ w ∈ nF, w.before #[Value.ref b] s = true) (D : va_G) (cA : Nat → ClassId) : ∃ (a : Nat) (tx : String), vk_R "PortDues$Parser" 127 tx a s ∧ ∀ z, Str D cA s z a 1702125938 s.heap := by
  obtain ⟨a, h1, h2⟩ := lit_of (own := "PortDues$Parser") (k := 127) (c := 1702125938) (run_of 184 8 hq (by decide +kernel)) (by decide +kernel)
  exact ⟨a, "rate", vk_R.of (hts _ (gT3 (List.mem_of_getElem? (i := 105) (by decide +kernel)))) h1, h2 D cA⟩
theorem xl_9 {b : Nat} {s : State} (hts : ∀ w ∈ lw_tbl, w.before #[Value.ref b] s = true) (hq : ∀ w ∈ nF, w.before #[Value.ref b] s = true) (D : va_G) (cA : Nat → ClassId) : ∃ (a : Nat) (tx : String), vk_R "PortDues$Parser" 141 tx a s ∧ ∀ z, Str D cA s z a 32772479037629808 s.heap := by
  obtain ⟨a, h1, h2⟩ := lit_of (own := "PortDues$Parser") (k := 141) (c := 32772479037629808) (run_of 202 11 hq (by decide +kernel)) (by decide +kernel)
  exact ⟨a, "percent", vk_R.of (hts _ (gT3 (List.mem_of_getElem? (i := 115) (by decide +kernel)))) h1, h2 D cA⟩
theorem xl_10 {b : Nat} {s : State} (hts : ∀ w ∈ lw_tbl, w.before #[Value.ref b] s = true) (hq : ∀ w ∈ nF, w.before #[Value.ref b] s = true) (D : va_G) (cA : Nat → ClassId) : ∃ (a : Nat) (tx : String), vk_R "PortDues$Parser" 146 tx a s ∧ ∀ z, Str D cA s z a 431199119718 s.heap := by
  obtain ⟨a, h1, h2⟩ := lit_of (own := "PortDues$Parser") (k := 146) (c := 431199119718) (run_of 222 9 hq (by decide +kernel)) (by decide +kernel)
  exact ⟨a, "fixed", vk_R.of (hts _ (gT3 (List.mem_of_getElem? (i := 121) (by decide +kernel)))) h1, h2 D cA⟩
theorem xl_11 {b : Nat} {s : State} (hts : ∀ w ∈ lw_tbl, w.before #[Value.ref b] s = true) (hq : ∀ w ∈ nF, w.before #[Value.ref b] s = true) (D : va_G) (cA : Nat → ClassId) : ∃ (a : Nat) (tx : String), vk_R "PortDues$Parser" 151 tx a s ∧ ∀ z, Str D cA s z a 1701147238 s.heap := by
  obtain ⟨a, h1, h2⟩ := lit_of (own := "PortDues$Parser") (k := 151) (c := 1701147238) (run_of 231 8 hq (by decide +kernel)) (by decide +kernel)
  exact ⟨a, "free", vk_R.of (hts _ (gT3 (List.mem_of_getElem? (i := 122) (by decide +kernel)))) h1, h2 D cA⟩
theorem xl_12 {b : Nat} {s : State} (hts : ∀ w ∈ lw_tbl, w.before #[Value.ref b] s = true) (hq : ∀ w ∈ nF, w.before #[Value.ref b] s = true) (D : va_G) (cA : Nat → ClassId) : ∃ (a : Nat) (tx : String), vk_R "PortDues$Parser" 156 tx a s ∧ ∀ z, Str D cA s z a 435459551856 s.heap := by
  obtain ⟨a, h1, h2⟩ := lit_of (own := "PortDues$Parser") (k := 156) (c := 435459551856) (run_of 239 9 hq (by decide +kernel)) (by decide +kernel)
  exact ⟨a, "price", vk_R.of (hts _ (gT3 (List.mem_of_getElem? (i := 123) (by decide +kernel)))) h1, h2 D cA⟩
theorem xl_13 {b : Nat} {s : State} (hts : ∀ w ∈ lw_tbl, w.before #[Value.ref b] s = true) (hq : ∀ w ∈ nF, w.before #[Value.ref b] s = true) (D : va_G) (cA : Nat → ClassId) : ∃ (a : Nat) (tx : String), vk_R "PortDues$Parser" 180 tx a s ∧ ∀ z, Str D cA s z a 1936617332 s.heap := by
  obtain ⟨a, h1, h2⟩ := lit_of (own := "PortDues$Parser") (k := 180) (c := 1936617332) (run_of 263 8 hq (by decide +kernel)) (by decide +kernel)
  exact ⟨a, "tons", vk_R.of (hts _ (gT3 (List.mem_of_getElem? (i := 138) (by decide +kernel)))) h1, h2 D cA⟩
theorem xl_14 {b : Nat} {s : State} (hts : ∀ w ∈ lw_tbl, w.before #[Value.ref b] s = true) (hq : ∀ w ∈ nF, w.before #[Value.ref b] s = true) (D : va_G) (cA : Nat → ClassId) : ∃ (a : Nat) (tx : String), vk_R "PortDues$Parser" 189 tx a s ∧ ∀ z, Str D cA s z a 28532 s.heap := by
  obtain ⟨a, h1, h2⟩ := lit_of (own := "PortDues$Parser") (k := 189) (c := 28532) (run_of 279 6 hq (by decide +kernel)) (by decide +kernel)
  exact ⟨a, "to", vk_R.of (hts _ (gT3 (List.mem_of_getElem? (i := 140) (by decide +kernel)))) h1, h2 D cA⟩
theorem xl_15 {b : Nat} {s : State} (hts : ∀ w ∈ lw_tbl, w.before #[Value.ref b] s = true) (hq : ∀ w ∈ nF, w.before #[Value.ref b] s = true) (D : va_G) (cA : Nat → ClassId) : ∃ (a : Nat) (tx : String), vk_R "PortDues$Reports" 56 tx a s ∧ ∀ z, Str D cA s z a 32 s.heap := by
  obtain ⟨a, h1, h2⟩ := lit_of (own := "PortDues$Reports") (k := 56) (c := 32) (run_of 367 5 hq (by decide +kernel)) (by decide +kernel)
  exact ⟨a, " ", vk_R.of (hts _ (gT6 (List.mem_of_getElem? (i := 238) (by decide +kernel)))) h1, h2 D cA⟩
theorem xl_16 {b : Nat} {s : State} (hts : ∀ w ∈ lw_tbl, w.before #[Value.ref b] s = true) (hq : ∀ w ∈ nF, w.before #[Value.ref b] s = true) (D : va_G) (cA : Nat → ClassId) : ∃ (a : Nat) (tx : String), vk_R "PortDues$Reports" 79 tx a s ∧ ∀ z, Str D cA s z a 2334381286354218601 s.heap := by
  obtain ⟨a, h1, h2⟩ := lit_of (own := "PortDues$Reports") (k := 79) (c := 2334381286354218601) (run_of 372 12 hq (by decide +kernel)) (by decide +kernel)
  exact ⟨a, "invoice ", vk_R.of (hts _ (gT7 (List.mem_of_getElem? (i := 21) (by decide +kernel)))) h1, h2 D cA⟩
theorem xl_17 {b : Nat} {s : State} (hts : ∀ w ∈ lw_tbl, w.before #[Value.ref b] s = true) (hq : ∀ w ∈ nF, w.before #[Value.ref b] s = true) (D : va_G) (cA : Nat → ClassId) : ∃ (a : Nat) (tx : String), vk_R "PortDues$Reports" 81 tx a s ∧ ∀ z, Str D cA s z a 35667176878880 s.heap := by
  obtain ⟨a, h1, h2⟩ := lit_of (own := "PortDues$Reports") (k := 81) (c := 35667176878880) (run_of 384 10 hq (by decide +kernel)) (by decide +kernel)
  exact ⟨a, " ship ", vk_R.of (hts _ (gT7 (List.mem_of_getElem? (i := 22) (by decide +kernel)))) h1, h2 D cA⟩
theorem xl_18 {b : Nat} {s : State} (hts : ∀ w ∈ lw_tbl, w.before #[Value.ref b] s = true) (hq : ∀ w ∈ nF, w.before #[Value.ref b] s = true) (D : va_G) (cA : Nat → ClassId) : ∃ (a : Nat) (tx : String), vk_R "PortDues$Reports" 87 tx a s ∧ ∀ z, Str D cA s z a 35650046878496 s.heap := by
  obtain ⟨a, h1, h2⟩ := lit_of (own := "PortDues$Reports") (k := 87) (c := 35650046878496) (run_of 394 10 hq (by decide +kernel)) (by decide +kernel)
  exact ⟨a, " call ", vk_R.of (hts _ (gT7 (List.mem_of_getElem? (i := 23) (by decide +kernel)))) h1, h2 D cA⟩
theorem xl_19 {b : Nat} {s : State} (hts : ∀ w ∈ lw_tbl, w.before #[Value.ref b] s = true) (hq : ∀ w ∈ nF, w.before #[Value.ref b] s = true) (D : va_G) (cA : Nat → ClassId) : ∃ (a : Nat) (tx : String), vk_R "PortDues$Reports" 92 tx a s ∧ ∀ z, Str D cA s z a 35620116325408 s.heap := by
  obtain ⟨a, h1, h2⟩ := lit_of (own := "PortDues$Reports") (k := 92) (c := 35620116325408) (run_of 404 10 hq (by decide +kernel)) (by decide +kernel)
  exact ⟨a, " date ", vk_R.of (hts _ (gT7 (List.mem_of_getElem? (i := 24) (by decide +kernel)))) h1, h2 D cA⟩
theorem xl_20 {b : Nat} {s : State} (hts : ∀ w ∈ lw_tbl, w.before #[Value.ref b] s = true) (hq : ∀ w ∈ nF, w.before #[Value.ref b] s = true) (D : va_G) (cA : Nat → ClassId) : ∃ (a : Nat) (tx : String), vk_R "PortDues$Reports" 108 tx a s ∧ ∀ z, Str D cA s z a 544499054 s.heap := by
  obtain ⟨a, h1, h2⟩ := lit_of (own := "PortDues$Reports") (k := 108) (c := 544499054) (run_of 483 8 hq (by decide +kernel)) (by decide +kernel)
  exact ⟨a, "net ", vk_R.of (hts _ (gT7 (List.mem_of_getElem? (i := 46) (by decide +kernel)))) h1, h2 D cA⟩
theorem xl_21 {b : Nat} {s : State} (hts : ∀ w ∈ lw_tbl, w.before #[Value.ref b] s = true) (hq : ∀ w ∈ nF, w.before #[Value.ref b] s = true) (D : va_G) (cA : Nat → ClassId) : ∃ (a : Nat) (tx : String), vk_R "PortDues$Reports" 110 tx a s ∧ ∀ z, Str D cA s z a 35658520358688 s.heap := by
  obtain ⟨a, h1, h2⟩ := lit_of (own := "PortDues$Reports") (k := 110) (c := 35658520358688) (run_of 491 10 hq (by decide +kernel)) (by decide +kernel)
  exact ⟨a, " open ", vk_R.of (hts _ (gT7 (List.mem_of_getElem? (i := 47) (by decide +kernel)))) h1, h2 D cA⟩
theorem xl_22 {b : Nat} {s : State} (hts : ∀ w ∈ lw_tbl, w.before #[Value.ref b] s = true) (hq : ∀ w ∈ nF, w.before #[Value.ref b] s = true) (D : va_G) (cA : Nat → ClassId) : ∃ (a : Nat) (tx : String), vk_R "PortDues$Reports" 132 tx a s ∧ ∀ z, Str D cA s z a 1851984991346003960608 s.heap := by
  obtain ⟨a, h1, h2⟩ := lit_of (own := "PortDues$Reports") (k := 132) (c := 1851984991346003960608) (run_of 461 13 hq (by decide +kernel)) (by decide +kernel)
  exact ⟨a, " credited", vk_R.of (hts _ (gT7 (List.mem_of_getElem? (i := 44) (by decide +kernel)))) h1, h2 D cA⟩
theorem xl_23 {b : Nat} {s : State} (hts : ∀ w ∈ lw_tbl, w.before #[Value.ref b] s = true) (hq : ∀ w ∈ nF, w.before #[Value.ref b] s = true) (D : va_G) (cA : Nat → ClassId) : ∃ (a : Nat) (tx : String), vk_R "PortDues$Reports" 134 tx a s ∧ ∀ z, Str D cA s z a 139442744864 s.heap := by
  obtain ⟨a, h1, h2⟩ := lit_of (own := "PortDues$Reports") (k := 134) (c := 139442744864) (run_of 474 9 hq (by decide +kernel)) (by decide +kernel)
  exact ⟨a, " now ", vk_R.of (hts _ (gT7 (List.mem_of_getElem? (i := 45) (by decide +kernel)))) h1, h2 D cA⟩
theorem xl_24 {b : Nat} {s : State} (hts : ∀ w ∈ lw_tbl, w.before #[Value.ref b] s = true) (hq : ∀ w ∈ nF, w.before #[Value.ref b] s = true) (D : va_G) (cA : Nat → ClassId) : ∃ (a : Nat) (tx : String), vk_R "PortDues$Reports" 136 tx a s ∧ ∀ z, Str D cA s z a 139374982500 s.heap := by
  obtain ⟨a, h1, h2⟩ := lit_of (own := "PortDues$Reports") (k := 136) (c := 139374982500) (run_of 414 9 hq (by decide +kernel)) (by decide +kernel)
  exact ⟨a, "dues ", vk_R.of (hts _ (gT7 (List.mem_of_getElem? (i := 33) (by decide +kernel)))) h1, h2 D cA⟩
theorem xl_25 {b : Nat} {s : State} (hts : ∀ w ∈ lw_tbl, w.before #[Value.ref b] s = true) (hq : ∀ w ∈ nF, w.before #[Value.ref b] s = true) (D : va_G) (cA : Nat → ClassId) : ∃ (a : Nat) (tx : String), vk_R "PortDues$Reports" 138 tx a s ∧ ∀ z, Str D cA s z a 9118749779191154 s.heap := by
  obtain ⟨a, h1, h2⟩ := lit_of (own := "PortDues$Reports") (k := 138) (c := 9118749779191154) (run_of 423 11 hq (by decide +kernel)) (by decide +kernel)
  exact ⟨a, "rebate ", vk_R.of (hts _ (gT7 (List.mem_of_getElem? (i := 34) (by decide +kernel)))) h1, h2 D cA⟩
theorem xl_26 {b : Nat} {s : State} (hts : ∀ w ∈ lw_tbl, w.before #[Value.ref b] s = true) (hq : ∀ w ∈ nF, w.before #[Value.ref b] s = true) (D : va_G) (cA : Nat → ClassId) : ∃ (a : Nat) (tx : String), vk_R "PortDues$Reports" 140 tx a s ∧ ∀ z, Str D cA s z a 35620117504375 s.heap := by
  obtain ⟨a, h1, h2⟩ := lit_of (own := "PortDues$Reports") (k := 140) (c := 35620117504375) (run_of 434 10 hq (by decide +kernel)) (by decide +kernel)
  exact ⟨a, "waste ", vk_R.of (hts _ (gT7 (List.mem_of_getElem? (i := 35) (by decide +kernel)))) h1, h2 D cA⟩
theorem xl_27 {b : Nat} {s : State} (hts : ∀ w ∈ lw_tbl, w.before #[Value.ref b] s = true) (hq : ∀ w ∈ nF, w.before #[Value.ref b] s = true) (D : va_G) (cA : Nat → ClassId) : ∃ (a : Nat) (tx : String), vk_R "PortDues$Reports" 142 tx a s ∧ ∀ z, Str D cA s z a 544825708 s.heap := by
  obtain ⟨a, h1, h2⟩ := lit_of (own := "PortDues$Reports") (k := 142) (c := 544825708) (run_of 444 8 hq (by decide +kernel)) (by decide +kernel)
  exact ⟨a, "lay ", vk_R.of (hts _ (gT7 (List.mem_of_getElem? (i := 36) (by decide +kernel)))) h1, h2 D cA⟩
theorem xl_28 {b : Nat} {s : State} (hts : ∀ w ∈ lw_tbl, w.before #[Value.ref b] s = true) (hq : ∀ w ∈ nF, w.before #[Value.ref b] s = true) (D : va_G) (cA : Nat → ClassId) : ∃ (a : Nat) (tx : String), vk_R "PortDues$Reports" 148 tx a s ∧ ∀ z, Str D cA s z a 495957664800 s.heap := by
  obtain ⟨a, h1, h2⟩ := lit_of (own := "PortDues$Reports") (k := 148) (c := 495957664800) (run_of 452 9 hq (by decide +kernel)) (by decide +kernel)
  exact ⟨a, " days", vk_R.of (hts _ (gT7 (List.mem_of_getElem? (i := 41) (by decide +kernel)))) h1, h2 D cA⟩
theorem xl_29 {b : Nat} {s : State} (hts : ∀ w ∈ lw_tbl, w.before #[Value.ref b] s = true) (hq : ∀ w ∈ nF, w.before #[Value.ref b] s = true) (D : va_G) (cA : Nat → ClassId) : ∃ (a : Nat) (tx : String), vk_R "PortDues$Reports" 171 tx a s ∧ ∀ z, Str D cA s z a 2336927755350992246 s.heap := by
  obtain ⟨a, h1, h2⟩ := lit_of (own := "PortDues$Reports") (k := 171) (c := 2336927755350992246) (run_of 501 12 hq (by decide +kernel)) (by decide +kernel)
  exact ⟨a, "version ", vk_R.of (hts _ (gT7 (List.mem_of_getElem? (i := 60) (by decide +kernel)))) h1, h2 D cA⟩
theorem xl_30 {b : Nat} {s : State} (hts : ∀ w ∈ lw_tbl, w.before #[Value.ref b] s = true) (hq : ∀ w ∈ nF, w.before #[Value.ref b] s = true) (D : va_G) (cA : Nat → ClassId) : ∃ (a : Nat) (tx : String), vk_R "PortDues$Reports" 179 tx a s ∧ ∀ z, Str D cA s z a 11417657570058 s.heap := by
  obtain ⟨a, h1, h2⟩ := lit_of (own := "PortDues$Reports") (k := 179) (c := 11417657570058) (run_of 513 10 hq (by decide +kernel)) (by decide +kernel)
  exact ⟨a, "\nslab\n", vk_R.of (hts _ (gT7 (List.mem_of_getElem? (i := 61) (by decide +kernel)))) h1, h2 D cA⟩
theorem xl_31 {b : Nat} {s : State} (hts : ∀ w ∈ lw_tbl, w.before #[Value.ref b] s = true) (hq : ∀ w ∈ nF, w.before #[Value.ref b] s = true) (D : va_G) (cA : Nat → ClassId) : ∃ (a : Nat) (tx : String), vk_R "PortDues$Reports" 181 tx a s ∧ ∀ z, Str D cA s z a 753057040345887498 s.heap := by
  obtain ⟨a, h1, h2⟩ := lit_of (own := "PortDues$Reports") (k := 181) (c := 753057040345887498) (run_of 523 12 hq (by decide +kernel)) (by decide +kernel)
  exact ⟨a, "\nslices\n", vk_R.of (hts _ (gT7 (List.mem_of_getElem? (i := 62) (by decide +kernel)))) h1, h2 D cA⟩
theorem xl_32 {b : Nat} {s : State} (hts : ∀ w ∈ lw_tbl, w.before #[Value.ref b] s = true) (hq : ∀ w ∈ nF, w.before #[Value.ref b] s = true) (D : va_G) (cA : Nat → ClassId) : ∃ (a : Nat) (tx : String), vk_R "PortDues$Reports" 186 tx a s ∧ ∀ z, Str D cA s z a 139123908962 s.heap := by
  obtain ⟨a, h1, h2⟩ := lit_of (own := "PortDues$Reports") (k := 186) (c := 139123908962) (run_of 535 9 hq (by decide +kernel)) (by decide +kernel)
  exact ⟨a, "band ", vk_R.of (hts _ (gT7 (List.mem_of_getElem? (i := 63) (by decide +kernel)))) h1, h2 D cA⟩
theorem xl_33 {b : Nat} {s : State} (hts : ∀ w ∈ lw_tbl, w.before #[Value.ref b] s = true) (hq : ∀ w ∈ nF, w.before #[Value.ref b] s = true) (D : va_G) (cA : Nat → ClassId) : ∃ (a : Nat) (tx : String), vk_R "PortDues$Reports" 191 tx a s ∧ ∀ z, Str D cA s z a 35620116328992 s.heap := by
  obtain ⟨a, h1, h2⟩ := lit_of (own := "PortDues$Reports") (k := 191) (c := 35620116328992) (run_of 544 10 hq (by decide +kernel)) (by decide +kernel)
  exact ⟨a, " rate ", vk_R.of (hts _ (gT7 (List.mem_of_getElem? (i := 64) (by decide +kernel)))) h1, h2 D cA⟩
theorem xl_34 {b : Nat} {s : State} (hts : ∀ w ∈ lw_tbl, w.before #[Value.ref b] s = true) (hq : ∀ w ∈ nF, w.before #[Value.ref b] s = true) (D : va_G) (cA : Nat → ClassId) : ∃ (a : Nat) (tx : String), vk_R "PortDues$Reports" 206 tx a s ∧ ∀ z, Str D cA s z a 598685564992338882592 s.heap := by
  obtain ⟨a, h1, h2⟩ := lit_of (own := "PortDues$Reports") (k := 206) (c := 598685564992338882592) (run_of 572 13 hq (by decide +kernel)) (by decide +kernel)
  exact ⟨a, " percent ", vk_R.of (hts _ (gT7 (List.mem_of_getElem? (i := 71) (by decide +kernel)))) h1, h2 D cA⟩
theorem xl_35 {b : Nat} {s : State} (hts : ∀ w ∈ lw_tbl, w.before #[Value.ref b] s = true) (hq : ∀ w ∈ nF, w.before #[Value.ref b] s = true) (D : va_G) (cA : Nat → ClassId) : ∃ (a : Nat) (tx : String), vk_R "PortDues$Reports" 211 tx a s ∧ ∀ z, Str D cA s z a 10024892076463357237700813175 s.heap := by
  obtain ⟨a, h1, h2⟩ := lit_of (own := "PortDues$Reports") (k := 211) (c := 10024892076463357237700813175) (run_of 585 16 hq (by decide +kernel)) (by decide +kernel)
  exact ⟨a, "waste fixed ", vk_R.of (hts _ (gT7 (List.mem_of_getElem? (i := 72) (by decide +kernel)))) h1, h2 D cA⟩
theorem xl_36 {b : Nat} {s : State} (hts : ∀ w ∈ lw_tbl, w.before #[Value.ref b] s = true) (hq : ∀ w ∈ nF, w.before #[Value.ref b] s = true) (D : va_G) (cA : Nat → ClassId) : ∃ (a : Nat) (tx : String), vk_R "PortDues$Reports" 216 tx a s ∧ ∀ z, Str D cA s z a 35619865781792 s.heap := by
  obtain ⟨a, h1, h2⟩ := lit_of (own := "PortDues$Reports") (k := 216) (c := 35619865781792) (run_of 601 10 hq (by decide +kernel)) (by decide +kernel)
  exact ⟨a, " free ", vk_R.of (hts _ (gT7 (List.mem_of_getElem? (i := 73) (by decide +kernel)))) h1, h2 D cA⟩
theorem xl_37 {b : Nat} {s : State} (hts : ∀ w ∈ lw_tbl, w.before #[Value.ref b] s = true) (hq : ∀ w ∈ nF, w.before #[Value.ref b] s = true) (D : va_G) (cA : Nat → ClassId) : ∃ (a : Nat) (tx : String), vk_R "PortDues$Reports" 221 tx a s ∧ ∀ z, Str D cA s z a 9118676900016160 s.heap := by
  obtain ⟨a, h1, h2⟩ := lit_of (own := "PortDues$Reports") (k := 221) (c := 9118676900016160) (run_of 611 11 hq (by decide +kernel)) (by decide +kernel)
  exact ⟨a, " price ", vk_R.of (hts _ (gT7 (List.mem_of_getElem? (i := 74) (by decide +kernel)))) h1, h2 D cA⟩
theorem xl_38 {b : Nat} {s : State} (hts : ∀ w ∈ lw_tbl, w.before #[Value.ref b] s = true) (hq : ∀ w ∈ nF, w.before #[Value.ref b] s = true) (D : va_G) (cA : Nat → ClassId) : ∃ (a : Nat) (tx : String), vk_R "PortDues$Reports" 226 tx a s ∧ ∀ z, Str D cA s z a 597602182112141205868 s.heap := by
  obtain ⟨a, h1, h2⟩ := lit_of (own := "PortDues$Reports") (k := 226) (c := 597602182112141205868) (run_of 622 13 hq (by decide +kernel)) (by decide +kernel)
  exact ⟨a, "lay free ", vk_R.of (hts _ (gT7 (List.mem_of_getElem? (i := 75) (by decide +kernel)))) h1, h2 D cA⟩
theorem xl_39 {b : Nat} {s : State} (hts : ∀ w ∈ lw_tbl, w.before #[Value.ref b] s = true) (hq : ∀ w ∈ nF, w.before #[Value.ref b] s = true) (D : va_G) (cA : Nat → ClassId) : ∃ (a : Nat) (tx : String), vk_R "PortDues$Reports" 234 tx a s ∧ ∀ z, Str D cA s z a 191701742837314380576 s.heap := by
  obtain ⟨a, h1, h2⟩ := lit_of (own := "PortDues$Reports") (k := 234) (c := 191701742837314380576) (run_of 554 13 hq (by decide +kernel)) (by decide +kernel)
  exact ⟨a, " changed\n", vk_R.of (hts _ (gT7 (List.mem_of_getElem? (i := 69) (by decide +kernel)))) h1, h2 D cA⟩
theorem xl_40 {b : Nat} {s : State} (hts : ∀ w ∈ lw_tbl, w.before #[Value.ref b] s = true) (hq : ∀ w ∈ nF, w.before #[Value.ref b] s = true) (D : va_G) (cA : Nat → ClassId) : ∃ (a : Nat) (tx : String), vk_R "PortDues$Reports" 236 tx a s ∧ ∀ z, Str D cA s z a 10 s.heap := by
  obtain ⟨a, h1, h2⟩ := lit_of (own := "PortDues$Reports") (k := 236) (c := 10) (run_of 567 5 hq (by decide +kernel)) (by decide +kernel)
  exact ⟨a, "\n", vk_R.of (hts _ (gT7 (List.mem_of_getElem? (i := 70) (by decide +kernel)))) h1, h2 D cA⟩
theorem xl_41 {b : Nat} {s : State} (hts : ∀ w ∈ lw_tbl, w.before #[Value.ref b] s = true) (hq : ∀ w ∈ nF, w.before #[Value.ref b] s = true) (D : va_G) (cA : Nat → ClassId) : ∃ (a : Nat) (tx : String), vk_R "PortDuesModel" 128 tx a s ∧ ∀ z, Str D cA s z a 126879296744563 s.heap := by
  obtain ⟨a, h1, h2⟩ := lit_of (own := "PortDuesModel") (k := 128) (c := 126879296744563) (run_of 635 10 hq (by decide +kernel)) (by decide +kernel)
  exact ⟨a, "slices", vk_R.of (hts _ (gT7 (List.mem_of_getElem? (i := 219) (by decide +kernel)))) h1, h2 D cA⟩
theorem xl_42 {b : Nat} {s : State} (hts : ∀ w ∈ lw_tbl, w.before #[Value.ref b] s = true) (hq : ∀ w ∈ nF, w.before #[Value.ref b] s = true) (D : va_G) (cA : Nat → ClassId) : ∃ (a : Nat) (tx : String), vk_R "PortDuesModel" 130 tx a s ∧ ∀ z, Str D cA s z a 1650551923 s.heap := by
  obtain ⟨a, h1, h2⟩ := lit_of (own := "PortDuesModel") (k := 130) (c := 1650551923) (run_of 646 8 hq (by decide +kernel)) (by decide +kernel)
  exact ⟨a, "slab", vk_R.of (hts _ (gT8 (List.mem_of_getElem? (i := 6) (by decide +kernel)))) h1, h2 D cA⟩
theorem xl_43 {b : Nat} {s : State} (hts : ∀ w ∈ lw_tbl, w.before #[Value.ref b] s = true) (hq : ∀ w ∈ nF, w.before #[Value.ref b] s = true) (D : va_G) (cA : Nat → ClassId) : ∃ (a : Nat) (tx : String), vk_R "PortDuesModel" 132 tx a s ∧ ∀ z, Str D cA s z a 1684955490 s.heap := by
  obtain ⟨a, h1, h2⟩ := lit_of (own := "PortDuesModel") (k := 132) (c := 1684955490) (run_of 655 8 hq (by decide +kernel)) (by decide +kernel)
  exact ⟨a, "band", vk_R.of (hts _ (gT8 (List.mem_of_getElem? (i := 7) (by decide +kernel)))) h1, h2 D cA⟩
theorem xl_44 {b : Nat} {s : State} (hts : ∀ w ∈ lw_tbl, w.before #[Value.ref b] s = true) (hq : ∀ w ∈ nF, w.before #[Value.ref b] s = true) (D : va_G) (cA : Nat → ClassId) : ∃ (a : Nat) (tx : String), vk_R "PortDuesModel" 134 tx a s ∧ ∀ z, Str D cA s z a 1702125938 s.heap := by
  obtain ⟨a, h1, h2⟩ := lit_of (own := "PortDuesModel") (k := 134) (c := 1702125938) (run_of 664 8 hq (by decide +kernel)) (by decide +kernel)
  exact ⟨a, "rate", vk_R.of (hts _ (gT8 (List.mem_of_getElem? (i := 16) (by decide +kernel)))) h1, h2 D cA⟩
theorem xl_45 {b : Nat} {s : State} (hts : ∀ w ∈ lw_tbl, w.before #[Value.ref b] s = true) (hq : ∀ w ∈ nF, w.before #[Value.ref b] s = true) (D : va_G) (cA : Nat → ClassId) : ∃ (a : Nat) (tx : String), vk_R "PortDuesModel" 136 tx a s ∧ ∀ z, Str D cA s z a 111550524450162 s.heap := by
  obtain ⟨a, h1, h2⟩ := lit_of (own := "PortDuesModel") (k := 136) (c := 111550524450162) (run_of 673 10 hq (by decide +kernel)) (by decide +kernel)
  exact ⟨a, "rebate", vk_R.of (hts _ (gT8 (List.mem_of_getElem? (i := 25) (by decide +kernel)))) h1, h2 D cA⟩
theorem xl_46 {b : Nat} {s : State} (hts : ∀ w ∈ lw_tbl, w.before #[Value.ref b] s = true) (hq : ∀ w ∈ nF, w.before #[Value.ref b] s = true) (D : va_G) (cA : Nat → ClassId) : ∃ (a : Nat) (tx : String), vk_R "PortDuesModel" 138 tx a s ∧ ∀ z, Str D cA s z a 32772479037629808 s.heap := by
  obtain ⟨a, h1, h2⟩ := lit_of (own := "PortDuesModel") (k := 138) (c := 32772479037629808) (run_of 684 11 hq (by decide +kernel)) (by decide +kernel)
  exact ⟨a, "percent", vk_R.of (hts _ (gT8 (List.mem_of_getElem? (i := 30) (by decide +kernel)))) h1, h2 D cA⟩
theorem xl_47 {b : Nat} {s : State} (hts : ∀ w ∈ lw_tbl, w.before #[Value.ref b] s = true) (hq : ∀ w ∈ nF, w.before #[Value.ref b] s = true) (D : va_G) (cA : Nat → ClassId) : ∃ (a : Nat) (tx : String), vk_R "PortDuesModel" 140 tx a s ∧ ∀ z, Str D cA s z a 435745415543 s.heap := by
  obtain ⟨a, h1, h2⟩ := lit_of (own := "PortDuesModel") (k := 140) (c := 435745415543) (run_of 696 9 hq (by decide +kernel)) (by decide +kernel)
  exact ⟨a, "waste", vk_R.of (hts _ (gT8 (List.mem_of_getElem? (i := 31) (by decide +kernel)))) h1, h2 D cA⟩
theorem xl_48 {b : Nat} {s : State} (hts : ∀ w ∈ lw_tbl, w.before #[Value.ref b] s = true) (hq : ∀ w ∈ nF, w.before #[Value.ref b] s = true) (D : va_G) (cA : Nat → ClassId) : ∃ (a : Nat) (tx : String), vk_R "PortDuesModel" 142 tx a s ∧ ∀ z, Str D cA s z a 431199119718 s.heap := by
  obtain ⟨a, h1, h2⟩ := lit_of (own := "PortDuesModel") (k := 142) (c := 431199119718) (run_of 706 9 hq (by decide +kernel)) (by decide +kernel)
  exact ⟨a, "fixed", vk_R.of (hts _ (gT8 (List.mem_of_getElem? (i := 36) (by decide +kernel)))) h1, h2 D cA⟩
theorem xl_49 {b : Nat} {s : State} (hts : ∀ w ∈ lw_tbl, w.before #[Value.ref b] s = true) (hq : ∀ w ∈ nF, w.before #[Value.ref b] s = true) (D : va_G) (cA : Nat → ClassId) : ∃ (a : Nat) (tx : String), vk_R "PortDuesModel" 144 tx a s ∧ ∀ z, Str D cA s z a 1701147238 s.heap := by
  obtain ⟨a, h1, h2⟩ := lit_of (own := "PortDuesModel") (k := 144) (c := 1701147238) (run_of 716 8 hq (by decide +kernel)) (by decide +kernel)
  exact ⟨a, "free", vk_R.of (hts _ (gT8 (List.mem_of_getElem? (i := 37) (by decide +kernel)))) h1, h2 D cA⟩
theorem xl_50 {b : Nat} {s : State} (hts : ∀ w ∈ lw_tbl, w.before #[Value.ref b] s = true) (hq : ∀ w ∈ nF, w.before #[Value.ref b] s = true) (D : va_G) (cA : Nat → ClassId) : ∃ (a : Nat) (tx : String), vk_R "PortDuesModel" 146 tx a s ∧ ∀ z, Str D cA s z a 435459551856 s.heap := by
  obtain ⟨a, h1, h2⟩ := lit_of (own := "PortDuesModel") (k := 146) (c := 435459551856) (run_of 725 9 hq (by decide +kernel)) (by decide +kernel)
  exact ⟨a, "price", vk_R.of (hts _ (gT8 (List.mem_of_getElem? (i := 38) (by decide +kernel)))) h1, h2 D cA⟩
theorem xl_51 {b : Nat} {s : State} (hts : ∀ w ∈ lw_tbl, w.before #[Value.ref b] s = true) (hq : ∀ w ∈ nF, w.before #[Value.ref b] s = true) (D : va_G) (cA : Nat → ClassId) : ∃ (a : Nat) (tx : String), vk_R "PortDuesModel" 148 tx a s ∧ ∀ z, Str D cA s z a 7954796 s.heap := by
  obtain ⟨a, h1, h2⟩ := lit_of (own := "PortDuesModel") (k := 148) (c := 7954796) (run_of 735 7 hq (by decide +kernel)) (by decide +kernel)
  exact ⟨a, "lay", vk_R.of (hts _ (gT8 (List.mem_of_getElem? (i := 39) (by decide +kernel)))) h1, h2 D cA⟩
theorem xl_52 {b : Nat} {s : State} (hts : ∀ w ∈ lw_tbl, w.before #[Value.ref b] s = true) (hq : ∀ w ∈ nF, w.before #[Value.ref b] s = true) (D : va_G) (cA : Nat → ClassId) : ∃ (a : Nat) (tx : String), vk_R "PortDuesModel" 150 tx a s ∧ ∀ z, Str D cA s z a 1885956211 s.heap := by
  obtain ⟨a, h1, h2⟩ := lit_of (own := "PortDuesModel") (k := 150) (c := 1885956211) (run_of 743 8 hq (by decide +kernel)) (by decide +kernel)
  exact ⟨a, "ship", vk_R.of (hts _ (gT8 (List.mem_of_getElem? (i := 44) (by decide +kernel)))) h1, h2 D cA⟩
theorem xl_53 {b : Nat} {s : State} (hts : ∀ w ∈ lw_tbl, w.before #[Value.ref b] s = true) (hq : ∀ w ∈ nF, w.before #[Value.ref b] s = true) (D : va_G) (cA : Nat → ClassId) : ∃ (a : Nat) (tx : String), vk_R "PortDuesModel" 152 tx a s ∧ ∀ z, Str D cA s z a 1936617332 s.heap := by
  obtain ⟨a, h1, h2⟩ := lit_of (own := "PortDuesModel") (k := 152) (c := 1936617332) (run_of 752 8 hq (by decide +kernel)) (by decide +kernel)
  exact ⟨a, "tons", vk_R.of (hts _ (gT8 (List.mem_of_getElem? (i := 57) (by decide +kernel)))) h1, h2 D cA⟩
theorem xl_54 {b : Nat} {s : State} (hts : ∀ w ∈ lw_tbl, w.before #[Value.ref b] s = true) (hq : ∀ w ∈ nF, w.before #[Value.ref b] s = true) (D : va_G) (cA : Nat → ClassId) : ∃ (a : Nat) (tx : String), vk_R "PortDuesModel" 154 tx a s ∧ ∀ z, Str D cA s z a 1819042147 s.heap := by
  obtain ⟨a, h1, h2⟩ := lit_of (own := "PortDuesModel") (k := 154) (c := 1819042147) (run_of 761 8 hq (by decide +kernel)) (by decide +kernel)
  exact ⟨a, "call", vk_R.of (hts _ (gT8 (List.mem_of_getElem? (i := 58) (by decide +kernel)))) h1, h2 D cA⟩
theorem xl_55 {b : Nat} {s : State} (hts : ∀ w ∈ lw_tbl, w.before #[Value.ref b] s = true) (hq : ∀ w ∈ nF, w.before #[Value.ref b] s = true) (D : va_G) (cA : Nat → ClassId) : ∃ (a : Nat) (tx : String), vk_R "PortDuesModel" 156 tx a s ∧ ∀ z, Str D cA s z a 28532 s.heap := by
  obtain ⟨a, h1, h2⟩ := lit_of (own := "PortDuesModel") (k := 156) (c := 28532) (run_of 770 6 hq (by decide +kernel)) (by decide +kernel)
  exact ⟨a, "to", vk_R.of (hts _ (gT8 (List.mem_of_getElem? (i := 59) (by decide +kernel)))) h1, h2 D cA⟩
theorem xl_56 {b : Nat} {s : State} (hts : ∀ w ∈ lw_tbl, w.before #[Value.ref b] s = true) (hq : ∀ w ∈ nF, w.before #[Value.ref b] s = true) (D : va_G) (cA : Nat → ClassId) : ∃ (a : Nat) (tx : String), vk_R "PortDuesModel" 466 tx a s ∧ ∀ z, Str D cA s z a 139374982500 s.heap := by
  obtain ⟨a, h1, h2⟩ := lit_of (own := "PortDuesModel") (k := 466) (c := 139374982500) (run_of 823 9 hq (by decide +kernel)) (by decide +kernel)
  exact ⟨a, "dues ", vk_R.of (hts _ (gT10 (List.mem_of_getElem? (i := 118) (by decide +kernel)))) h1, h2 D cA⟩
theorem xl_57 {b : Nat} {s : State} (hts : ∀ w ∈ lw_tbl, w.before #[Value.ref b] s = true) (hq : ∀ w ∈ nF, w.before #[Value.ref b] s = true) (D : va_G) (cA : Nat → ClassId) : ∃ (a : Nat) (tx : String), vk_R "PortDuesModel" 468 tx a s ∧ ∀ z, Str D cA s z a 9118749779191154 s.heap := by
  obtain ⟨a, h1, h2⟩ := lit_of (own := "PortDuesModel") (k := 468) (c := 9118749779191154) (run_of 833 11 hq (by decide +kernel)) (by decide +kernel)
  exact ⟨a, "rebate ", vk_R.of (hts _ (gT10 (List.mem_of_getElem? (i := 119) (by decide +kernel)))) h1, h2 D cA⟩
theorem xl_58 {b : Nat} {s : State} (hts : ∀ w ∈ lw_tbl, w.before #[Value.ref b] s = true) (hq : ∀ w ∈ nF, w.before #[Value.ref b] s = true) (D : va_G) (cA : Nat → ClassId) : ∃ (a : Nat) (tx : String), vk_R "PortDuesModel" 470 tx a s ∧ ∀ z, Str D cA s z a 35620117504375 s.heap := by
  obtain ⟨a, h1, h2⟩ := lit_of (own := "PortDuesModel") (k := 470) (c := 35620117504375) (run_of 845 10 hq (by decide +kernel)) (by decide +kernel)
  exact ⟨a, "waste ", vk_R.of (hts _ (gT10 (List.mem_of_getElem? (i := 120) (by decide +kernel)))) h1, h2 D cA⟩
theorem xl_59 {b : Nat} {s : State} (hts : ∀ w ∈ lw_tbl, w.before #[Value.ref b] s = true) (hq : ∀ w ∈ nF, w.before #[Value.ref b] s = true) (D : va_G) (cA : Nat → ClassId) : ∃ (a : Nat) (tx : String), vk_R "PortDuesModel" 472 tx a s ∧ ∀ z, Str D cA s z a 544825708 s.heap := by
  obtain ⟨a, h1, h2⟩ := lit_of (own := "PortDuesModel") (k := 472) (c := 544825708) (run_of 856 8 hq (by decide +kernel)) (by decide +kernel)
  exact ⟨a, "lay ", vk_R.of (hts _ (gT10 (List.mem_of_getElem? (i := 121) (by decide +kernel)))) h1, h2 D cA⟩
theorem xl_60 {b : Nat} {s : State} (hts : ∀ w ∈ lw_tbl, w.before #[Value.ref b] s = true) (hq : ∀ w ∈ nF, w.before #[Value.ref b] s = true) (D : va_G) (cA : Nat → ClassId) : ∃ (a : Nat) (tx : String), vk_R "PortDuesModel" 474 tx a s ∧ ∀ z, Str D cA s z a 495957664800 s.heap := by
  obtain ⟨a, h1, h2⟩ := lit_of (own := "PortDuesModel") (k := 474) (c := 495957664800) (run_of 865 9 hq (by decide +kernel)) (by decide +kernel)
  exact ⟨a, " days", vk_R.of (hts _ (gT10 (List.mem_of_getElem? (i := 126) (by decide +kernel)))) h1, h2 D cA⟩
theorem xl_61 {b : Nat} {s : State} (hts : ∀ w ∈ lw_tbl, w.before #[Value.ref b] s = true) (hq : ∀ w ∈ nF, w.before #[Value.ref b] s = true) (D : va_G) (cA : Nat → ClassId) : ∃ (a : Nat) (tx : String), vk_R "PortDuesModel" 476 tx a s ∧ ∀ z, Str D cA s z a 32 s.heap := by
  obtain ⟨a, h1, h2⟩ := lit_of (own := "PortDuesModel") (k := 476) (c := 32) (run_of 875 5 hq (by decide +kernel)) (by decide +kernel)
  exact ⟨a, " ", vk_R.of (hts _ (gT10 (List.mem_of_getElem? (i := 127) (by decide +kernel)))) h1, h2 D cA⟩
theorem xl_62 {b : Nat} {s : State} (hts : ∀ w ∈ lw_tbl, w.before #[Value.ref b] s = true) (hq : ∀ w ∈ nF, w.before #[Value.ref b] s = true) (D : va_G) (cA : Nat → ClassId) : ∃ (a : Nat) (tx : String), vk_R "PortDuesModel" 489 tx a s ∧ ∀ z, Str D cA s z a 1851984991346003960608 s.heap := by
  obtain ⟨a, h1, h2⟩ := lit_of (own := "PortDuesModel") (k := 489) (c := 1851984991346003960608) (run_of 881 13 hq (by decide +kernel)) (by decide +kernel)
  exact ⟨a, " credited", vk_R.of (hts _ (gT10 (List.mem_of_getElem? (i := 128) (by decide +kernel)))) h1, h2 D cA⟩
theorem xl_63 {b : Nat} {s : State} (hts : ∀ w ∈ lw_tbl, w.before #[Value.ref b] s = true) (hq : ∀ w ∈ nF, w.before #[Value.ref b] s = true) (D : va_G) (cA : Nat → ClassId) : ∃ (a : Nat) (tx : String), vk_R "PortDuesModel" 491 tx a s ∧ ∀ z, Str D cA s z a 139442744864 s.heap := by
  obtain ⟨a, h1, h2⟩ := lit_of (own := "PortDuesModel") (k := 491) (c := 139442744864) (run_of 895 9 hq (by decide +kernel)) (by decide +kernel)
  exact ⟨a, " now ", vk_R.of (hts _ (gT10 (List.mem_of_getElem? (i := 129) (by decide +kernel)))) h1, h2 D cA⟩
theorem xl_64 {b : Nat} {s : State} (hts : ∀ w ∈ lw_tbl, w.before #[Value.ref b] s = true) (hq : ∀ w ∈ nF, w.before #[Value.ref b] s = true) (D : va_G) (cA : Nat → ClassId) : ∃ (a : Nat) (tx : String), vk_R "PortDuesModel" 493 tx a s ∧ ∀ z, Str D cA s z a 2334381286354218601 s.heap := by
  obtain ⟨a, h1, h2⟩ := lit_of (own := "PortDuesModel") (k := 493) (c := 2334381286354218601) (run_of 777 12 hq (by decide +kernel)) (by decide +kernel)
  exact ⟨a, "invoice ", vk_R.of (hts _ (gT10 (List.mem_of_getElem? (i := 99) (by decide +kernel)))) h1, h2 D cA⟩
theorem xl_65 {b : Nat} {s : State} (hts : ∀ w ∈ lw_tbl, w.before #[Value.ref b] s = true) (hq : ∀ w ∈ nF, w.before #[Value.ref b] s = true) (D : va_G) (cA : Nat → ClassId) : ∃ (a : Nat) (tx : String), vk_R "PortDuesModel" 495 tx a s ∧ ∀ z, Str D cA s z a 35667176878880 s.heap := by
  obtain ⟨a, h1, h2⟩ := lit_of (own := "PortDuesModel") (k := 495) (c := 35667176878880) (run_of 790 10 hq (by decide +kernel)) (by decide +kernel)
  exact ⟨a, " ship ", vk_R.of (hts _ (gT10 (List.mem_of_getElem? (i := 108) (by decide +kernel)))) h1, h2 D cA⟩
theorem xl_66 {b : Nat} {s : State} (hts : ∀ w ∈ lw_tbl, w.before #[Value.ref b] s = true) (hq : ∀ w ∈ nF, w.before #[Value.ref b] s = true) (D : va_G) (cA : Nat → ClassId) : ∃ (a : Nat) (tx : String), vk_R "PortDuesModel" 497 tx a s ∧ ∀ z, Str D cA s z a 35650046878496 s.heap := by
  obtain ⟨a, h1, h2⟩ := lit_of (own := "PortDuesModel") (k := 497) (c := 35650046878496) (run_of 801 10 hq (by decide +kernel)) (by decide +kernel)
  exact ⟨a, " call ", vk_R.of (hts _ (gT10 (List.mem_of_getElem? (i := 109) (by decide +kernel)))) h1, h2 D cA⟩
theorem xl_67 {b : Nat} {s : State} (hts : ∀ w ∈ lw_tbl, w.before #[Value.ref b] s = true) (hq : ∀ w ∈ nF, w.before #[Value.ref b] s = true) (D : va_G) (cA : Nat → ClassId) : ∃ (a : Nat) (tx : String), vk_R "PortDuesModel" 499 tx a s ∧ ∀ z, Str D cA s z a 35620116325408 s.heap := by
  obtain ⟨a, h1, h2⟩ := lit_of (own := "PortDuesModel") (k := 499) (c := 35620116325408) (run_of 812 10 hq (by decide +kernel)) (by decide +kernel)
  exact ⟨a, " date ", vk_R.of (hts _ (gT10 (List.mem_of_getElem? (i := 110) (by decide +kernel)))) h1, h2 D cA⟩
theorem xl_68 {b : Nat} {s : State} (hts : ∀ w ∈ lw_tbl, w.before #[Value.ref b] s = true) (hq : ∀ w ∈ nF, w.before #[Value.ref b] s = true) (D : va_G) (cA : Nat → ClassId) : ∃ (a : Nat) (tx : String), vk_R "PortDuesModel" 505 tx a s ∧ ∀ z, Str D cA s z a 544499054 s.heap := by
  obtain ⟨a, h1, h2⟩ := lit_of (own := "PortDuesModel") (k := 505) (c := 544499054) (run_of 905 8 hq (by decide +kernel)) (by decide +kernel)
  exact ⟨a, "net ", vk_R.of (hts _ (gT10 (List.mem_of_getElem? (i := 130) (by decide +kernel)))) h1, h2 D cA⟩
theorem xl_69 {b : Nat} {s : State} (hts : ∀ w ∈ lw_tbl, w.before #[Value.ref b] s = true) (hq : ∀ w ∈ nF, w.before #[Value.ref b] s = true) (D : va_G) (cA : Nat → ClassId) : ∃ (a : Nat) (tx : String), vk_R "PortDuesModel" 507 tx a s ∧ ∀ z, Str D cA s z a 35658520358688 s.heap := by
  obtain ⟨a, h1, h2⟩ := lit_of (own := "PortDuesModel") (k := 507) (c := 35658520358688) (run_of 914 10 hq (by decide +kernel)) (by decide +kernel)
  exact ⟨a, " open ", vk_R.of (hts _ (gT10 (List.mem_of_getElem? (i := 131) (by decide +kernel)))) h1, h2 D cA⟩
theorem xl_70 {b : Nat} {s : State} (hts : ∀ w ∈ lw_tbl, w.before #[Value.ref b] s = true) (hq : ∀ w ∈ nF, w.before #[Value.ref b] s = true) (D : va_G) (cA : Nat → ClassId) : ∃ (a : Nat) (tx : String), vk_R "PortDuesModel" 509 tx a s ∧ ∀ z, Str D cA s z a 7234302100218864416 s.heap := by
  obtain ⟨a, h1, h2⟩ := lit_of (own := "PortDuesModel") (k := 509) (c := 7234302100218864416) (run_of 983 12 hq (by decide +kernel)) (by decide +kernel)
  exact ⟨a, " changed", vk_R.of (hts _ (gT10 (List.mem_of_getElem? (i := 145) (by decide +kernel)))) h1, h2 D cA⟩
theorem xl_71 {b : Nat} {s : State} (hts : ∀ w ∈ lw_tbl, w.before #[Value.ref b] s = true) (hq : ∀ w ∈ nF, w.before #[Value.ref b] s = true) (D : va_G) (cA : Nat → ClassId) : ∃ (a : Nat) (tx : String), vk_R "PortDuesModel" 511 tx a s ∧ ∀ z, Str D cA s z a 2336927755350992246 s.heap := by
  obtain ⟨a, h1, h2⟩ := lit_of (own := "PortDuesModel") (k := 511) (c := 2336927755350992246) (run_of 925 12 hq (by decide +kernel)) (by decide +kernel)
  exact ⟨a, "version ", vk_R.of (hts _ (gT10 (List.mem_of_getElem? (i := 136) (by decide +kernel)))) h1, h2 D cA⟩
theorem xl_72 {b : Nat} {s : State} (hts : ∀ w ∈ lw_tbl, w.before #[Value.ref b] s = true) (hq : ∀ w ∈ nF, w.before #[Value.ref b] s = true) (D : va_G) (cA : Nat → ClassId) : ∃ (a : Nat) (tx : String), vk_R "PortDuesModel" 513 tx a s ∧ ∀ z, Str D cA s z a 753057040345887498 s.heap := by
  obtain ⟨a, h1, h2⟩ := lit_of (own := "PortDuesModel") (k := 513) (c := 753057040345887498) (run_of 938 12 hq (by decide +kernel)) (by decide +kernel)
  exact ⟨a, "\nslices\n", vk_R.of (hts _ (gT10 (List.mem_of_getElem? (i := 137) (by decide +kernel)))) h1, h2 D cA⟩
theorem xl_73 {b : Nat} {s : State} (hts : ∀ w ∈ lw_tbl, w.before #[Value.ref b] s = true) (hq : ∀ w ∈ nF, w.before #[Value.ref b] s = true) (D : va_G) (cA : Nat → ClassId) : ∃ (a : Nat) (tx : String), vk_R "PortDuesModel" 515 tx a s ∧ ∀ z, Str D cA s z a 11417657570058 s.heap := by
  obtain ⟨a, h1, h2⟩ := lit_of (own := "PortDuesModel") (k := 515) (c := 11417657570058) (run_of 951 10 hq (by decide +kernel)) (by decide +kernel)
  exact ⟨a, "\nslab\n", vk_R.of (hts _ (gT10 (List.mem_of_getElem? (i := 138) (by decide +kernel)))) h1, h2 D cA⟩
theorem xl_74 {b : Nat} {s : State} (hts : ∀ w ∈ lw_tbl, w.before #[Value.ref b] s = true) (hq : ∀ w ∈ nF, w.before #[Value.ref b] s = true) (D : va_G) (cA : Nat → ClassId) : ∃ (a : Nat) (tx : String), vk_R "PortDuesModel" 517 tx a s ∧ ∀ z, Str D cA s z a 139123908962 s.heap := by
  obtain ⟨a, h1, h2⟩ := lit_of (own := "PortDuesModel") (k := 517) (c := 139123908962) (run_of 962 9 hq (by decide +kernel)) (by decide +kernel)
  exact ⟨a, "band ", vk_R.of (hts _ (gT10 (List.mem_of_getElem? (i := 139) (by decide +kernel)))) h1, h2 D cA⟩
theorem xl_75 {b : Nat} {s : State} (hts : ∀ w ∈ lw_tbl, w.before #[Value.ref b] s = true) (hq : ∀ w ∈ nF, w.before #[Value.ref b] s = true) (D : va_G) (cA : Nat → ClassId) : ∃ (a : Nat) (tx : String), vk_R "PortDuesModel" 519 tx a s ∧ ∀ z, Str D cA s z a 35620116328992 s.heap := by
  obtain ⟨a, h1, h2⟩ := lit_of (own := "PortDuesModel") (k := 519) (c := 35620116328992) (run_of 972 10 hq (by decide +kernel)) (by decide +kernel)
  exact ⟨a, " rate ", vk_R.of (hts _ (gT10 (List.mem_of_getElem? (i := 140) (by decide +kernel)))) h1, h2 D cA⟩
theorem xl_76 {b : Nat} {s : State} (hts : ∀ w ∈ lw_tbl, w.before #[Value.ref b] s = true) (hq : ∀ w ∈ nF, w.before #[Value.ref b] s = true) (D : va_G) (cA : Nat → ClassId) : ∃ (a : Nat) (tx : String), vk_R "PortDuesModel" 524 tx a s ∧ ∀ z, Str D cA s z a 598685564992338882592 s.heap := by
  obtain ⟨a, h1, h2⟩ := lit_of (own := "PortDuesModel") (k := 524) (c := 598685564992338882592) (run_of 995 13 hq (by decide +kernel)) (by decide +kernel)
  exact ⟨a, " percent ", vk_R.of (hts _ (gT10 (List.mem_of_getElem? (i := 146) (by decide +kernel)))) h1, h2 D cA⟩
theorem xl_77 {b : Nat} {s : State} (hts : ∀ w ∈ lw_tbl, w.before #[Value.ref b] s = true) (hq : ∀ w ∈ nF, w.before #[Value.ref b] s = true) (D : va_G) (cA : Nat → ClassId) : ∃ (a : Nat) (tx : String), vk_R "PortDuesModel" 526 tx a s ∧ ∀ z, Str D cA s z a 10024892076463357237700813175 s.heap := by
  obtain ⟨a, h1, h2⟩ := lit_of (own := "PortDuesModel") (k := 526) (c := 10024892076463357237700813175) (run_of 1009 16 hq (by decide +kernel)) (by decide +kernel)
  exact ⟨a, "waste fixed ", vk_R.of (hts _ (gT10 (List.mem_of_getElem? (i := 147) (by decide +kernel)))) h1, h2 D cA⟩
theorem xl_78 {b : Nat} {s : State} (hts : ∀ w ∈ lw_tbl, w.before #[Value.ref b] s = true) (hq : ∀ w ∈ nF, w.before #[Value.ref b] s = true) (D : va_G) (cA : Nat → ClassId) : ∃ (a : Nat) (tx : String), vk_R "PortDuesModel" 528 tx a s ∧ ∀ z, Str D cA s z a 35619865781792 s.heap := by
  obtain ⟨a, h1, h2⟩ := lit_of (own := "PortDuesModel") (k := 528) (c := 35619865781792) (run_of 1026 10 hq (by decide +kernel)) (by decide +kernel)
  exact ⟨a, " free ", vk_R.of (hts _ (gT10 (List.mem_of_getElem? (i := 148) (by decide +kernel)))) h1, h2 D cA⟩
theorem xl_79 {b : Nat} {s : State} (hts : ∀ w ∈ lw_tbl, w.before #[Value.ref b] s = true) (hq : ∀ w ∈ nF, w.before #[Value.ref b] s = true) (D : va_G) (cA : Nat → ClassId) : ∃ (a : Nat) (tx : String), vk_R "PortDuesModel" 530 tx a s ∧ ∀ z, Str D cA s z a 9118676900016160 s.heap := by
  obtain ⟨a, h1, h2⟩ := lit_of (own := "PortDuesModel") (k := 530) (c := 9118676900016160) (run_of 1037 11 hq (by decide +kernel)) (by decide +kernel)
  exact ⟨a, " price ", vk_R.of (hts _ (gT10 (List.mem_of_getElem? (i := 149) (by decide +kernel)))) h1, h2 D cA⟩
theorem xl_80 {b : Nat} {s : State} (hts : ∀ w ∈ lw_tbl, w.before #[Value.ref b] s = true) (hq : ∀ w ∈ nF, w.before #[Value.ref b] s = true) (D : va_G) (cA : Nat → ClassId) : ∃ (a : Nat) (tx : String), vk_R "PortDuesModel" 532 tx a s ∧ ∀ z, Str D cA s z a 597602182112141205868 s.heap := by
  obtain ⟨a, h1, h2⟩ := lit_of (own := "PortDuesModel") (k := 532) (c := 597602182112141205868) (run_of 1049 13 hq (by decide +kernel)) (by decide +kernel)
  exact ⟨a, "lay free ", vk_R.of (hts _ (gT10 (List.mem_of_getElem? (i := 150) (by decide +kernel)))) h1, h2 D cA⟩
theorem st_Lit {b : Nat} {s : State} (hts : ∀ w ∈ lw_tbl, w.before #[Value.ref b] s = true) (hq : ∀ w ∈ nF, w.before #[Value.ref b] s = true) (D : va_G) (cA : Nat → ClassId) : xLit D cA s xlits := (List.forall_mem_cons.mpr ⟨xl_0 hts hq D cA, (List.forall_mem_cons.mpr ⟨xl_1 hts hq D cA, (List.forall_mem_cons.mpr ⟨xl_2 hts hq D cA, (List.forall_mem_cons.mpr ⟨xl_3 hts hq D cA, (List.forall_mem_cons.mpr ⟨xl_4 hts hq D cA, (List.forall_mem_cons.mpr ⟨xl_5 hts hq D cA, (List.forall_mem_cons.mpr ⟨xl_6 hts hq D cA, (List.forall_mem_cons.mpr ⟨xl_7 hts hq D cA, (List.forall_mem_cons.mpr ⟨xl_8 hts hq D cA, (List.forall_mem_cons.mpr ⟨xl_9 hts hq D cA, (List.forall_mem_cons.mpr ⟨xl_10 hts hq D cA, (List.forall_mem_cons.mpr ⟨xl_11 hts hq D cA, (List.forall_mem_cons.mpr ⟨xl_12 hts hq D cA, (List.forall_mem_cons.mpr ⟨xl_13 hts hq D cA, (List.forall_mem_cons.mpr ⟨xl_14 hts hq D cA, (List.forall_mem_cons.mpr ⟨xl_15 hts hq D cA, (List.forall_mem_cons.mpr ⟨xl_16 hts hq D cA, (List.forall_mem_cons.mpr ⟨xl_17 hts hq D cA, (List.forall_mem_cons.mpr ⟨xl_18 hts hq D cA, (List.forall_mem_cons.mpr ⟨xl_19 hts hq D cA, (List.forall_mem_cons.mpr ⟨xl_20 hts hq D cA, (List.forall_mem_cons.mpr ⟨xl_21 hts hq D cA, (List.forall_mem_cons.mpr ⟨xl_22 hts hq D cA, (List.forall_mem_cons.mpr ⟨xl_23 hts hq D cA, (List.forall_mem_cons.mpr ⟨xl_24 hts hq D cA, (List.forall_mem_cons.mpr ⟨xl_25 hts hq D cA, (List.forall_mem_cons.mpr ⟨xl_26 hts hq D cA, (List.forall_mem_cons.mpr ⟨xl_27 hts hq D cA, (List.forall_mem_cons.mpr ⟨xl_28 hts hq D cA, (List.forall_mem_cons.mpr ⟨xl_29 hts hq D cA, (List.forall_mem_cons.mpr ⟨xl_30 hts hq D cA, (List.forall_mem_cons.mpr ⟨xl_31 hts hq D cA, (List.forall_mem_cons.mpr ⟨xl_32 hts hq D cA, (List.forall_mem_cons.mpr ⟨xl_33 hts hq D cA, (List.forall_mem_cons.mpr ⟨xl_34 hts hq D cA, (List.forall_mem_cons.mpr ⟨xl_35 hts hq D cA, (List.forall_mem_cons.mpr ⟨xl_36 hts hq D cA, (List.forall_mem_cons.mpr ⟨xl_37 hts hq D cA, (List.forall_mem_cons.mpr ⟨xl_38 hts hq D cA, (List.forall_mem_cons.mpr ⟨xl_39 hts hq D cA, (List.forall_mem_cons.mpr ⟨xl_40 hts hq D cA, (List.forall_mem_cons.mpr ⟨xl_41 hts hq D cA, (List.forall_mem_cons.mpr ⟨xl_42 hts hq D cA, (List.forall_mem_cons.mpr ⟨xl_43 hts hq D cA, (List.forall_mem_cons.mpr ⟨xl_44 hts hq D cA, (List.forall_mem_cons.mpr ⟨xl_45 hts hq D cA, (List.forall_mem_cons.mpr ⟨xl_46 hts hq D cA, (List.forall_mem_cons.mpr ⟨xl_47 hts hq D cA, (List.forall_mem_cons.mpr ⟨xl_48 hts hq D cA, (List.forall_mem_cons.mpr ⟨xl_49 hts hq D cA, (List.forall_mem_cons.mpr ⟨xl_50 hts hq D cA, (List.forall_mem_cons.mpr ⟨xl_51 hts hq D cA, (List.forall_mem_cons.mpr ⟨xl_52 hts hq D cA, (List.forall_mem_cons.mpr ⟨xl_53 hts hq D cA, (List.forall_mem_cons.mpr ⟨xl_54 hts hq D cA, (List.forall_mem_cons.mpr ⟨xl_55 hts hq D cA, (List.forall_mem_cons.mpr ⟨xl_56 hts hq D cA, (List.forall_mem_cons.mpr ⟨xl_57 hts hq D cA, (List.forall_mem_cons.mpr ⟨xl_58 hts hq D cA, (List.forall_mem_cons.mpr ⟨xl_59 hts hq D cA, (List.forall_mem_cons.mpr ⟨xl_60 hts hq D cA, (List.forall_mem_cons.mpr ⟨xl_61 hts hq D cA, (List.forall_mem_cons.mpr ⟨xl_62 hts hq D cA, (List.forall_mem_cons.mpr ⟨xl_63 hts hq D cA, (List.forall_mem_cons.mpr ⟨xl_64 hts hq D cA, (List.forall_mem_cons.mpr ⟨xl_65 hts hq D cA, (List.forall_mem_cons.mpr ⟨xl_66 hts hq D cA, (List.forall_mem_cons.mpr ⟨xl_67 hts hq D cA, (List.forall_mem_cons.mpr ⟨xl_68 hts hq D cA, (List.forall_mem_cons.mpr ⟨xl_69 hts hq D cA, (List.forall_mem_cons.mpr ⟨xl_70 hts hq D cA, (List.forall_mem_cons.mpr ⟨xl_71 hts hq D cA, (List.forall_mem_cons.mpr ⟨xl_72 hts hq D cA, (List.forall_mem_cons.mpr ⟨xl_73 hts hq D cA, (List.forall_mem_cons.mpr ⟨xl_74 hts hq D cA, (List.forall_mem_cons.mpr ⟨xl_75 hts hq D cA, (List.forall_mem_cons.mpr ⟨xl_76 hts hq D cA, (List.forall_mem_cons.mpr ⟨xl_77 hts hq D cA, (List.forall_mem_cons.mpr ⟨xl_78 hts hq D cA, (List.forall_mem_cons.mpr ⟨xl_79 hts hq D cA, (List.forall_mem_cons.mpr ⟨xl_80 hts hq D cA, (fun _ h => absurd h List.not_mem_nil)⟩)⟩)⟩)⟩)⟩)⟩)⟩)⟩)⟩)⟩)⟩)⟩)⟩)⟩)⟩)⟩)⟩)⟩)⟩)⟩)⟩)⟩)⟩)⟩)⟩)⟩)⟩)⟩)⟩)⟩)⟩)⟩)⟩)⟩)⟩)⟩)⟩)⟩)⟩)⟩)⟩)⟩)⟩)⟩)⟩)⟩)⟩)⟩)⟩)⟩)⟩)⟩)⟩)⟩)⟩)⟩)⟩)⟩)⟩)⟩)⟩)⟩)⟩)⟩)⟩)⟩)⟩)⟩)⟩)⟩)⟩)⟩)⟩)⟩)⟩)⟩)⟩)⟩)⟩)⟩)⟩)
theorem st_G {b : Nat} {s : State} (hts : ∀ w ∈ lw_tbl, w.before #[Value.ref b] s = true) (hq : ∀ w ∈ nF, w.before #[Value.ref b] s = true) {l : Launch} (hl : l.stackTraces = false) (D : va_G) (cA : Nat → ClassId) : xG l D cA s := ⟨hl, st_thr hts hq, st_St hts hq, st_Lit hts hq D cA⟩
