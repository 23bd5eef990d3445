def R_law : String := "PortDuesLaw"
def lw_P (b : Addr) (xs : List Int32) (args : Array Value) (s : State) : Prop := args = #[.ref b] ∧ s.IntsAt b xs ∧ xs.length ≤ 3072 ∧ (Jvm.Cond.and given_1 narrow_1).before args s = true
def lw_Q (_ : Array Value) (s : State) (o : Outcome) (t : State) : Prop := o = .returned (some (.int 1)) ∧ Framed s o t [] 601024 7293034
def lw_Z (below : List Frame) (a : Array Value) (s : State) : State → Prop := fun t => ∃ o, t.status = .running ∧ Ended t below o ∧ lw_Q a s o t
/-- the law's own end, with 1 on the stack, nothing written that was there before, its room as the claim has it -/
theorem lw_ret {p : Program} {l : Launch} {e : Env} {s : State} {m : MethodId} {below : List Frame} {meth : Method} {c : Code} {b : Nat} (hx : p.tables.exec = Jvm.exec) (hb : c.code = code) (hr : meth.sig.returnType = ret) (hlocks : meth.locks = false) {pc : Nat} {H : Heap} {ls : Array Slot} (hdg : decode code pc = .ok (.ireturn, 1)) : W p l e room_1 s m #[Value.ref b] below meth c H [] 601024 7293034 (lw_Z below #[Value.ref b] s) (F0 m pc ls [.int 1]) := by
  intro T hT X
  obtain ⟨fs, hret, hrun, hended, hW, hframe⟩ := X.leave (v := some (.int 1)) (hlocks := hlocks) (fun h => by rw [hr] at h; cases h)
  have hmeth' : T.vm.method? m = some meth := X.method'
  refine ⟨T.setFrames fs, ?_, .returned (some (.int 1)), hrun, hended, rfl, ⟨_, rfl⟩, hW, hframe⟩
  jvm_step X.here [X.here.top, hx, hb, hdg, hmeth', hr, ret, narrow_b1]
  (try refine ⟨rfl, ?_⟩); (try refine ⟨rfl, ?_⟩)
  first | (intro acts; rw [hret _ acts rfl rfl rfl]) | rw [hret _ _ rfl rfl rfl]
  exact Steps.refl _
/-- what holds at the law's entry: the machine, the code, the tables' words (any of lw_tbl by 'hts w (by decide +kernel)'), the script of L ints xs at the cell b, what the Statement gives of the start (any of its parts by flat_of_before) -/
def lw_At (p : Program) (s : State) (m : MethodId) (meth : Method) (c : Code) (b L : Nat) (xs : Nat → Int32) : Prop :=
  p.tables.exec = Jvm.exec ∧ c.code = code ∧ meth.sig.returnType = ret ∧ c.maxLocals = 8 ∧ s.vm.findClass R_law = some m.cls ∧ (∀ w ∈ lw_tbl, w.before #[Value.ref b] s = true) ∧ va_X b L xs s s.heap ∧ b < s.heap.size ∧ meth.locks = false ∧ (Jvm.Cond.and given_1 narrow_1).before #[Value.ref b] s = true
/-! What the two sides keep together: one proposition for each operation; the law's loop over them. -/
def Sm_0 (Rl : Nat → Mm → Mm → Prop) : Prop := ∀ (n : Nat) (ν μ : Mm), n < 512 → Rl n ν μ → ∀ (a1 a2 a3 a4 a5 : Int32), ∃ (r : Thr (Int32 × Mm)), ∃ (q : Int32 × Mm), (g_X11_append ν a1 a2 a3 a4 a5 = some r) ∧ (∀ k, r = .error k → k = 3) ∧ (g_X12_append μ a1 a2 a3 a4 a5 = some q) ∧ ((thC (fun k => if k = 3 then 1 else 0) r) = f_X12_thrown q.2) ∧ (∀ oc : Nat → Int64, (thC (fun k => if k = 3 then 1 else 0) r) = 0 → (thO (fun q => q.1.toInt64) oc r) 0 = q.1.toInt64) ∧ Rl (n + 1) (thM (fun q => q.2) ν r) q.2
def Sm_1 (Rl : Nat → Mm → Mm → Prop) : Prop := ∀ (n : Nat) (ν μ : Mm), n < 512 → Rl n ν μ → ∀ (a1 : Int32), ∃ (r : Thr (Mm)), ∃ (q : Mm), (g_X11_truncate ν a1 = some r) ∧ (∀ k, r = .error k → k = 2) ∧ (g_X12_truncate μ a1 = some q) ∧ ((thC (fun k => if k = 2 then 1 else 0) r) = f_X12_thrown q) ∧ Rl (n + 1) (thM (fun q => q) ν r) q
def Sm_2 (Rl : Nat → Mm → Mm → Prop) : Prop := ∀ (n : Nat) (ν μ : Mm), n < 512 → Rl n ν μ → ∃ (r : Int32 × Mm), ∃ (q : Int32 × Mm), (g_X11_load ν = some r) ∧ (g_X12_load μ = some q) ∧ (r.1 = q.1) ∧ Rl (n + 1) r.2 q.2
def Sm_3 (Rl : Nat → Mm → Mm → Prop) : Prop := ∀ (n : Nat) (ν μ : Mm), n < 512 → Rl n ν μ → ∃ (r : Int32), ∃ (q : Int32 × Mm), (g_X11_errorCode ν = some r) ∧ (g_X12_errorCode μ = some q) ∧ (r = q.1) ∧ Rl (n + 1) ν q.2
def Sm_4 (Rl : Nat → Mm → Mm → Prop) : Prop := ∀ (n : Nat) (ν μ : Mm), n < 512 → Rl n ν μ → ∃ (r : Int32), ∃ (q : Int32 × Mm), (g_X11_errorPosition ν = some r) ∧ (g_X12_errorPosition μ = some q) ∧ (r = q.1) ∧ Rl (n + 1) ν q.2
def Sm_5 (Rl : Nat → Mm → Mm → Prop) : Prop := ∀ (n : Nat) (ν μ : Mm), n < 512 → Rl n ν μ → ∃ (r : Int32 × Mm), ∃ (q : Int32 × Mm), (g_X11_find ν = some r) ∧ (g_X12_find μ = some q) ∧ (r.1 = q.1) ∧ Rl (n + 1) r.2 q.2
def Sm_6 (Rl : Nat → Mm → Mm → Prop) : Prop := ∀ (n : Nat) (ν μ : Mm), n < 512 → Rl n ν μ → ∀ (a1 : Int32), ∃ (r : Thr Int32), ∃ (q : Int32 × Mm), (g_X11_count ν a1 = some r) ∧ (∀ k, r = .error k → k = 2) ∧ (f_X12_count μ a1 = q) ∧ ((thC (fun k => if k = 2 then 1 else 0) r) = f_X12_thrown q.2) ∧ (∀ oc : Nat → Int64, (thC (fun k => if k = 2 then 1 else 0) r) = 0 → (thO (fun q => q.toInt64) oc r) 0 = q.1.toInt64) ∧ Rl (n + 1) (thM (fun _ => ν) ν r) q.2
def Sm_7 (Rl : Nat → Mm → Mm → Prop) : Prop := ∀ (n : Nat) (ν μ : Mm), n < 512 → Rl n ν μ → ∀ (a1 : Int32), ∃ (r : Thr Int32), ∃ (q : Int32 × Mm), (g_X11_tariff ν a1 = some r) ∧ (∀ k, r = .error k → k = 2) ∧ (f_X12_tariff μ a1 = q) ∧ ((thC (fun k => if k = 2 then 1 else 0) r) = f_X12_thrown q.2) ∧ (∀ oc : Nat → Int64, (thC (fun k => if k = 2 then 1 else 0) r) = 0 → (thO (fun q => q.toInt64) oc r) 0 = q.1.toInt64) ∧ Rl (n + 1) (thM (fun _ => ν) ν r) q.2
def Sm_8 (Rl : Nat → Mm → Mm → Prop) : Prop := ∀ (n : Nat) (ν μ : Mm), n < 512 → Rl n ν μ → ∀ (a1 a2 : Int32), ∃ (r : Thr Int32), ∃ (q : Int32 × Mm), (g_X11_band ν a1 a2 = some r) ∧ (∀ k, r = .error k → k = 1 ∨ k = 2) ∧ (f_X12_band μ a1 a2 = q) ∧ ((thC (fun k => if k = 1 then 1 else if k = 2 then 2 else 0) r) = f_X12_thrown q.2) ∧ (∀ oc : Nat → Int64, (thC (fun k => if k = 1 then 1 else if k = 2 then 2 else 0) r) = 0 → (thO (fun q => q.toInt64) oc r) 0 = q.1.toInt64) ∧ Rl (n + 1) (thM (fun _ => ν) ν r) q.2
def Sm_9 (Rl : Nat → Mm → Mm → Prop) : Prop := ∀ (n : Nat) (ν μ : Mm), n < 512 → Rl n ν μ → ∀ (a1 a2 : Int32), ∃ (r : Thr Int32), ∃ (q : Int32 × Mm), (g_X11_rebate ν a1 a2 = some r) ∧ (∀ k, r = .error k → k = 1 ∨ k = 2) ∧ (f_X12_rebate μ a1 a2 = q) ∧ ((thC (fun k => if k = 1 then 1 else if k = 2 then 2 else 0) r) = f_X12_thrown q.2) ∧ (∀ oc : Nat → Int64, (thC (fun k => if k = 1 then 1 else if k = 2 then 2 else 0) r) = 0 → (thO (fun q => q.toInt64) oc r) 0 = q.1.toInt64) ∧ Rl (n + 1) (thM (fun _ => ν) ν r) q.2
def Sm_10 (Rl : Nat → Mm → Mm → Prop) : Prop := ∀ (n : Nat) (ν μ : Mm), n < 512 → Rl n ν μ → ∀ (a1 : Int32), ∃ (r : Thr Int32), ∃ (q : Int32 × Mm), (g_X11_bandOf ν a1 = some r) ∧ (∀ k, r = .error k → k = 2) ∧ (f_X12_bandOf μ a1 = q) ∧ ((thC (fun k => if k = 2 then 1 else 0) r) = f_X12_thrown q.2) ∧ (∀ oc : Nat → Int64, (thC (fun k => if k = 2 then 1 else 0) r) = 0 → (thO (fun q => q.toInt64) oc r) 0 = q.1.toInt64) ∧ Rl (n + 1) (thM (fun _ => ν) ν r) q.2
def Sm_11 (Rl : Nat → Mm → Mm → Prop) : Prop := ∀ (n : Nat) (ν μ : Mm), n < 512 → Rl n ν μ → ∀ (a1 : Int32), ∃ (r : Thr Int32), ∃ (q : Int32 × Mm), (g_X11_dues ν a1 = some r) ∧ (∀ k, r = .error k → k = 2) ∧ (f_X12_dues μ a1 = q) ∧ ((thC (fun k => if k = 2 then 1 else 0) r) = f_X12_thrown q.2) ∧ (∀ oc : Nat → Int64, (thC (fun k => if k = 2 then 1 else 0) r) = 0 → (thO (fun q => q.toInt64) oc r) 0 = q.1.toInt64) ∧ Rl (n + 1) (thM (fun _ => ν) ν r) q.2
def Sm_12 (Rl : Nat → Mm → Mm → Prop) : Prop := ∀ (n : Nat) (ν μ : Mm), n < 512 → Rl n ν μ → ∀ (a1 a2 : Int32), ∃ (r : Thr Int32), ∃ (q : Int32 × Mm), (g_X11_tonsIn ν a1 a2 = some r) ∧ (∀ k, r = .error k → k = 1 ∨ k = 2) ∧ (f_X12_tonsIn μ a1 a2 = q) ∧ ((thC (fun k => if k = 1 then 1 else if k = 2 then 2 else 0) r) = f_X12_thrown q.2) ∧ (∀ oc : Nat → Int64, (thC (fun k => if k = 1 then 1 else if k = 2 then 2 else 0) r) = 0 → (thO (fun q => q.toInt64) oc r) 0 = q.1.toInt64) ∧ Rl (n + 1) (thM (fun _ => ν) ν r) q.2
def Sm_13 (Rl : Nat → Mm → Mm → Prop) : Prop := ∀ (n : Nat) (ν μ : Mm), n < 512 → Rl n ν μ → ∀ (a1 : Int32), ∃ (r : Thr Int32), ∃ (q : Int32 × Mm), (g_X11_wasteFee ν a1 = some r) ∧ (∀ k, r = .error k → k = 2) ∧ (f_X12_wasteFee μ a1 = q) ∧ ((thC (fun k => if k = 2 then 1 else 0) r) = f_X12_thrown q.2) ∧ (∀ oc : Nat → Int64, (thC (fun k => if k = 2 then 1 else 0) r) = 0 → (thO (fun q => q.toInt64) oc r) 0 = q.1.toInt64) ∧ Rl (n + 1) (thM (fun _ => ν) ν r) q.2
def Sm_14 (Rl : Nat → Mm → Mm → Prop) : Prop := ∀ (n : Nat) (ν μ : Mm), n < 512 → Rl n ν μ → ∀ (a1 : Int32), ∃ (r : Thr Int32), ∃ (q : Int32 × Mm), (g_X11_tons ν a1 = some r) ∧ (∀ k, r = .error k → k = 1) ∧ (f_X12_tons μ a1 = q) ∧ ((thC (fun k => if k = 1 then 1 else 0) r) = f_X12_thrown q.2) ∧ (∀ oc : Nat → Int64, (thC (fun k => if k = 1 then 1 else 0) r) = 0 → (thO (fun q => q.toInt64) oc r) 0 = q.1.toInt64) ∧ Rl (n + 1) (thM (fun _ => ν) ν r) q.2
def Sm_15 (Rl : Nat → Mm → Mm → Prop) : Prop := ∀ (n : Nat) (ν μ : Mm), n < 512 → Rl n ν μ → ∀ (a1 a2 : Int32), ∃ (r : Thr Int32), ∃ (q : Int32 × Mm), (g_X11_calls ν a1 a2 = some r) ∧ (∀ k, r = .error k → k = 1 ∨ k = 2) ∧ (f_X12_calls μ a1 a2 = q) ∧ ((thC (fun k => if k = 1 then 1 else if k = 2 then 2 else 0) r) = f_X12_thrown q.2) ∧ (∀ oc : Nat → Int64, (thC (fun k => if k = 1 then 1 else if k = 2 then 2 else 0) r) = 0 → (thO (fun q => q.toInt64) oc r) 0 = q.1.toInt64) ∧ Rl (n + 1) (thM (fun _ => ν) ν r) q.2
def Sm_16 (Rl : Nat → Mm → Mm → Prop) : Prop := ∀ (n : Nat) (ν μ : Mm), n < 512 → Rl n ν μ → ∀ (a1 a2 : Int32), ∃ (r : Thr Int32), ∃ (q : Int32 × Mm), (g_X11_call ν a1 a2 = some r) ∧ (∀ k, r = .error k → k = 1 ∨ k = 2) ∧ (f_X12_call μ a1 a2 = q) ∧ ((thC (fun k => if k = 1 then 1 else if k = 2 then 2 else 0) r) = f_X12_thrown q.2) ∧ (∀ oc : Nat → Int64, (thC (fun k => if k = 1 then 1 else if k = 2 then 2 else 0) r) = 0 → (thO (fun q => q.toInt64) oc r) 0 = q.1.toInt64) ∧ Rl (n + 1) (thM (fun _ => ν) ν r) q.2
def Sm_17 (Rl : Nat → Mm → Mm → Prop) : Prop := ∀ (n : Nat) (ν μ : Mm), n < 512 → Rl n ν μ → ∀ (a1 : Int32), ∃ (r : Thr Int32), ∃ (q : Int32 × Mm), (g_X11_layDays ν a1 = some r) ∧ (∀ k, r = .error k → k = 1) ∧ (f_X12_layDays μ a1 = q) ∧ ((thC (fun k => if k = 1 then 1 else 0) r) = f_X12_thrown q.2) ∧ (∀ oc : Nat → Int64, (thC (fun k => if k = 1 then 1 else 0) r) = 0 → (thO (fun q => q.toInt64) oc r) 0 = q.1.toInt64) ∧ Rl (n + 1) (thM (fun _ => ν) ν r) q.2
def Sm_18 (Rl : Nat → Mm → Mm → Prop) : Prop := ∀ (n : Nat) (ν μ : Mm), n < 512 → Rl n ν μ → ∀ (a1 : Int32), ∃ (r : Thr Int32), ∃ (q : Int32 × Mm), (g_X11_pending ν a1 = some r) ∧ (∀ k, r = .error k → k = 1) ∧ (f_X12_pending μ a1 = q) ∧ ((thC (fun k => if k = 1 then 1 else 0) r) = f_X12_thrown q.2) ∧ (∀ oc : Nat → Int64, (thC (fun k => if k = 1 then 1 else 0) r) = 0 → (thO (fun q => q.toInt64) oc r) 0 = q.1.toInt64) ∧ Rl (n + 1) (thM (fun _ => ν) ν r) q.2
def Sm_19 (Rl : Nat → Mm → Mm → Prop) : Prop := ∀ (n : Nat) (ν μ : Mm), n < 512 → Rl n ν μ → ∀ (a1 : Int32), ∃ (r : Thr Int32), ∃ (q : Int32 × Mm), (g_X11_upheld ν a1 = some r) ∧ (∀ k, r = .error k → k = 1) ∧ (f_X12_upheld μ a1 = q) ∧ ((thC (fun k => if k = 1 then 1 else 0) r) = f_X12_thrown q.2) ∧ (∀ oc : Nat → Int64, (thC (fun k => if k = 1 then 1 else 0) r) = 0 → (thO (fun q => q.toInt64) oc r) 0 = q.1.toInt64) ∧ Rl (n + 1) (thM (fun _ => ν) ν r) q.2
def Sm_20 (Rl : Nat → Mm → Mm → Prop) : Prop := ∀ (n : Nat) (ν μ : Mm), n < 512 → Rl n ν μ → ∀ (a1 : Int32), ∃ (r : Thr Int32), ∃ (q : Int32 × Mm), (g_X11_billedDays ν a1 = some r) ∧ (∀ k, r = .error k → k = 1) ∧ (f_X12_billedDays μ a1 = q) ∧ ((thC (fun k => if k = 1 then 1 else 0) r) = f_X12_thrown q.2) ∧ (∀ oc : Nat → Int64, (thC (fun k => if k = 1 then 1 else 0) r) = 0 → (thO (fun q => q.toInt64) oc r) 0 = q.1.toInt64) ∧ Rl (n + 1) (thM (fun _ => ν) ν r) q.2
def Sm_21 (Rl : Nat → Mm → Mm → Prop) : Prop := ∀ (n : Nat) (ν μ : Mm), n < 512 → Rl n ν μ → ∀ (a1 : Int32), ∃ (r : Thr Int32), ∃ (q : Int32 × Mm), (g_X11_billable ν a1 = some r) ∧ (∀ k, r = .error k → k = 1) ∧ (f_X12_billable μ a1 = q) ∧ ((thC (fun k => if k = 1 then 1 else 0) r) = f_X12_thrown q.2) ∧ (∀ oc : Nat → Int64, (thC (fun k => if k = 1 then 1 else 0) r) = 0 → (thO (fun q => q.toInt64) oc r) 0 = q.1.toInt64) ∧ Rl (n + 1) (thM (fun _ => ν) ν r) q.2
def Sm_22 (Rl : Nat → Mm → Mm → Prop) : Prop := ∀ (n : Nat) (ν μ : Mm), n < 512 → Rl n ν μ → ∀ (a1 a2 : Int32), ∃ (r : Thr Int32), ∃ (q : Int32 × Mm), (g_X11_amount ν a1 a2 = some r) ∧ (∀ k, r = .error k → k = 1 ∨ k = 2) ∧ (f_X12_amount μ a1 a2 = q) ∧ ((thC (fun k => if k = 1 then 1 else if k = 2 then 2 else 0) r) = f_X12_thrown q.2) ∧ (∀ oc : Nat → Int64, (thC (fun k => if k = 1 then 1 else if k = 2 then 2 else 0) r) = 0 → (thO (fun q => q.toInt64) oc r) 0 = q.1.toInt64) ∧ Rl (n + 1) (thM (fun _ => ν) ν r) q.2
def Sm_23 (Rl : Nat → Mm → Mm → Prop) : Prop := ∀ (n : Nat) (ν μ : Mm), n < 512 → Rl n ν μ → ∀ (a1 : Int32), ∃ (r : Thr Int32), ∃ (q : Int32 × Mm), (g_X11_callTotal ν a1 = some r) ∧ (∀ k, r = .error k → k = 1) ∧ (f_X12_callTotal μ a1 = q) ∧ ((thC (fun k => if k = 1 then 1 else 0) r) = f_X12_thrown q.2) ∧ (∀ oc : Nat → Int64, (thC (fun k => if k = 1 then 1 else 0) r) = 0 → (thO (fun q => q.toInt64) oc r) 0 = q.1.toInt64) ∧ Rl (n + 1) (thM (fun _ => ν) ν r) q.2
def Sm_24 (Rl : Nat → Mm → Mm → Prop) : Prop := ∀ (n : Nat) (ν μ : Mm), n < 512 → Rl n ν μ → ∀ (a1 a2 : Int32), ∃ (r : Thr Int32), ∃ (q : Int32 × Mm), (g_X11_invoice ν a1 a2 = some r) ∧ (∀ k, r = .error k → k = 1 ∨ k = 2) ∧ (f_X12_invoice μ a1 a2 = q) ∧ ((thC (fun k => if k = 1 then 1 else if k = 2 then 2 else 0) r) = f_X12_thrown q.2) ∧ (∀ oc : Nat → Int64, (thC (fun k => if k = 1 then 1 else if k = 2 then 2 else 0) r) = 0 → (thO (fun q => q.toInt64) oc r) 0 = q.1.toInt64) ∧ Rl (n + 1) (thM (fun _ => ν) ν r) q.2
def Sm_25 (Rl : Nat → Mm → Mm → Prop) : Prop := ∀ (n : Nat) (ν μ : Mm), n < 512 → Rl n ν μ → ∀ (a1 a2 : Int32), ∃ (r : Thr Int32), ∃ (q : Int32 × Mm), (g_X11_line ν a1 a2 = some r) ∧ (∀ k, r = .error k → k = 1 ∨ k = 2) ∧ (f_X12_line μ a1 a2 = q) ∧ ((thC (fun k => if k = 1 then 1 else if k = 2 then 2 else 0) r) = f_X12_thrown q.2) ∧ (∀ oc : Nat → Int64, (thC (fun k => if k = 1 then 1 else if k = 2 then 2 else 0) r) = 0 → (thO (fun q => q.toInt64) oc r) 0 = q.1.toInt64) ∧ Rl (n + 1) (thM (fun _ => ν) ν r) q.2
def Sm_26 (Rl : Nat → Mm → Mm → Prop) : Prop := ∀ (n : Nat) (ν μ : Mm), n < 512 → Rl n ν μ → ∀ (a1 : Int32), ∃ (r : Thr Int32), ∃ (q : Int32 × Mm), (g_X11_net ν a1 = some r) ∧ (∀ k, r = .error k → k = 1) ∧ (f_X12_net μ a1 = q) ∧ ((thC (fun k => if k = 1 then 1 else 0) r) = f_X12_thrown q.2) ∧ (∀ oc : Nat → Int64, (thC (fun k => if k = 1 then 1 else 0) r) = 0 → (thO (fun q => q.toInt64) oc r) 0 = q.1.toInt64) ∧ Rl (n + 1) (thM (fun _ => ν) ν r) q.2
def Sm_27 (Rl : Nat → Mm → Mm → Prop) : Prop := ∀ (n : Nat) (ν μ : Mm), n < 512 → Rl n ν μ → ∀ (a1 : Int32), ∃ (r : Thr Int32), ∃ (q : Int32 × Mm), (g_X11_open ν a1 = some r) ∧ (∀ k, r = .error k → k = 1) ∧ (f_X12_open μ a1 = q) ∧ ((thC (fun k => if k = 1 then 1 else 0) r) = f_X12_thrown q.2) ∧ (∀ oc : Nat → Int64, (thC (fun k => if k = 1 then 1 else 0) r) = 0 → (thO (fun q => q.toInt64) oc r) 0 = q.1.toInt64) ∧ Rl (n + 1) (thM (fun _ => ν) ν r) q.2
def Sm_28 (Rl : Nat → Mm → Mm → Prop) : Prop := ∀ (n : Nat) (ν μ : Mm), n < 512 → Rl n ν μ → ∀ (a1 a2 : Int32), ∃ (r : Thr Int32), ∃ (q : Int32 × Mm), (g_X11_rebuilt ν a1 a2 = some r) ∧ (∀ k, r = .error k → k = 1 ∨ k = 2) ∧ (f_X12_rebuilt μ a1 a2 = q) ∧ ((thC (fun k => if k = 1 then 1 else if k = 2 then 2 else 0) r) = f_X12_thrown q.2) ∧ (∀ oc : Nat → Int64, (thC (fun k => if k = 1 then 1 else if k = 2 then 2 else 0) r) = 0 → (thO (fun q => q.toInt64) oc r) 0 = q.1.toInt64) ∧ Rl (n + 1) (thM (fun _ => ν) ν r) q.2
def Sm_29 (Rl : Nat → Mm → Mm → Prop) : Prop := ∀ (n : Nat) (ν μ : Mm), n < 512 → Rl n ν μ → ∀ (a1 : Int32), ∃ (r : Thr Bool), ∃ (q : Bool × Mm), (g_X11_isStale ν a1 = some r) ∧ (∀ k, r = .error k → k = 1) ∧ (f_X12_isStale μ a1 = q) ∧ ((thC (fun k => if k = 1 then 1 else 0) r) = f_X12_thrown q.2) ∧ (∀ oc : Nat → Int64, (thC (fun k => if k = 1 then 1 else 0) r) = 0 → (thO (fun q => (if q = true then (1 : Int64) else (0 : Int64))) oc r) 0 = (if q.1 = true then (1 : Int64) else 0)) ∧ Rl (n + 1) (thM (fun _ => ν) ν r) q.2
def Sm_30 (Rl : Nat → Mm → Mm → Prop) : Prop := ∀ (n : Nat) (ν μ : Mm), n < 512 → Rl n ν μ → ∃ (r : Int32), ∃ (q : Int32 × Mm), (g_X11_staleCount ν = some r) ∧ (f_X12_staleCount μ = q) ∧ (r = q.1) ∧ Rl (n + 1) ν q.2
def Sm_31 (Rl : Nat → Mm → Mm → Prop) : Prop := ∀ (n : Nat) (ν μ : Mm), n < 512 → Rl n ν μ → ∀ (a1 : Int32), ∃ (r : Thr Int32), ∃ (q : Int32 × Mm), (g_X11_contested ν a1 = some r) ∧ (∀ k, r = .error k → k = 1) ∧ (f_X12_contested μ a1 = q) ∧ ((thC (fun k => if k = 1 then 1 else 0) r) = f_X12_thrown q.2) ∧ (∀ oc : Nat → Int64, (thC (fun k => if k = 1 then 1 else 0) r) = 0 → (thO (fun q => q.toInt64) oc r) 0 = q.1.toInt64) ∧ Rl (n + 1) (thM (fun _ => ν) ν r) q.2
def Sm_32 (Rl : Nat → Mm → Mm → Prop) : Prop := ∀ (n : Nat) (ν μ : Mm), n < 512 → Rl n ν μ → ∀ (a1 a2 : Int32), ∃ (r : Thr Int32), ∃ (q : Int32 × Mm), (g_X11_note ν a1 a2 = some r) ∧ (∀ k, r = .error k → k = 1 ∨ k = 2) ∧ (f_X12_note μ a1 a2 = q) ∧ ((thC (fun k => if k = 1 then 1 else if k = 2 then 2 else 0) r) = f_X12_thrown q.2) ∧ (∀ oc : Nat → Int64, (thC (fun k => if k = 1 then 1 else if k = 2 then 2 else 0) r) = 0 → (thO (fun q => q.toInt64) oc r) 0 = q.1.toInt64) ∧ Rl (n + 1) (thM (fun _ => ν) ν r) q.2
def Sm_33 (Rl : Nat → Mm → Mm → Prop) : Prop := ∀ (n : Nat) (ν μ : Mm), n < 512 → Rl n ν μ → ∀ (a1 : Int32), ∃ (r : Thr Int64), ∃ (q : Int64 × Mm), (g_X11_balance ν a1 = some r) ∧ (∀ k, r = .error k → k = 1) ∧ (f_X12_balance μ a1 = q) ∧ ((thC (fun k => if k = 1 then 1 else 0) r) = f_X12_thrown q.2) ∧ (∀ oc : Nat → Int64, (thC (fun k => if k = 1 then 1 else 0) r) = 0 → (thO (fun q => q) oc r) 0 = q.1) ∧ Rl (n + 1) (thM (fun _ => ν) ν r) q.2
def Sm_34 (Rl : Nat → Mm → Mm → Prop) : Prop := ∀ (n : Nat) (ν μ : Mm), n < 512 → Rl n ν μ → ∀ (a1 : Int32), ∃ (r : Thr Int64), ∃ (q : Int64 × Mm), (g_X11_paid ν a1 = some r) ∧ (∀ k, r = .error k → k = 1) ∧ (f_X12_paid μ a1 = q) ∧ ((thC (fun k => if k = 1 then 1 else 0) r) = f_X12_thrown q.2) ∧ (∀ oc : Nat → Int64, (thC (fun k => if k = 1 then 1 else 0) r) = 0 → (thO (fun q => q) oc r) 0 = q.1) ∧ Rl (n + 1) (thM (fun _ => ν) ν r) q.2
def Sm_35 (Rl : Nat → Mm → Mm → Prop) : Prop := ∀ (n : Nat) (ν μ : Mm), n < 512 → Rl n ν μ → ∀ (a1 : Int32), ∃ (r : Thr Int32), ∃ (q : Int32 × Mm), (g_X11_oldestOpen ν a1 = some r) ∧ (∀ k, r = .error k → k = 1) ∧ (f_X12_oldestOpen μ a1 = q) ∧ ((thC (fun k => if k = 1 then 1 else 0) r) = f_X12_thrown q.2) ∧ (∀ oc : Nat → Int64, (thC (fun k => if k = 1 then 1 else 0) r) = 0 → (thO (fun q => q.toInt64) oc r) 0 = q.1.toInt64) ∧ Rl (n + 1) (thM (fun _ => ν) ν r) q.2
def Sm_36 (Rl : Nat → Mm → Mm → Prop) : Prop := ∀ (n : Nat) (ν μ : Mm), n < 512 → Rl n ν μ → ∀ (a1 : Int32), ∃ (r : Thr Int32), ∃ (q : Int32 × Mm), (g_X11_overdue ν a1 = some r) ∧ (∀ k, r = .error k → k = 2) ∧ (f_X12_overdue μ a1 = q) ∧ ((thC (fun k => if k = 2 then 1 else 0) r) = f_X12_thrown q.2) ∧ (∀ oc : Nat → Int64, (thC (fun k => if k = 2 then 1 else 0) r) = 0 → (thO (fun q => q.toInt64) oc r) 0 = q.1.toInt64) ∧ Rl (n + 1) (thM (fun _ => ν) ν r) q.2
def Sm_37 (Rl : Nat → Mm → Mm → Prop) : Prop := ∀ (n : Nat) (ν μ : Mm), n < 512 → Rl n ν μ → ∀ (a1 a2 : Int32), ∃ (r : Thr Int64), ∃ (q : Int64 × Mm), (g_X11_revenue ν a1 a2 = some r) ∧ (∀ k, r = .error k → k = 2) ∧ (f_X12_revenue μ a1 a2 = q) ∧ ((thC (fun k => if k = 2 then 1 else 0) r) = f_X12_thrown q.2) ∧ (∀ oc : Nat → Int64, (thC (fun k => if k = 2 then 1 else 0) r) = 0 → (thO (fun q => q) oc r) 0 = q.1) ∧ Rl (n + 1) (thM (fun _ => ν) ν r) q.2
def Sm_38 (Rl : Nat → Mm → Mm → Prop) : Prop := ∀ (n : Nat) (ν μ : Mm), n < 512 → Rl n ν μ → ∀ (a1 a2 : Int32), ∃ (r : Thr Int64), ∃ (q : Int64 × Mm), (g_X11_rebates ν a1 a2 = some r) ∧ (∀ k, r = .error k → k = 1 ∨ k = 2) ∧ (f_X12_rebates μ a1 a2 = q) ∧ ((thC (fun k => if k = 1 then 1 else if k = 2 then 2 else 0) r) = f_X12_thrown q.2) ∧ (∀ oc : Nat → Int64, (thC (fun k => if k = 1 then 1 else if k = 2 then 2 else 0) r) = 0 → (thO (fun q => q) oc r) 0 = q.1) ∧ Rl (n + 1) (thM (fun _ => ν) ν r) q.2
def Sm_39 (Rl : Nat → Mm → Mm → Prop) : Prop := ∀ (n : Nat) (ν μ : Mm), n < 512 → Rl n ν μ → ∀ (a1 a2 a3 a4 : Int32), ∃ (r : Thr Int32), ∃ (q : Int32 × Mm), (g_X11_quote ν a1 a2 a3 a4 = some r) ∧ (∀ k, r = .error k → k = 1 ∨ k = 2) ∧ (g_X12_quote μ a1 a2 a3 a4 = some q) ∧ ((thC (fun k => if k = 1 then 1 else if k = 2 then 2 else 0) r) = f_X12_thrown q.2) ∧ (∀ oc : Nat → Int64, (thC (fun k => if k = 1 then 1 else if k = 2 then 2 else 0) r) = 0 → (thO (fun q => q.toInt64) oc r) 0 = q.1.toInt64) ∧ Rl (n + 1) (thM (fun _ => ν) ν r) q.2
def Sm_40 (Rl : Nat → Mm → Mm → Prop) : Prop := ∀ (n : Nat) (ν μ : Mm), n < 512 → Rl n ν μ → ∀ (a1 a2 : Int32), ∃ (r : Thr Int32), ∃ (q : Int32 × Mm), (g_X11_callsToRebate ν a1 a2 = some r) ∧ (∀ k, r = .error k → k = 1 ∨ k = 2) ∧ (g_X12_callsToRebate μ a1 a2 = some q) ∧ ((thC (fun k => if k = 1 then 1 else if k = 2 then 2 else 0) r) = f_X12_thrown q.2) ∧ (∀ oc : Nat → Int64, (thC (fun k => if k = 1 then 1 else if k = 2 then 2 else 0) r) = 0 → (thO (fun q => q.toInt64) oc r) 0 = q.1.toInt64) ∧ Rl (n + 1) (thM (fun _ => ν) ν r) q.2
def Sm_41 (Rl : Nat → Mm → Mm → Prop) : Prop := ∀ (n : Nat) (ν μ : Mm), n < 512 → Rl n ν μ → ∀ (a1 : Int32), ∃ (r : Thr Int32), ∃ (q : Int32 × Mm), (g_X11_worth ν a1 = some r) ∧ (∀ k, r = .error k → k = 1) ∧ (g_X12_worth μ a1 = some q) ∧ ((thC (fun k => if k = 1 then 1 else 0) r) = f_X12_thrown q.2) ∧ (∀ oc : Nat → Int64, (thC (fun k => if k = 1 then 1 else 0) r) = 0 → (thO (fun q => q.toInt64) oc r) 0 = q.1.toInt64) ∧ Rl (n + 1) (thM (fun _ => ν) ν r) q.2
def Sm_42 (Rl : Nat → Mm → Mm → Prop) : Prop := ∀ (n : Nat) (ν μ : Mm), n < 512 → Rl n ν μ → ∀ (a1 : Int32), ∃ (r : Thr Int32), ∃ (q : Int32 × Mm), (g_X11_busiestYear ν a1 = some r) ∧ (∀ k, r = .error k → k = 1) ∧ (f_X12_busiestYear μ a1 = q) ∧ ((thC (fun k => if k = 1 then 1 else 0) r) = f_X12_thrown q.2) ∧ (∀ oc : Nat → Int64, (thC (fun k => if k = 1 then 1 else 0) r) = 0 → (thO (fun q => q.toInt64) oc r) 0 = q.1.toInt64) ∧ Rl (n + 1) (thM (fun _ => ν) ν r) q.2
def Sm_43 (Rl : Nat → Mm → Mm → Prop) : Prop := ∀ (n : Nat) (ν μ : Mm), n < 512 → Rl n ν μ → ∀ (a1 a2 a3 a4 : Int32), ∃ (r : Thr (Int32 × Mm)), ∃ (q : Int32 × Mm), (g_X11_addCall ν a1 a2 a3 a4 = some r) ∧ (∀ k, r = .error k → k = 1 ∨ k = 2 ∨ k = 3) ∧ (g_X12_addCall μ a1 a2 a3 a4 = some q) ∧ ((thC (fun k => if k = 1 then 1 else if k = 2 then 2 else if k = 3 then 3 else 0) r) = f_X12_thrown q.2) ∧ (∀ oc : Nat → Int64, (thC (fun k => if k = 1 then 1 else if k = 2 then 2 else if k = 3 then 3 else 0) r) = 0 → (thO (fun q => q.1.toInt64) oc r) 0 = q.1.toInt64) ∧ Rl (n + 1) (thM (fun q => q.2) ν r) q.2
def Sm_44 (Rl : Nat → Mm → Mm → Prop) : Prop := ∀ (n : Nat) (ν μ : Mm), n < 512 → Rl n ν μ → ∀ (a1 : Int32), ∃ (r : Thr (Int32 × Mm)), ∃ (q : Int32 × Mm), (g_X11_cancel ν a1 = some r) ∧ (∀ k, r = .error k → k = 1 ∨ k = 3) ∧ (g_X12_cancel μ a1 = some q) ∧ ((thC (fun k => if k = 1 then 1 else if k = 3 then 2 else 0) r) = f_X12_thrown q.2) ∧ (∀ oc : Nat → Int64, (thC (fun k => if k = 1 then 1 else if k = 3 then 2 else 0) r) = 0 → (thO (fun q => q.1.toInt64) oc r) 0 = q.1.toInt64) ∧ Rl (n + 1) (thM (fun q => q.2) ν r) q.2
def Sm_45 (Rl : Nat → Mm → Mm → Prop) : Prop := ∀ (n : Nat) (ν μ : Mm), n < 512 → Rl n ν μ → ∀ (a1 a2 : Int32), ∃ (r : Thr (Int32 × Mm)), ∃ (q : Int32 × Mm), (g_X11_setWaste ν a1 a2 = some r) ∧ (∀ k, r = .error k → k = 1 ∨ k = 2) ∧ (g_X12_setWaste μ a1 a2 = some q) ∧ ((thC (fun k => if k = 1 then 1 else if k = 2 then 2 else 0) r) = f_X12_thrown q.2) ∧ (∀ oc : Nat → Int64, (thC (fun k => if k = 1 then 1 else if k = 2 then 2 else 0) r) = 0 → (thO (fun q => q.1.toInt64) oc r) 0 = q.1.toInt64) ∧ Rl (n + 1) (thM (fun q => q.2) ν r) q.2
def Sm_46 (Rl : Nat → Mm → Mm → Prop) : Prop := ∀ (n : Nat) (ν μ : Mm), n < 512 → Rl n ν μ → ∀ (a1 a2 : Int32), ∃ (r : Thr (Int32 × Mm)), ∃ (q : Int32 × Mm), (g_X11_setTons ν a1 a2 = some r) ∧ (∀ k, r = .error k → k = 1 ∨ k = 2) ∧ (g_X12_setTons μ a1 a2 = some q) ∧ ((thC (fun k => if k = 1 then 1 else if k = 2 then 2 else 0) r) = f_X12_thrown q.2) ∧ (∀ oc : Nat → Int64, (thC (fun k => if k = 1 then 1 else if k = 2 then 2 else 0) r) = 0 → (thO (fun q => q.1.toInt64) oc r) 0 = q.1.toInt64) ∧ Rl (n + 1) (thM (fun q => q.2) ν r) q.2
def Sm_47 (Rl : Nat → Mm → Mm → Prop) : Prop := ∀ (n : Nat) (ν μ : Mm), n < 512 → Rl n ν μ → ∀ (a1 : Int32), ∃ (r : Thr (Int32 × Mm)), ∃ (q : Int32 × Mm), (g_X11_bill ν a1 = some r) ∧ (∀ k, r = .error k → k = 1 ∨ k = 3) ∧ (g_X12_bill μ a1 = some q) ∧ ((thC (fun k => if k = 1 then 1 else if k = 3 then 2 else 0) r) = f_X12_thrown q.2) ∧ (∀ oc : Nat → Int64, (thC (fun k => if k = 1 then 1 else if k = 3 then 2 else 0) r) = 0 → (thO (fun q => q.1.toInt64) oc r) 0 = q.1.toInt64) ∧ Rl (n + 1) (thM (fun q => q.2) ν r) q.2
def Sm_48 (Rl : Nat → Mm → Mm → Prop) : Prop := ∀ (n : Nat) (ν μ : Mm), n < 512 → Rl n ν μ → ∀ (a1 : Int32), ∃ (r : Thr (Int32 × Mm)), ∃ (q : Int32 × Mm), (g_X11_billAll ν a1 = some r) ∧ (∀ k, r = .error k → k = 1) ∧ (g_X12_billAll μ a1 = some q) ∧ ((thC (fun k => if k = 1 then 1 else 0) r) = f_X12_thrown q.2) ∧ (∀ oc : Nat → Int64, (thC (fun k => if k = 1 then 1 else 0) r) = 0 → (thO (fun q => q.1.toInt64) oc r) 0 = q.1.toInt64) ∧ Rl (n + 1) (thM (fun q => q.2) ν r) q.2
def Sm_49 (Rl : Nat → Mm → Mm → Prop) : Prop := ∀ (n : Nat) (ν μ : Mm), n < 512 → Rl n ν μ → ∀ (a1 a2 : Int32), ∃ (r : Thr (Int32 × Mm)), ∃ (q : Int32 × Mm), (g_X11_credit ν a1 a2 = some r) ∧ (∀ k, r = .error k → k = 1 ∨ k = 2 ∨ k = 3) ∧ (g_X12_credit μ a1 a2 = some q) ∧ ((thC (fun k => if k = 1 then 1 else if k = 2 then 2 else if k = 3 then 3 else 0) r) = f_X12_thrown q.2) ∧ (∀ oc : Nat → Int64, (thC (fun k => if k = 1 then 1 else if k = 2 then 2 else if k = 3 then 3 else 0) r) = 0 → (thO (fun q => q.1.toInt64) oc r) 0 = q.1.toInt64) ∧ Rl (n + 1) (thM (fun q => q.2) ν r) q.2
def Sm_50 (Rl : Nat → Mm → Mm → Prop) : Prop := ∀ (n : Nat) (ν μ : Mm), n < 512 → Rl n ν μ → ∀ (a1 a2 : Int32), ∃ (r : Thr (Int32 × Mm)), ∃ (q : Int32 × Mm), (g_X11_dispute ν a1 a2 = some r) ∧ (∀ k, r = .error k → k = 1 ∨ k = 2 ∨ k = 3) ∧ (g_X12_dispute μ a1 a2 = some q) ∧ ((thC (fun k => if k = 1 then 1 else if k = 2 then 2 else if k = 3 then 3 else 0) r) = f_X12_thrown q.2) ∧ (∀ oc : Nat → Int64, (thC (fun k => if k = 1 then 1 else if k = 2 then 2 else if k = 3 then 3 else 0) r) = 0 → (thO (fun q => q.1.toInt64) oc r) 0 = q.1.toInt64) ∧ Rl (n + 1) (thM (fun q => q.2) ν r) q.2
def Sm_51t (Rl : Nat → Mm → Mm → Prop) : Prop := ∀ (n : Nat) (ν μ : Mm), n < 512 → Rl n ν μ → ∀ (a1 a2 : Int32), ∃ (r : Thr (Int32 × Mm)), ∃ (q : Int32 × Mm), (g_X11_settle ν a1 a2 true = some r) ∧ (∀ k, r = .error k → k = 1 ∨ k = 3) ∧ (g_X12_settle μ a1 a2 true = some q) ∧ ((thC (fun k => if k = 1 then 1 else if k = 3 then 2 else 0) r) = f_X12_thrown q.2) ∧ (∀ oc : Nat → Int64, (thC (fun k => if k = 1 then 1 else if k = 3 then 2 else 0) r) = 0 → (thO (fun q => q.1.toInt64) oc r) 0 = q.1.toInt64) ∧ Rl (n + 1) (thM (fun q => q.2) ν r) q.2
def Sm_51f (Rl : Nat → Mm → Mm → Prop) : Prop := ∀ (n : Nat) (ν μ : Mm), n < 512 → Rl n ν μ → ∀ (a1 a2 : Int32), ∃ (r : Thr (Int32 × Mm)), ∃ (q : Int32 × Mm), (g_X11_settle ν a1 a2 false = some r) ∧ (∀ k, r = .error k → k = 1 ∨ k = 3) ∧ (g_X12_settle μ a1 a2 false = some q) ∧ ((thC (fun k => if k = 1 then 1 else if k = 3 then 2 else 0) r) = f_X12_thrown q.2) ∧ (∀ oc : Nat → Int64, (thC (fun k => if k = 1 then 1 else if k = 3 then 2 else 0) r) = 0 → (thO (fun q => q.1.toInt64) oc r) 0 = q.1.toInt64) ∧ Rl (n + 1) (thM (fun q => q.2) ν r) q.2
def Sm_52 (Rl : Nat → Mm → Mm → Prop) : Prop := ∀ (n : Nat) (ν μ : Mm), n < 512 → Rl n ν μ → ∀ (a1 a2 : Int32), ∃ (r : Thr (Int64 × Mm)), ∃ (q : Int64 × Mm), (g_X11_pay ν a1 a2 = some r) ∧ (∀ k, r = .error k → k = 1 ∨ k = 2) ∧ (g_X12_pay μ a1 a2 = some q) ∧ ((thC (fun k => if k = 1 then 1 else if k = 2 then 2 else 0) r) = f_X12_thrown q.2) ∧ (∀ oc : Nat → Int64, (thC (fun k => if k = 1 then 1 else if k = 2 then 2 else 0) r) = 0 → (thO (fun q => q.1) oc r) 0 = q.1) ∧ Rl (n + 1) (thM (fun q => q.2) ν r) q.2
def Sm_53 (Rl : Nat → Mm → Mm → Prop) : Prop := ∀ (n : Nat) (ν μ : Mm), n < 512 → Rl n ν μ → ∀ (a1 : Int32), ∃ (r : Thr (Int32 × Mm)), ∃ (q : Int32 × Mm), (g_X11_advance ν a1 = some r) ∧ (∀ k, r = .error k → k = 2 ∨ k = 3) ∧ (g_X12_advance μ a1 = some q) ∧ ((thC (fun k => if k = 2 then 1 else if k = 3 then 2 else 0) r) = f_X12_thrown q.2) ∧ (∀ oc : Nat → Int64, (thC (fun k => if k = 2 then 1 else if k = 3 then 2 else 0) r) = 0 → (thO (fun q => q.1.toInt64) oc r) 0 = q.1.toInt64) ∧ Rl (n + 1) (thM (fun q => q.2) ν r) q.2
def Sm_54 (Rl : Nat → Mm → Mm → Prop) : Prop := ∀ (n : Nat) (ν μ : Mm), n < 512 → Rl n ν μ → ∀ (a1 a2 : Int32), ∃ (r : Thr (Int32 × Mm)), ∃ (q : Int32 × Mm), (g_X11_setRate ν a1 a2 = some r) ∧ (∀ k, r = .error k → k = 1 ∨ k = 2 ∨ k = 3) ∧ (g_X12_setRate μ a1 a2 = some q) ∧ ((thC (fun k => if k = 1 then 1 else if k = 2 then 2 else if k = 3 then 3 else 0) r) = f_X12_thrown q.2) ∧ (∀ oc : Nat → Int64, (thC (fun k => if k = 1 then 1 else if k = 2 then 2 else if k = 3 then 3 else 0) r) = 0 → (thO (fun q => q.1.toInt64) oc r) 0 = q.1.toInt64) ∧ Rl (n + 1) (thM (fun q => q.2) ν r) q.2
def Sm_55 (Rl : Nat → Mm → Mm → Prop) : Prop := ∀ (n : Nat) (ν μ : Mm), n < 512 → Rl n ν μ → ∀ (a1 a2 : Int32), ∃ (r : Thr (Int32 × Mm)), ∃ (q : Int32 × Mm), (g_X11_setPercent ν a1 a2 = some r) ∧ (∀ k, r = .error k → k = 1 ∨ k = 2 ∨ k = 3) ∧ (g_X12_setPercent μ a1 a2 = some q) ∧ ((thC (fun k => if k = 1 then 1 else if k = 2 then 2 else if k = 3 then 3 else 0) r) = f_X12_thrown q.2) ∧ (∀ oc : Nat → Int64, (thC (fun k => if k = 1 then 1 else if k = 2 then 2 else if k = 3 then 3 else 0) r) = 0 → (thO (fun q => q.1.toInt64) oc r) 0 = q.1.toInt64) ∧ Rl (n + 1) (thM (fun q => q.2) ν r) q.2
def Sm_56 (Rl : Nat → Mm → Mm → Prop) : Prop := ∀ (n : Nat) (ν μ : Mm), n < 512 → Rl n ν μ → ∀ (a1 a2 : Int32), ∃ (r : Thr (Int32 × Mm)), ∃ (q : Int32 × Mm), (g_X11_setLay ν a1 a2 = some r) ∧ (∀ k, r = .error k → k = 2 ∨ k = 3) ∧ (g_X12_setLay μ a1 a2 = some q) ∧ ((thC (fun k => if k = 2 then 1 else if k = 3 then 2 else 0) r) = f_X12_thrown q.2) ∧ (∀ oc : Nat → Int64, (thC (fun k => if k = 2 then 1 else if k = 3 then 2 else 0) r) = 0 → (thO (fun q => q.1.toInt64) oc r) 0 = q.1.toInt64) ∧ Rl (n + 1) (thM (fun q => q.2) ν r) q.2
def Sm_57 (Rl : Nat → Mm → Mm → Prop) : Prop := ∀ (n : Nat) (ν μ : Mm), n < 512 → Rl n ν μ → ∃ (r : Thr (Int32 × Mm)), ∃ (q : Int32 × Mm), (g_X11_undo ν  = some r) ∧ (∀ k, r = .error k → k = 3) ∧ (g_X12_undo μ = some q) ∧ ((thC (fun k => if k = 3 then 1 else 0) r) = f_X12_thrown q.2) ∧ (∀ oc : Nat → Int64, (thC (fun k => if k = 3 then 1 else 0) r) = 0 → (thO (fun q => q.1.toInt64) oc r) 0 = q.1.toInt64) ∧ Rl (n + 1) (thM (fun q => q.2) ν r) q.2
def Sm_58 (Rl : Nat → Mm → Mm → Prop) : Prop := ∀ (n : Nat) (ν μ : Mm), n < 512 → Rl n ν μ → ∃ (r : Int32), ∃ (q : Int32 × Mm), (g_X11_undoCount ν = some r) ∧ (g_X12_undoCount μ = some q) ∧ (r = q.1) ∧ Rl (n + 1) ν q.2
def Sm_59 (Rl : Nat → Mm → Mm → Prop) : Prop := ∀ (n : Nat) (ν μ : Mm), n < 512 → Rl n ν μ → ∀ (a1 : Int32), ∃ (r : Thr (Int32 × Mm)), ∃ (q : Int32 × Mm), (g_X11_writeStatement ν a1 = some r) ∧ (∀ k, r = .error k → k = 1) ∧ (g_X12_writeStatement μ a1 = some q) ∧ ((thC (fun k => if k = 1 then 1 else 0) r) = f_X12_thrown q.2) ∧ (∀ oc : Nat → Int64, (thC (fun k => if k = 1 then 1 else 0) r) = 0 → (thO (fun q => q.1.toInt64) oc r) 0 = q.1.toInt64) ∧ Rl (n + 1) (thM (fun q => q.2) ν r) q.2
def Sm_60 (Rl : Nat → Mm → Mm → Prop) : Prop := ∀ (n : Nat) (ν μ : Mm), n < 512 → Rl n ν μ → ∀ (a1 : Int32), ∃ (r : Thr (Int32 × Mm)), ∃ (q : Int32 × Mm), (g_X11_writeInvoice ν a1 = some r) ∧ (∀ k, r = .error k → k = 1) ∧ (g_X12_writeInvoice μ a1 = some q) ∧ ((thC (fun k => if k = 1 then 1 else 0) r) = f_X12_thrown q.2) ∧ (∀ oc : Nat → Int64, (thC (fun k => if k = 1 then 1 else 0) r) = 0 → (thO (fun q => q.1.toInt64) oc r) 0 = q.1.toInt64) ∧ Rl (n + 1) (thM (fun q => q.2) ν r) q.2
def Sm_61 (Rl : Nat → Mm → Mm → Prop) : Prop := ∀ (n : Nat) (ν μ : Mm), n < 512 → Rl n ν μ → ∀ (a1 : Int32), ∃ (r : Thr (Int32 × Mm)), ∃ (q : Int32 × Mm), (g_X11_writeTariff ν a1 = some r) ∧ (∀ k, r = .error k → k = 1) ∧ (g_X12_writeTariff μ a1 = some q) ∧ ((thC (fun k => if k = 1 then 1 else 0) r) = f_X12_thrown q.2) ∧ (∀ oc : Nat → Int64, (thC (fun k => if k = 1 then 1 else 0) r) = 0 → (thO (fun q => q.1.toInt64) oc r) 0 = q.1.toInt64) ∧ Rl (n + 1) (thM (fun q => q.2) ν r) q.2
def Sm_62 (Rl : Nat → Mm → Mm → Prop) : Prop := ∀ (n : Nat) (ν μ : Mm), n < 512 → Rl n ν μ → ∀ (a1 a2 a3 a4 a5 : Int32), ∃ (r : Thr Int32), ∃ (q : Int32 × Mm), (g_X11_bestDay ν a1 a2 a3 a4 a5 = some r) ∧ (∀ k, r = .error k → k = 1 ∨ k = 2) ∧ (g_X12_bestDay μ a1 a2 a3 a4 a5 = some q) ∧ ((thC (fun k => if k = 1 then 1 else if k = 2 then 2 else 0) r) = f_X12_thrown q.2) ∧ (∀ oc : Nat → Int64, (thC (fun k => if k = 1 then 1 else if k = 2 then 2 else 0) r) = 0 → (thO (fun q => q.toInt64) oc r) 0 = q.1.toInt64) ∧ Rl (n + 1) (thM (fun _ => ν) ν r) q.2
def Sm_63 (Rl : Nat → Mm → Mm → Prop) : Prop := ∀ (n : Nat) (ν μ : Mm), n < 512 → Rl n ν μ → ∀ (a1 : Int32), ∃ (r : Thr Int32), ∃ (q : Int32 × Mm), (g_X11_outputByte ν a1 = some r) ∧ (∀ k, r = .error k → k = 1) ∧ (g_X12_outputByte μ a1 = some q) ∧ ((thC (fun k => if k = 1 then 1 else 0) r) = f_X12_thrown q.2) ∧ (∀ oc : Nat → Int64, (thC (fun k => if k = 1 then 1 else 0) r) = 0 → (thO (fun q => q.toInt64) oc r) 0 = q.1.toInt64) ∧ Rl (n + 1) (thM (fun _ => ν) ν r) q.2
def SmAll (Rl : Nat → Mm → Mm → Prop) : Prop := (∀ n ν μ, Rl n ν μ → OkR (μ.1 1)) ∧ Rl 0 nu0 mu0 ∧ Sm_0 Rl ∧ Sm_1 Rl ∧ Sm_2 Rl ∧ Sm_3 Rl ∧ Sm_4 Rl ∧ Sm_5 Rl ∧ Sm_6 Rl ∧ Sm_7 Rl ∧ Sm_8 Rl ∧ Sm_9 Rl ∧ Sm_10 Rl ∧ Sm_11 Rl ∧ Sm_12 Rl ∧ Sm_13 Rl ∧ Sm_14 Rl ∧ Sm_15 Rl ∧ Sm_16 Rl ∧ Sm_17 Rl ∧ Sm_18 Rl ∧ Sm_19 Rl ∧ Sm_20 Rl ∧ Sm_21 Rl ∧ Sm_22 Rl ∧ Sm_23 Rl ∧ Sm_24 Rl ∧ Sm_25 Rl ∧ Sm_26 Rl ∧ Sm_27 Rl ∧ Sm_28 Rl ∧ Sm_29 Rl ∧ Sm_30 Rl ∧ Sm_31 Rl ∧ Sm_32 Rl ∧ Sm_33 Rl ∧ Sm_34 Rl ∧ Sm_35 Rl ∧ Sm_36 Rl ∧ Sm_37 Rl ∧ Sm_38 Rl ∧ Sm_39 Rl ∧ Sm_40 Rl ∧ Sm_41 Rl ∧ Sm_42 Rl ∧ Sm_43 Rl ∧ Sm_44 Rl ∧ Sm_45 Rl ∧ Sm_46 Rl ∧ Sm_47 Rl ∧ Sm_48 Rl ∧ Sm_49 Rl ∧ Sm_50 Rl ∧ Sm_51t Rl ∧ Sm_51f Rl ∧ Sm_52 Rl ∧ Sm_53 Rl ∧ Sm_54 Rl ∧ Sm_55 Rl ∧ Sm_56 Rl ∧ Sm_57 Rl ∧ Sm_58 Rl ∧ Sm_59 Rl ∧ Sm_60 Rl ∧ Sm_61 Rl ∧ Sm_62 Rl ∧ Sm_63 Rl
theorem and63 (x : Int32) : ∃ v : Nat, v < 64 ∧ (x &&& 63).toInt = (v : Int) := by
  have h2 : (x &&& 63).toInt = (x.toBitVec &&& 63#32).toInt := rfl
  have h4 : (x.toBitVec &&& 63#32).toNat < 64 := by
    rw [BitVec.toNat_and]
    exact Nat.lt_of_le_of_lt Nat.and_le_right (by decide)
  refine ⟨(x.toBitVec &&& 63#32).toNat, h4, ?_⟩
  rw [h2, BitVec.toInt_eq_toNat_of_lt (by omega)]
set_option maxRecDepth 20000 in
set_option maxHeartbeats 4000000 in
theorem law_sw {p : Program} {l : Launch} {e : Env} {s : State} {m : MethodId} {args : Array Value} {below : List Frame} {meth : Method} {c : Code} {Q : State → Prop} {H : Heap} {locs : List Loc} {cells slots : Nat} {D : va_G} {cA : Nat → ClassId} {a b L : Nat} {xs : Nat → Int32} {i : Int32} {ν μ : Mm} {oc : Nat → Int64} {Rl : Nat → Mm → Mm → Prop} (hs : SmAll Rl)
    (C : xC D cA s RL cL_law 8 (some .boolean) p s m args meth c) (hG : xG l D cA s) (hNc : xNc s) (hX : va_X a L xs s s.heap) (hal : a < s.heap.size) (hw : LW D cA s b ν μ oc H) (hS : va_S (xOut s) s.heap H locs) (hcs : cells + 200 ≤ 601024 ∧ slots + 2000 ≤ 7293034) {nj : Nat} (hj : nj < 512) (hR : Rl nj ν μ) {x : Int32}
    (r1 : vp_in (i + 1) L) (r2 : vp_in (i + 2) L) (r3 : vp_in (i + 3) L) (r4 : vp_in (i + 4) L) (r5 : vp_in (i + 5) L)
    (kk : ∀ (ν2 μ2 : Mm) (oc2 : Nat → Int64) (H1 : Heap) (locs1 : List Loc), Rl (nj + 1) ν2 μ2 → LW D cA s b ν2 μ2 oc2 H1 → va_S (xOut s) s.heap H1 locs1 → xW p l e room_1 s m args below meth c 8 Q H1 locs1 (cells + 200) (slots + 2000) 4068 [(4, .int i), (3, .ref (b + 2636)), (2, .ref (b + 2628)), (1, .ref b), (0, .ref a)] []) :
    xW p l e room_1 s m args below meth c 8 Q H locs cells slots 40 [(4, .int i), (3, .ref (b + 2636)), (2, .ref (b + 2628)), (1, .ref b), (0, .ref a)] [.int (x &&& 63)] := by
  obtain ⟨hok, -, s0, s1, s2, s3, s4, s5, s6, s7, s8, s9, s10, s11, s12, s13, s14, s15, s16, s17, s18, s19, s20, s21, s22, s23, s24, s25, s26, s27, s28, s29, s30, s31, s32, s33, s34, s35, s36, s37, s38, s39, s40, s41, s42, s43, s44, s45, s46, s47, s48, s49, s50, s51t, s51f, s52, s53, s54, s55, s56, s57, s58, s59, s60, s61, s62, s63⟩ := hs
  have hok := hok _ ν μ hR
  obtain ⟨v, hv, ev⟩ := and63 x
  match v, hv, ev with
  | 0, _, ev =>
    refine x_tabIn 0 312 C dL_law_40 ev (by decide) (by decide) rfl (by decide) ?_
    obtain ⟨r, q, h_hF, h_hk, h_hM, h_ht, h_ho, hR2⟩ := s0 nj ν μ hj hR (xs (i + 1).toNatClampNeg) (xs (i + 2).toNatClampNeg) (xs (i + 3).toNatClampNeg) (xs (i + 4).toNatClampNeg) (xs (i + 5).toNatClampNeg)
    exact cs_0 C hG hNc hX hal hw hS hcs (xs (i + 1).toNatClampNeg) (xs (i + 2).toNatClampNeg) (xs (i + 3).toNatClampNeg) (xs (i + 4).toNatClampNeg) (xs (i + 5).toNatClampNeg) ⟨r1, rfl⟩ ⟨r2, rfl⟩ ⟨r3, rfl⟩ ⟨r4, rfl⟩ ⟨r5, rfl⟩ r q (hF := h_hF) (hk := h_hk) (hM := h_hM) (ht := h_ht) (ho := h_ho oc) (kk := fun H1 locs1 hw1 hS1 => kk _ _ _ _ _ hR2 hw1 hS1)
  | 1, _, ev =>
    refine x_tabIn 1 416 C dL_law_40 ev (by decide) (by decide) rfl (by decide) ?_
    obtain ⟨r, q, h_hF, h_hk, h_hM, h_ht, hR2⟩ := s1 nj ν μ hj hR (xs (i + 1).toNatClampNeg)
    exact cs_1 C hG hNc hX hal hw hS hcs (xs (i + 1).toNatClampNeg) ⟨r1, rfl⟩ r q (hF := h_hF) (hk := h_hk) (hM := h_hM) (ht := h_ht) (kk := fun H1 locs1 hw1 hS1 => kk _ _ _ _ _ hR2 hw1 hS1)
  | 2, _, ev =>
    refine x_tabIn 2 452 C dL_law_40 ev (by decide) (by decide) rfl (by decide) ?_
    obtain ⟨r, q, h_hF, h_hM, h_hx, hR2⟩ := s2 nj ν μ hj hR
    exact cs_2 C hG hNc hX hal hw hS hcs  r q (hF := h_hF) (hM := h_hM) (hx := h_hx) (kk := fun H1 locs1 hw1 hS1 => kk _ _ _ _ _ hR2 hw1 hS1)
  | 3, _, ev =>
    refine x_tabIn 3 465 C dL_law_40 ev (by decide) (by decide) rfl (by decide) ?_
    obtain ⟨r, q, h_hF, h_hM, h_hx, hR2⟩ := s3 nj ν μ hj hR
    exact cs_3 C hG hNc hX hal hw hS hcs  r q (hF := h_hF) (hM := h_hM) (hx := h_hx) (kk := fun H1 locs1 hw1 hS1 => kk _ _ _ _ _ hR2 hw1 hS1)
  | 4, _, ev =>
    refine x_tabIn 4 478 C dL_law_40 ev (by decide) (by decide) rfl (by decide) ?_
    obtain ⟨r, q, h_hF, h_hM, h_hx, hR2⟩ := s4 nj ν μ hj hR
    exact cs_4 C hG hNc hX hal hw hS hcs  r q (hF := h_hF) (hM := h_hM) (hx := h_hx) (kk := fun H1 locs1 hw1 hS1 => kk _ _ _ _ _ hR2 hw1 hS1)
  | 5, _, ev =>
    refine x_tabIn 5 491 C dL_law_40 ev (by decide) (by decide) rfl (by decide) ?_
    obtain ⟨r, q, h_hF, h_hM, h_hx, hR2⟩ := s5 nj ν μ hj hR
    exact cs_5 C hG hNc hX hal hw hS hcs  r q (hF := h_hF) (hM := h_hM) (hx := h_hx) (kk := fun H1 locs1 hw1 hS1 => kk _ _ _ _ _ hR2 hw1 hS1)
  | 6, _, ev =>
    refine x_tabIn 6 504 C dL_law_40 ev (by decide) (by decide) rfl (by decide) ?_
    obtain ⟨r, q, h_hF, h_hk, h_hM, h_ht, h_ho, hR2⟩ := s6 nj ν μ hj hR (xs (i + 1).toNatClampNeg)
    exact cs_6 C hG hNc hX hal hw hS hcs (xs (i + 1).toNatClampNeg) ⟨r1, rfl⟩ r q (hF := h_hF) (hk := h_hk) (hok := hok) (hM := h_hM) (ht := h_ht) (ho := h_ho oc) (kk := fun H1 locs1 hw1 hS1 => kk _ _ _ _ _ hR2 hw1 hS1)
  | 7, _, ev =>
    refine x_tabIn 7 560 C dL_law_40 ev (by decide) (by decide) rfl (by decide) ?_
    obtain ⟨r, q, h_hF, h_hk, h_hM, h_ht, h_ho, hR2⟩ := s7 nj ν μ hj hR (xs (i + 1).toNatClampNeg)
    exact cs_7 C hG hNc hX hal hw hS hcs (xs (i + 1).toNatClampNeg) ⟨r1, rfl⟩ r q (hF := h_hF) (hk := h_hk) (hok := hok) (hM := h_hM) (ht := h_ht) (ho := h_ho oc) (kk := fun H1 locs1 hw1 hS1 => kk _ _ _ _ _ hR2 hw1 hS1)
  | 8, _, ev =>
    refine x_tabIn 8 616 C dL_law_40 ev (by decide) (by decide) rfl (by decide) ?_
    obtain ⟨r, q, h_hF, h_hk, h_hM, h_ht, h_ho, hR2⟩ := s8 nj ν μ hj hR (xs (i + 1).toNatClampNeg) (xs (i + 2).toNatClampNeg)
    exact cs_8 C hG hNc hX hal hw hS hcs (xs (i + 1).toNatClampNeg) (xs (i + 2).toNatClampNeg) ⟨r1, rfl⟩ ⟨r2, rfl⟩ r q (hF := h_hF) (hk := h_hk) (hok := hok) (hM := h_hM) (ht := h_ht) (ho := h_ho oc) (kk := fun H1 locs1 hw1 hS1 => kk _ _ _ _ _ hR2 hw1 hS1)
  | 9, _, ev =>
    refine x_tabIn 9 684 C dL_law_40 ev (by decide) (by decide) rfl (by decide) ?_
    obtain ⟨r, q, h_hF, h_hk, h_hM, h_ht, h_ho, hR2⟩ := s9 nj ν μ hj hR (xs (i + 1).toNatClampNeg) (xs (i + 2).toNatClampNeg)
    exact cs_9 C hG hNc hX hal hw hS hcs (xs (i + 1).toNatClampNeg) (xs (i + 2).toNatClampNeg) ⟨r1, rfl⟩ ⟨r2, rfl⟩ r q (hF := h_hF) (hk := h_hk) (hok := hok) (hM := h_hM) (ht := h_ht) (ho := h_ho oc) (kk := fun H1 locs1 hw1 hS1 => kk _ _ _ _ _ hR2 hw1 hS1)
  | 10, _, ev =>
    refine x_tabIn 10 752 C dL_law_40 ev (by decide) (by decide) rfl (by decide) ?_
    obtain ⟨r, q, h_hF, h_hk, h_hM, h_ht, h_ho, hR2⟩ := s10 nj ν μ hj hR (xs (i + 1).toNatClampNeg)
    exact cs_10 C hG hNc hX hal hw hS hcs (xs (i + 1).toNatClampNeg) ⟨r1, rfl⟩ r q (hF := h_hF) (hk := h_hk) (hok := hok) (hM := h_hM) (ht := h_ht) (ho := h_ho oc) (kk := fun H1 locs1 hw1 hS1 => kk _ _ _ _ _ hR2 hw1 hS1)
  | 11, _, ev =>
    refine x_tabIn 11 808 C dL_law_40 ev (by decide) (by decide) rfl (by decide) ?_
    obtain ⟨r, q, h_hF, h_hk, h_hM, h_ht, h_ho, hR2⟩ := s11 nj ν μ hj hR (xs (i + 1).toNatClampNeg)
    exact cs_11 C hG hNc hX hal hw hS hcs (xs (i + 1).toNatClampNeg) ⟨r1, rfl⟩ r q (hF := h_hF) (hk := h_hk) (hok := hok) (hM := h_hM) (ht := h_ht) (ho := h_ho oc) (kk := fun H1 locs1 hw1 hS1 => kk _ _ _ _ _ hR2 hw1 hS1)
  | 12, _, ev =>
    refine x_tabIn 12 864 C dL_law_40 ev (by decide) (by decide) rfl (by decide) ?_
    obtain ⟨r, q, h_hF, h_hk, h_hM, h_ht, h_ho, hR2⟩ := s12 nj ν μ hj hR (xs (i + 1).toNatClampNeg) (xs (i + 2).toNatClampNeg)
    exact cs_12 C hG hNc hX hal hw hS hcs (xs (i + 1).toNatClampNeg) (xs (i + 2).toNatClampNeg) ⟨r1, rfl⟩ ⟨r2, rfl⟩ r q (hF := h_hF) (hk := h_hk) (hok := hok) (hM := h_hM) (ht := h_ht) (ho := h_ho oc) (kk := fun H1 locs1 hw1 hS1 => kk _ _ _ _ _ hR2 hw1 hS1)
  | 13, _, ev =>
    refine x_tabIn 13 932 C dL_law_40 ev (by decide) (by decide) rfl (by decide) ?_
    obtain ⟨r, q, h_hF, h_hk, h_hM, h_ht, h_ho, hR2⟩ := s13 nj ν μ hj hR (xs (i + 1).toNatClampNeg)
    exact cs_13 C hG hNc hX hal hw hS hcs (xs (i + 1).toNatClampNeg) ⟨r1, rfl⟩ r q (hF := h_hF) (hk := h_hk) (hok := hok) (hM := h_hM) (ht := h_ht) (ho := h_ho oc) (kk := fun H1 locs1 hw1 hS1 => kk _ _ _ _ _ hR2 hw1 hS1)
  | 14, _, ev =>
    refine x_tabIn 14 988 C dL_law_40 ev (by decide) (by decide) rfl (by decide) ?_
    obtain ⟨r, q, h_hF, h_hk, h_hM, h_ht, h_ho, hR2⟩ := s14 nj ν μ hj hR (xs (i + 1).toNatClampNeg)
    exact cs_14 C hG hNc hX hal hw hS hcs (xs (i + 1).toNatClampNeg) ⟨r1, rfl⟩ r q (hF := h_hF) (hk := h_hk) (hok := hok) (hM := h_hM) (ht := h_ht) (ho := h_ho oc) (kk := fun H1 locs1 hw1 hS1 => kk _ _ _ _ _ hR2 hw1 hS1)
  | 15, _, ev =>
    refine x_tabIn 15 1044 C dL_law_40 ev (by decide) (by decide) rfl (by decide) ?_
    obtain ⟨r, q, h_hF, h_hk, h_hM, h_ht, h_ho, hR2⟩ := s15 nj ν μ hj hR (xs (i + 1).toNatClampNeg) (xs (i + 2).toNatClampNeg)
    exact cs_15 C hG hNc hX hal hw hS hcs (xs (i + 1).toNatClampNeg) (xs (i + 2).toNatClampNeg) ⟨r1, rfl⟩ ⟨r2, rfl⟩ r q (hF := h_hF) (hk := h_hk) (hok := hok) (hM := h_hM) (ht := h_ht) (ho := h_ho oc) (kk := fun H1 locs1 hw1 hS1 => kk _ _ _ _ _ hR2 hw1 hS1)
  | 16, _, ev =>
    refine x_tabIn 16 1112 C dL_law_40 ev (by decide) (by decide) rfl (by decide) ?_
    obtain ⟨r, q, h_hF, h_hk, h_hM, h_ht, h_ho, hR2⟩ := s16 nj ν μ hj hR (xs (i + 1).toNatClampNeg) (xs (i + 2).toNatClampNeg)
    exact cs_16 C hG hNc hX hal hw hS hcs (xs (i + 1).toNatClampNeg) (xs (i + 2).toNatClampNeg) ⟨r1, rfl⟩ ⟨r2, rfl⟩ r q (hF := h_hF) (hk := h_hk) (hok := hok) (hM := h_hM) (ht := h_ht) (ho := h_ho oc) (kk := fun H1 locs1 hw1 hS1 => kk _ _ _ _ _ hR2 hw1 hS1)
  | 17, _, ev =>
    refine x_tabIn 17 1180 C dL_law_40 ev (by decide) (by decide) rfl (by decide) ?_
    obtain ⟨r, q, h_hF, h_hk, h_hM, h_ht, h_ho, hR2⟩ := s17 nj ν μ hj hR (xs (i + 1).toNatClampNeg)
    exact cs_17 C hG hNc hX hal hw hS hcs (xs (i + 1).toNatClampNeg) ⟨r1, rfl⟩ r q (hF := h_hF) (hk := h_hk) (hok := hok) (hM := h_hM) (ht := h_ht) (ho := h_ho oc) (kk := fun H1 locs1 hw1 hS1 => kk _ _ _ _ _ hR2 hw1 hS1)
  | 18, _, ev =>
    refine x_tabIn 18 1236 C dL_law_40 ev (by decide) (by decide) rfl (by decide) ?_
    obtain ⟨r, q, h_hF, h_hk, h_hM, h_ht, h_ho, hR2⟩ := s18 nj ν μ hj hR (xs (i + 1).toNatClampNeg)
    exact cs_18 C hG hNc hX hal hw hS hcs (xs (i + 1).toNatClampNeg) ⟨r1, rfl⟩ r q (hF := h_hF) (hk := h_hk) (hok := hok) (hM := h_hM) (ht := h_ht) (ho := h_ho oc) (kk := fun H1 locs1 hw1 hS1 => kk _ _ _ _ _ hR2 hw1 hS1)
  | 19, _, ev =>
    refine x_tabIn 19 1292 C dL_law_40 ev (by decide) (by decide) rfl (by decide) ?_
    obtain ⟨r, q, h_hF, h_hk, h_hM, h_ht, h_ho, hR2⟩ := s19 nj ν μ hj hR (xs (i + 1).toNatClampNeg)
    exact cs_19 C hG hNc hX hal hw hS hcs (xs (i + 1).toNatClampNeg) ⟨r1, rfl⟩ r q (hF := h_hF) (hk := h_hk) (hok := hok) (hM := h_hM) (ht := h_ht) (ho := h_ho oc) (kk := fun H1 locs1 hw1 hS1 => kk _ _ _ _ _ hR2 hw1 hS1)
  | 20, _, ev =>
    refine x_tabIn 20 1348 C dL_law_40 ev (by decide) (by decide) rfl (by decide) ?_
    obtain ⟨r, q, h_hF, h_hk, h_hM, h_ht, h_ho, hR2⟩ := s20 nj ν μ hj hR (xs (i + 1).toNatClampNeg)
    exact cs_20 C hG hNc hX hal hw hS hcs (xs (i + 1).toNatClampNeg) ⟨r1, rfl⟩ r q (hF := h_hF) (hk := h_hk) (hok := hok) (hM := h_hM) (ht := h_ht) (ho := h_ho oc) (kk := fun H1 locs1 hw1 hS1 => kk _ _ _ _ _ hR2 hw1 hS1)
  | 21, _, ev =>
    refine x_tabIn 21 1404 C dL_law_40 ev (by decide) (by decide) rfl (by decide) ?_
    obtain ⟨r, q, h_hF, h_hk, h_hM, h_ht, h_ho, hR2⟩ := s21 nj ν μ hj hR (xs (i + 1).toNatClampNeg)
    exact cs_21 C hG hNc hX hal hw hS hcs (xs (i + 1).toNatClampNeg) ⟨r1, rfl⟩ r q (hF := h_hF) (hk := h_hk) (hok := hok) (hM := h_hM) (ht := h_ht) (ho := h_ho oc) (kk := fun H1 locs1 hw1 hS1 => kk _ _ _ _ _ hR2 hw1 hS1)
  | 22, _, ev =>
    refine x_tabIn 22 1460 C dL_law_40 ev (by decide) (by decide) rfl (by decide) ?_
    obtain ⟨r, q, h_hF, h_hk, h_hM, h_ht, h_ho, hR2⟩ := s22 nj ν μ hj hR (xs (i + 1).toNatClampNeg) (xs (i + 2).toNatClampNeg)
    exact cs_22 C hG hNc hX hal hw hS hcs (xs (i + 1).toNatClampNeg) (xs (i + 2).toNatClampNeg) ⟨r1, rfl⟩ ⟨r2, rfl⟩ r q (hF := h_hF) (hk := h_hk) (hok := hok) (hM := h_hM) (ht := h_ht) (ho := h_ho oc) (kk := fun H1 locs1 hw1 hS1 => kk _ _ _ _ _ hR2 hw1 hS1)
  | 23, _, ev =>
    refine x_tabIn 23 1528 C dL_law_40 ev (by decide) (by decide) rfl (by decide) ?_
    obtain ⟨r, q, h_hF, h_hk, h_hM, h_ht, h_ho, hR2⟩ := s23 nj ν μ hj hR (xs (i + 1).toNatClampNeg)
    exact cs_23 C hG hNc hX hal hw hS hcs (xs (i + 1).toNatClampNeg) ⟨r1, rfl⟩ r q (hF := h_hF) (hk := h_hk) (hok := hok) (hM := h_hM) (ht := h_ht) (ho := h_ho oc) (kk := fun H1 locs1 hw1 hS1 => kk _ _ _ _ _ hR2 hw1 hS1)
  | 24, _, ev =>
    refine x_tabIn 24 1584 C dL_law_40 ev (by decide) (by decide) rfl (by decide) ?_
    obtain ⟨r, q, h_hF, h_hk, h_hM, h_ht, h_ho, hR2⟩ := s24 nj ν μ hj hR (xs (i + 1).toNatClampNeg) (xs (i + 2).toNatClampNeg)
    exact cs_24 C hG hNc hX hal hw hS hcs (xs (i + 1).toNatClampNeg) (xs (i + 2).toNatClampNeg) ⟨r1, rfl⟩ ⟨r2, rfl⟩ r q (hF := h_hF) (hk := h_hk) (hok := hok) (hM := h_hM) (ht := h_ht) (ho := h_ho oc) (kk := fun H1 locs1 hw1 hS1 => kk _ _ _ _ _ hR2 hw1 hS1)
  | 25, _, ev =>
    refine x_tabIn 25 1652 C dL_law_40 ev (by decide) (by decide) rfl (by decide) ?_
    obtain ⟨r, q, h_hF, h_hk, h_hM, h_ht, h_ho, hR2⟩ := s25 nj ν μ hj hR (xs (i + 1).toNatClampNeg) (xs (i + 2).toNatClampNeg)
    exact cs_25 C hG hNc hX hal hw hS hcs (xs (i + 1).toNatClampNeg) (xs (i + 2).toNatClampNeg) ⟨r1, rfl⟩ ⟨r2, rfl⟩ r q (hF := h_hF) (hk := h_hk) (hok := hok) (hM := h_hM) (ht := h_ht) (ho := h_ho oc) (kk := fun H1 locs1 hw1 hS1 => kk _ _ _ _ _ hR2 hw1 hS1)
  | 26, _, ev =>
    refine x_tabIn 26 1720 C dL_law_40 ev (by decide) (by decide) rfl (by decide) ?_
    obtain ⟨r, q, h_hF, h_hk, h_hM, h_ht, h_ho, hR2⟩ := s26 nj ν μ hj hR (xs (i + 1).toNatClampNeg)
    exact cs_26 C hG hNc hX hal hw hS hcs (xs (i + 1).toNatClampNeg) ⟨r1, rfl⟩ r q (hF := h_hF) (hk := h_hk) (hok := hok) (hM := h_hM) (ht := h_ht) (ho := h_ho oc) (kk := fun H1 locs1 hw1 hS1 => kk _ _ _ _ _ hR2 hw1 hS1)
  | 27, _, ev =>
    refine x_tabIn 27 1776 C dL_law_40 ev (by decide) (by decide) rfl (by decide) ?_
    obtain ⟨r, q, h_hF, h_hk, h_hM, h_ht, h_ho, hR2⟩ := s27 nj ν μ hj hR (xs (i + 1).toNatClampNeg)
    exact cs_27 C hG hNc hX hal hw hS hcs (xs (i + 1).toNatClampNeg) ⟨r1, rfl⟩ r q (hF := h_hF) (hk := h_hk) (hok := hok) (hM := h_hM) (ht := h_ht) (ho := h_ho oc) (kk := fun H1 locs1 hw1 hS1 => kk _ _ _ _ _ hR2 hw1 hS1)
  | 28, _, ev =>
    refine x_tabIn 28 1832 C dL_law_40 ev (by decide) (by decide) rfl (by decide) ?_
    obtain ⟨r, q, h_hF, h_hk, h_hM, h_ht, h_ho, hR2⟩ := s28 nj ν μ hj hR (xs (i + 1).toNatClampNeg) (xs (i + 2).toNatClampNeg)
    exact cs_28 C hG hNc hX hal hw hS hcs (xs (i + 1).toNatClampNeg) (xs (i + 2).toNatClampNeg) ⟨r1, rfl⟩ ⟨r2, rfl⟩ r q (hF := h_hF) (hk := h_hk) (hok := hok) (hM := h_hM) (ht := h_ht) (ho := h_ho oc) (kk := fun H1 locs1 hw1 hS1 => kk _ _ _ _ _ hR2 hw1 hS1)
  | 29, _, ev =>
    refine x_tabIn 29 1900 C dL_law_40 ev (by decide) (by decide) rfl (by decide) ?_
    obtain ⟨r, q, h_hF, h_hk, h_hM, h_ht, h_ho, hR2⟩ := s29 nj ν μ hj hR (xs (i + 1).toNatClampNeg)
    exact cs_29 C hG hNc hX hal hw hS hcs (xs (i + 1).toNatClampNeg) ⟨r1, rfl⟩ r q (hF := h_hF) (hk := h_hk) (hok := hok) (hM := h_hM) (ht := h_ht) (ho := h_ho oc) (kk := fun H1 locs1 hw1 hS1 => kk _ _ _ _ _ hR2 hw1 hS1)
  | 30, _, ev =>
    refine x_tabIn 30 1963 C dL_law_40 ev (by decide) (by decide) rfl (by decide) ?_
    obtain ⟨r, q, h_hF, h_hM, h_hx, hR2⟩ := s30 nj ν μ hj hR
    exact cs_30 C hG hNc hX hal hw hS hcs  r q (hF := h_hF) (hok := hok) (hM := h_hM) (hx := h_hx) (kk := fun H1 locs1 hw1 hS1 => kk _ _ _ _ _ hR2 hw1 hS1)
  | 31, _, ev =>
    refine x_tabIn 31 1976 C dL_law_40 ev (by decide) (by decide) rfl (by decide) ?_
    obtain ⟨r, q, h_hF, h_hk, h_hM, h_ht, h_ho, hR2⟩ := s31 nj ν μ hj hR (xs (i + 1).toNatClampNeg)
    exact cs_31 C hG hNc hX hal hw hS hcs (xs (i + 1).toNatClampNeg) ⟨r1, rfl⟩ r q (hF := h_hF) (hk := h_hk) (hok := hok) (hM := h_hM) (ht := h_ht) (ho := h_ho oc) (kk := fun H1 locs1 hw1 hS1 => kk _ _ _ _ _ hR2 hw1 hS1)
  | 32, _, ev =>
    refine x_tabIn 32 2032 C dL_law_40 ev (by decide) (by decide) rfl (by decide) ?_
    obtain ⟨r, q, h_hF, h_hk, h_hM, h_ht, h_ho, hR2⟩ := s32 nj ν μ hj hR (xs (i + 1).toNatClampNeg) (xs (i + 2).toNatClampNeg)
    exact cs_32 C hG hNc hX hal hw hS hcs (xs (i + 1).toNatClampNeg) (xs (i + 2).toNatClampNeg) ⟨r1, rfl⟩ ⟨r2, rfl⟩ r q (hF := h_hF) (hk := h_hk) (hok := hok) (hM := h_hM) (ht := h_ht) (ho := h_ho oc) (kk := fun H1 locs1 hw1 hS1 => kk _ _ _ _ _ hR2 hw1 hS1)
  | 33, _, ev =>
    refine x_tabIn 33 2100 C dL_law_40 ev (by decide) (by decide) rfl (by decide) ?_
    obtain ⟨r, q, h_hF, h_hk, h_hM, h_ht, h_ho, hR2⟩ := s33 nj ν μ hj hR (xs (i + 1).toNatClampNeg)
    exact cs_33 C hG hNc hX hal hw hS hcs (xs (i + 1).toNatClampNeg) ⟨r1, rfl⟩ r q (hF := h_hF) (hk := h_hk) (hok := hok) (hM := h_hM) (ht := h_ht) (ho := h_ho oc) (kk := fun H1 locs1 hw1 hS1 => kk _ _ _ _ _ hR2 hw1 hS1)
  | 34, _, ev =>
    refine x_tabIn 34 2155 C dL_law_40 ev (by decide) (by decide) rfl (by decide) ?_
    obtain ⟨r, q, h_hF, h_hk, h_hM, h_ht, h_ho, hR2⟩ := s34 nj ν μ hj hR (xs (i + 1).toNatClampNeg)
    exact cs_34 C hG hNc hX hal hw hS hcs (xs (i + 1).toNatClampNeg) ⟨r1, rfl⟩ r q (hF := h_hF) (hk := h_hk) (hok := hok) (hM := h_hM) (ht := h_ht) (ho := h_ho oc) (kk := fun H1 locs1 hw1 hS1 => kk _ _ _ _ _ hR2 hw1 hS1)
  | 35, _, ev =>
    refine x_tabIn 35 2210 C dL_law_40 ev (by decide) (by decide) rfl (by decide) ?_
    obtain ⟨r, q, h_hF, h_hk, h_hM, h_ht, h_ho, hR2⟩ := s35 nj ν μ hj hR (xs (i + 1).toNatClampNeg)
    exact cs_35 C hG hNc hX hal hw hS hcs (xs (i + 1).toNatClampNeg) ⟨r1, rfl⟩ r q (hF := h_hF) (hk := h_hk) (hok := hok) (hM := h_hM) (ht := h_ht) (ho := h_ho oc) (kk := fun H1 locs1 hw1 hS1 => kk _ _ _ _ _ hR2 hw1 hS1)
  | 36, _, ev =>
    refine x_tabIn 36 2266 C dL_law_40 ev (by decide) (by decide) rfl (by decide) ?_
    obtain ⟨r, q, h_hF, h_hk, h_hM, h_ht, h_ho, hR2⟩ := s36 nj ν μ hj hR (xs (i + 1).toNatClampNeg)
    exact cs_36 C hG hNc hX hal hw hS hcs (xs (i + 1).toNatClampNeg) ⟨r1, rfl⟩ r q (hF := h_hF) (hk := h_hk) (hok := hok) (hM := h_hM) (ht := h_ht) (ho := h_ho oc) (kk := fun H1 locs1 hw1 hS1 => kk _ _ _ _ _ hR2 hw1 hS1)
  | 37, _, ev =>
    refine x_tabIn 37 2322 C dL_law_40 ev (by decide) (by decide) rfl (by decide) ?_
    obtain ⟨r, q, h_hF, h_hk, h_hM, h_ht, h_ho, hR2⟩ := s37 nj ν μ hj hR (xs (i + 1).toNatClampNeg) (xs (i + 2).toNatClampNeg)
    exact cs_37 C hG hNc hX hal hw hS hcs (xs (i + 1).toNatClampNeg) (xs (i + 2).toNatClampNeg) ⟨r1, rfl⟩ ⟨r2, rfl⟩ r q (hF := h_hF) (hk := h_hk) (hok := hok) (hM := h_hM) (ht := h_ht) (ho := h_ho oc) (kk := fun H1 locs1 hw1 hS1 => kk _ _ _ _ _ hR2 hw1 hS1)
  | 38, _, ev =>
    refine x_tabIn 38 2389 C dL_law_40 ev (by decide) (by decide) rfl (by decide) ?_
    obtain ⟨r, q, h_hF, h_hk, h_hM, h_ht, h_ho, hR2⟩ := s38 nj ν μ hj hR (xs (i + 1).toNatClampNeg) (xs (i + 2).toNatClampNeg)
    exact cs_38 C hG hNc hX hal hw hS hcs (xs (i + 1).toNatClampNeg) (xs (i + 2).toNatClampNeg) ⟨r1, rfl⟩ ⟨r2, rfl⟩ r q (hF := h_hF) (hk := h_hk) (hok := hok) (hM := h_hM) (ht := h_ht) (ho := h_ho oc) (kk := fun H1 locs1 hw1 hS1 => kk _ _ _ _ _ hR2 hw1 hS1)
  | 39, _, ev =>
    refine x_tabIn 39 2456 C dL_law_40 ev (by decide) (by decide) rfl (by decide) ?_
    obtain ⟨r, q, h_hF, h_hk, h_hM, h_ht, h_ho, hR2⟩ := s39 nj ν μ hj hR (xs (i + 1).toNatClampNeg) (xs (i + 2).toNatClampNeg) (xs (i + 3).toNatClampNeg) (xs (i + 4).toNatClampNeg)
    exact cs_39 C hG hNc hX hal hw hS hcs (xs (i + 1).toNatClampNeg) (xs (i + 2).toNatClampNeg) (xs (i + 3).toNatClampNeg) (xs (i + 4).toNatClampNeg) ⟨r1, rfl⟩ ⟨r2, rfl⟩ ⟨r3, rfl⟩ ⟨r4, rfl⟩ r q (hF := h_hF) (hk := h_hk) (hM := h_hM) (ht := h_ht) (ho := h_ho oc) (kk := fun H1 locs1 hw1 hS1 => kk _ _ _ _ _ hR2 hw1 hS1)
  | 40, _, ev =>
    refine x_tabIn 40 2548 C dL_law_40 ev (by decide) (by decide) rfl (by decide) ?_
    obtain ⟨r, q, h_hF, h_hk, h_hM, h_ht, h_ho, hR2⟩ := s40 nj ν μ hj hR (xs (i + 1).toNatClampNeg) (xs (i + 2).toNatClampNeg)
    exact cs_40 C hG hNc hX hal hw hS hcs (xs (i + 1).toNatClampNeg) (xs (i + 2).toNatClampNeg) ⟨r1, rfl⟩ ⟨r2, rfl⟩ r q (hF := h_hF) (hk := h_hk) (hM := h_hM) (ht := h_ht) (ho := h_ho oc) (kk := fun H1 locs1 hw1 hS1 => kk _ _ _ _ _ hR2 hw1 hS1)
  | 41, _, ev =>
    refine x_tabIn 41 2616 C dL_law_40 ev (by decide) (by decide) rfl (by decide) ?_
    obtain ⟨r, q, h_hF, h_hk, h_hM, h_ht, h_ho, hR2⟩ := s41 nj ν μ hj hR (xs (i + 1).toNatClampNeg)
    exact cs_41 C hG hNc hX hal hw hS hcs (xs (i + 1).toNatClampNeg) ⟨r1, rfl⟩ r q (hF := h_hF) (hk := h_hk) (hM := h_hM) (ht := h_ht) (ho := h_ho oc) (kk := fun H1 locs1 hw1 hS1 => kk _ _ _ _ _ hR2 hw1 hS1)
  | 42, _, ev =>
    refine x_tabIn 42 2672 C dL_law_40 ev (by decide) (by decide) rfl (by decide) ?_
    obtain ⟨r, q, h_hF, h_hk, h_hM, h_ht, h_ho, hR2⟩ := s42 nj ν μ hj hR (xs (i + 1).toNatClampNeg)
    exact cs_42 C hG hNc hX hal hw hS hcs (xs (i + 1).toNatClampNeg) ⟨r1, rfl⟩ r q (hF := h_hF) (hk := h_hk) (hok := hok) (hM := h_hM) (ht := h_ht) (ho := h_ho oc) (kk := fun H1 locs1 hw1 hS1 => kk _ _ _ _ _ hR2 hw1 hS1)
  | 43, _, ev =>
    refine x_tabIn 43 2728 C dL_law_40 ev (by decide) (by decide) rfl (by decide) ?_
    obtain ⟨r, q, h_hF, h_hk, h_hM, h_ht, h_ho, hR2⟩ := s43 nj ν μ hj hR (xs (i + 1).toNatClampNeg) (xs (i + 2).toNatClampNeg) (xs (i + 3).toNatClampNeg) (xs (i + 4).toNatClampNeg)
    exact cs_43 C hG hNc hX hal hw hS hcs (xs (i + 1).toNatClampNeg) (xs (i + 2).toNatClampNeg) (xs (i + 3).toNatClampNeg) (xs (i + 4).toNatClampNeg) ⟨r1, rfl⟩ ⟨r2, rfl⟩ ⟨r3, rfl⟩ ⟨r4, rfl⟩ r q (hF := h_hF) (hk := h_hk) (hM := h_hM) (ht := h_ht) (ho := h_ho oc) (kk := fun H1 locs1 hw1 hS1 => kk _ _ _ _ _ hR2 hw1 hS1)
  | 44, _, ev =>
    refine x_tabIn 44 2820 C dL_law_40 ev (by decide) (by decide) rfl (by decide) ?_
    obtain ⟨r, q, h_hF, h_hk, h_hM, h_ht, h_ho, hR2⟩ := s44 nj ν μ hj hR (xs (i + 1).toNatClampNeg)
    exact cs_44 C hG hNc hX hal hw hS hcs (xs (i + 1).toNatClampNeg) ⟨r1, rfl⟩ r q (hF := h_hF) (hk := h_hk) (hM := h_hM) (ht := h_ht) (ho := h_ho oc) (kk := fun H1 locs1 hw1 hS1 => kk _ _ _ _ _ hR2 hw1 hS1)
  | 45, _, ev =>
    refine x_tabIn 45 2876 C dL_law_40 ev (by decide) (by decide) rfl (by decide) ?_
    obtain ⟨r, q, h_hF, h_hk, h_hM, h_ht, h_ho, hR2⟩ := s45 nj ν μ hj hR (xs (i + 1).toNatClampNeg) (xs (i + 2).toNatClampNeg)
    exact cs_45 C hG hNc hX hal hw hS hcs (xs (i + 1).toNatClampNeg) (xs (i + 2).toNatClampNeg) ⟨r1, rfl⟩ ⟨r2, rfl⟩ r q (hF := h_hF) (hk := h_hk) (hM := h_hM) (ht := h_ht) (ho := h_ho oc) (kk := fun H1 locs1 hw1 hS1 => kk _ _ _ _ _ hR2 hw1 hS1)
  | 46, _, ev =>
    refine x_tabIn 46 2944 C dL_law_40 ev (by decide) (by decide) rfl (by decide) ?_
    obtain ⟨r, q, h_hF, h_hk, h_hM, h_ht, h_ho, hR2⟩ := s46 nj ν μ hj hR (xs (i + 1).toNatClampNeg) (xs (i + 2).toNatClampNeg)
    exact cs_46 C hG hNc hX hal hw hS hcs (xs (i + 1).toNatClampNeg) (xs (i + 2).toNatClampNeg) ⟨r1, rfl⟩ ⟨r2, rfl⟩ r q (hF := h_hF) (hk := h_hk) (hM := h_hM) (ht := h_ht) (ho := h_ho oc) (kk := fun H1 locs1 hw1 hS1 => kk _ _ _ _ _ hR2 hw1 hS1)
  | 47, _, ev =>
    refine x_tabIn 47 3012 C dL_law_40 ev (by decide) (by decide) rfl (by decide) ?_
    obtain ⟨r, q, h_hF, h_hk, h_hM, h_ht, h_ho, hR2⟩ := s47 nj ν μ hj hR (xs (i + 1).toNatClampNeg)
    exact cs_47 C hG hNc hX hal hw hS hcs (xs (i + 1).toNatClampNeg) ⟨r1, rfl⟩ r q (hF := h_hF) (hk := h_hk) (hM := h_hM) (ht := h_ht) (ho := h_ho oc) (kk := fun H1 locs1 hw1 hS1 => kk _ _ _ _ _ hR2 hw1 hS1)
  | 48, _, ev =>
    refine x_tabIn 48 3068 C dL_law_40 ev (by decide) (by decide) rfl (by decide) ?_
    obtain ⟨r, q, h_hF, h_hk, h_hM, h_ht, h_ho, hR2⟩ := s48 nj ν μ hj hR (xs (i + 1).toNatClampNeg)
    exact cs_48 C hG hNc hX hal hw hS hcs (xs (i + 1).toNatClampNeg) ⟨r1, rfl⟩ r q (hF := h_hF) (hk := h_hk) (hM := h_hM) (ht := h_ht) (ho := h_ho oc) (kk := fun H1 locs1 hw1 hS1 => kk _ _ _ _ _ hR2 hw1 hS1)
  | 49, _, ev =>
    refine x_tabIn 49 3124 C dL_law_40 ev (by decide) (by decide) rfl (by decide) ?_
    obtain ⟨r, q, h_hF, h_hk, h_hM, h_ht, h_ho, hR2⟩ := s49 nj ν μ hj hR (xs (i + 1).toNatClampNeg) (xs (i + 2).toNatClampNeg)
    exact cs_49 C hG hNc hX hal hw hS hcs (xs (i + 1).toNatClampNeg) (xs (i + 2).toNatClampNeg) ⟨r1, rfl⟩ ⟨r2, rfl⟩ r q (hF := h_hF) (hk := h_hk) (hM := h_hM) (ht := h_ht) (ho := h_ho oc) (kk := fun H1 locs1 hw1 hS1 => kk _ _ _ _ _ hR2 hw1 hS1)
  | 50, _, ev =>
    refine x_tabIn 50 3192 C dL_law_40 ev (by decide) (by decide) rfl (by decide) ?_
    obtain ⟨r, q, h_hF, h_hk, h_hM, h_ht, h_ho, hR2⟩ := s50 nj ν μ hj hR (xs (i + 1).toNatClampNeg) (xs (i + 2).toNatClampNeg)
    exact cs_50 C hG hNc hX hal hw hS hcs (xs (i + 1).toNatClampNeg) (xs (i + 2).toNatClampNeg) ⟨r1, rfl⟩ ⟨r2, rfl⟩ r q (hF := h_hF) (hk := h_hk) (hM := h_hM) (ht := h_ht) (ho := h_ho oc) (kk := fun H1 locs1 hw1 hS1 => kk _ _ _ _ _ hR2 hw1 hS1)
  | 51, _, ev =>
    refine x_tabIn 51 3260 C dL_law_40 ev (by decide) (by decide) rfl (by decide) ?_
    by_cases hb : xs (i + 3).toNatClampNeg = 0
    · skip
      obtain ⟨r, q, h_hF, h_hk, h_hM, h_ht, h_ho, hR2⟩ := s51f nj ν μ hj hR (xs (i + 1).toNatClampNeg) (xs (i + 2).toNatClampNeg)
      exact cs_51f C hG hNc hX hal hw hS hcs (xs (i + 1).toNatClampNeg) (xs (i + 2).toNatClampNeg) (xs (i + 3).toNatClampNeg) ⟨r1, rfl⟩ ⟨r2, rfl⟩ ⟨r3, rfl⟩ hb r q (hF := h_hF) (hk := h_hk) (hM := h_hM) (ht := h_ht) (ho := h_ho oc) (kk := fun H1 locs1 hw1 hS1 => kk _ _ _ _ _ hR2 hw1 hS1)
    · skip
      obtain ⟨r, q, h_hF, h_hk, h_hM, h_ht, h_ho, hR2⟩ := s51t nj ν μ hj hR (xs (i + 1).toNatClampNeg) (xs (i + 2).toNatClampNeg)
      exact cs_51t C hG hNc hX hal hw hS hcs (xs (i + 1).toNatClampNeg) (xs (i + 2).toNatClampNeg) (xs (i + 3).toNatClampNeg) ⟨r1, rfl⟩ ⟨r2, rfl⟩ ⟨r3, rfl⟩ hb r q (hF := h_hF) (hk := h_hk) (hM := h_hM) (ht := h_ht) (ho := h_ho oc) (kk := fun H1 locs1 hw1 hS1 => kk _ _ _ _ _ hR2 hw1 hS1)
  | 52, _, ev =>
    refine x_tabIn 52 3356 C dL_law_40 ev (by decide) (by decide) rfl (by decide) ?_
    obtain ⟨r, q, h_hF, h_hk, h_hM, h_ht, h_ho, hR2⟩ := s52 nj ν μ hj hR (xs (i + 1).toNatClampNeg) (xs (i + 2).toNatClampNeg)
    exact cs_52 C hG hNc hX hal hw hS hcs (xs (i + 1).toNatClampNeg) (xs (i + 2).toNatClampNeg) ⟨r1, rfl⟩ ⟨r2, rfl⟩ r q (hF := h_hF) (hk := h_hk) (hM := h_hM) (ht := h_ht) (ho := h_ho oc) (kk := fun H1 locs1 hw1 hS1 => kk _ _ _ _ _ hR2 hw1 hS1)
  | 53, _, ev =>
    refine x_tabIn 53 3423 C dL_law_40 ev (by decide) (by decide) rfl (by decide) ?_
    obtain ⟨r, q, h_hF, h_hk, h_hM, h_ht, h_ho, hR2⟩ := s53 nj ν μ hj hR (xs (i + 1).toNatClampNeg)
    exact cs_53 C hG hNc hX hal hw hS hcs (xs (i + 1).toNatClampNeg) ⟨r1, rfl⟩ r q (hF := h_hF) (hk := h_hk) (hM := h_hM) (ht := h_ht) (ho := h_ho oc) (kk := fun H1 locs1 hw1 hS1 => kk _ _ _ _ _ hR2 hw1 hS1)
  | 54, _, ev =>
    refine x_tabIn 54 3479 C dL_law_40 ev (by decide) (by decide) rfl (by decide) ?_
    obtain ⟨r, q, h_hF, h_hk, h_hM, h_ht, h_ho, hR2⟩ := s54 nj ν μ hj hR (xs (i + 1).toNatClampNeg) (xs (i + 2).toNatClampNeg)
    exact cs_54 C hG hNc hX hal hw hS hcs (xs (i + 1).toNatClampNeg) (xs (i + 2).toNatClampNeg) ⟨r1, rfl⟩ ⟨r2, rfl⟩ r q (hF := h_hF) (hk := h_hk) (hM := h_hM) (ht := h_ht) (ho := h_ho oc) (kk := fun H1 locs1 hw1 hS1 => kk _ _ _ _ _ hR2 hw1 hS1)
  | 55, _, ev =>
    refine x_tabIn 55 3547 C dL_law_40 ev (by decide) (by decide) rfl (by decide) ?_
    obtain ⟨r, q, h_hF, h_hk, h_hM, h_ht, h_ho, hR2⟩ := s55 nj ν μ hj hR (xs (i + 1).toNatClampNeg) (xs (i + 2).toNatClampNeg)
    exact cs_55 C hG hNc hX hal hw hS hcs (xs (i + 1).toNatClampNeg) (xs (i + 2).toNatClampNeg) ⟨r1, rfl⟩ ⟨r2, rfl⟩ r q (hF := h_hF) (hk := h_hk) (hM := h_hM) (ht := h_ht) (ho := h_ho oc) (kk := fun H1 locs1 hw1 hS1 => kk _ _ _ _ _ hR2 hw1 hS1)
  | 56, _, ev =>
    refine x_tabIn 56 3615 C dL_law_40 ev (by decide) (by decide) rfl (by decide) ?_
    obtain ⟨r, q, h_hF, h_hk, h_hM, h_ht, h_ho, hR2⟩ := s56 nj ν μ hj hR (xs (i + 1).toNatClampNeg) (xs (i + 2).toNatClampNeg)
    exact cs_56 C hG hNc hX hal hw hS hcs (xs (i + 1).toNatClampNeg) (xs (i + 2).toNatClampNeg) ⟨r1, rfl⟩ ⟨r2, rfl⟩ r q (hF := h_hF) (hk := h_hk) (hM := h_hM) (ht := h_ht) (ho := h_ho oc) (kk := fun H1 locs1 hw1 hS1 => kk _ _ _ _ _ hR2 hw1 hS1)
  | 57, _, ev =>
    refine x_tabIn 57 3683 C dL_law_40 ev (by decide) (by decide) rfl (by decide) ?_
    obtain ⟨r, q, h_hF, h_hk, h_hM, h_ht, h_ho, hR2⟩ := s57 nj ν μ hj hR
    exact cs_57 C hG hNc hX hal hw hS hcs  r q (hF := h_hF) (hk := h_hk) (hM := h_hM) (ht := h_ht) (ho := h_ho oc) (kk := fun H1 locs1 hw1 hS1 => kk _ _ _ _ _ hR2 hw1 hS1)
  | 58, _, ev =>
    refine x_tabIn 58 3727 C dL_law_40 ev (by decide) (by decide) rfl (by decide) ?_
    obtain ⟨r, q, h_hF, h_hM, h_hx, hR2⟩ := s58 nj ν μ hj hR
    exact cs_58 C hG hNc hX hal hw hS hcs  r q (hF := h_hF) (hM := h_hM) (hx := h_hx) (kk := fun H1 locs1 hw1 hS1 => kk _ _ _ _ _ hR2 hw1 hS1)
  | 59, _, ev =>
    refine x_tabIn 59 3740 C dL_law_40 ev (by decide) (by decide) rfl (by decide) ?_
    obtain ⟨r, q, h_hF, h_hk, h_hM, h_ht, h_ho, hR2⟩ := s59 nj ν μ hj hR (xs (i + 1).toNatClampNeg)
    exact cs_59 C hG hNc hX hal hw hS hcs (xs (i + 1).toNatClampNeg) ⟨r1, rfl⟩ r q (hF := h_hF) (hk := h_hk) (hM := h_hM) (ht := h_ht) (ho := h_ho oc) (kk := fun H1 locs1 hw1 hS1 => kk _ _ _ _ _ hR2 hw1 hS1)
  | 60, _, ev =>
    refine x_tabIn 60 3796 C dL_law_40 ev (by decide) (by decide) rfl (by decide) ?_
    obtain ⟨r, q, h_hF, h_hk, h_hM, h_ht, h_ho, hR2⟩ := s60 nj ν μ hj hR (xs (i + 1).toNatClampNeg)
    exact cs_60 C hG hNc hX hal hw hS hcs (xs (i + 1).toNatClampNeg) ⟨r1, rfl⟩ r q (hF := h_hF) (hk := h_hk) (hM := h_hM) (ht := h_ht) (ho := h_ho oc) (kk := fun H1 locs1 hw1 hS1 => kk _ _ _ _ _ hR2 hw1 hS1)
  | 61, _, ev =>
    refine x_tabIn 61 3852 C dL_law_40 ev (by decide) (by decide) rfl (by decide) ?_
    obtain ⟨r, q, h_hF, h_hk, h_hM, h_ht, h_ho, hR2⟩ := s61 nj ν μ hj hR (xs (i + 1).toNatClampNeg)
    exact cs_61 C hG hNc hX hal hw hS hcs (xs (i + 1).toNatClampNeg) ⟨r1, rfl⟩ r q (hF := h_hF) (hk := h_hk) (hM := h_hM) (ht := h_ht) (ho := h_ho oc) (kk := fun H1 locs1 hw1 hS1 => kk _ _ _ _ _ hR2 hw1 hS1)
  | 62, _, ev =>
    refine x_tabIn 62 3908 C dL_law_40 ev (by decide) (by decide) rfl (by decide) ?_
    obtain ⟨r, q, h_hF, h_hk, h_hM, h_ht, h_ho, hR2⟩ := s62 nj ν μ hj hR (xs (i + 1).toNatClampNeg) (xs (i + 2).toNatClampNeg) (xs (i + 3).toNatClampNeg) (xs (i + 4).toNatClampNeg) (xs (i + 5).toNatClampNeg)
    exact cs_62 C hG hNc hX hal hw hS hcs (xs (i + 1).toNatClampNeg) (xs (i + 2).toNatClampNeg) (xs (i + 3).toNatClampNeg) (xs (i + 4).toNatClampNeg) (xs (i + 5).toNatClampNeg) ⟨r1, rfl⟩ ⟨r2, rfl⟩ ⟨r3, rfl⟩ ⟨r4, rfl⟩ ⟨r5, rfl⟩ r q (hF := h_hF) (hk := h_hk) (hM := h_hM) (ht := h_ht) (ho := h_ho oc) (kk := fun H1 locs1 hw1 hS1 => kk _ _ _ _ _ hR2 hw1 hS1)
  | 63, _, ev =>
    refine x_tabIn 63 4012 C dL_law_40 ev (by decide) (by decide) rfl (by decide) ?_
    obtain ⟨r, q, h_hF, h_hk, h_hM, h_ht, h_ho, hR2⟩ := s63 nj ν μ hj hR (xs (i + 1).toNatClampNeg)
    exact cs_63 C hG hNc hX hal hw hS hcs (xs (i + 1).toNatClampNeg) ⟨r1, rfl⟩ r q (hF := h_hF) (hk := h_hk) (hM := h_hM) (ht := h_ht) (ho := h_ho oc) (kk := fun H1 locs1 hw1 hS1 => kk _ _ _ _ _ hR2 hw1 hS1)
  | v + 64, g, _ => exact absurd g (by omega)
set_option maxRecDepth 20000 in
set_option maxHeartbeats 4000000 in
theorem law_loop {p : Program} {l : Launch} {e : Env} {s : State} {m : MethodId} {below : List Frame} {meth : Method} {c : Code} {D : va_G} {cA : Nat → ClassId} {a b L : Nat} {xs : Nat → Int32} {Rl : Nat → Mm → Mm → Prop} (hs : SmAll Rl) (hL3 : L ≤ 3072)
    (C : xC D cA s RL cL_law 8 (some .boolean) p s m #[Value.ref a] meth c) (hG : xG l D cA s) (hNc : xNc s) (hX : va_X a L xs s s.heap) (hal : a < s.heap.size) :
    ∀ (n j : Nat), L + 6 ≤ 6 * (j + n) → 6 * j ≤ L + 5 → ∀ (ν μ : Mm) (oc : Nat → Int64) (H : Heap) (locs : List Loc), Rl j ν μ → LW D cA s b ν μ oc H → va_S (xOut s) s.heap H locs → xW p l e room_1 s m #[Value.ref a] below meth c 8 (lw_Z below #[Value.ref a] s) H locs (2637 + 200 * j) (33428 + 2000 * j) 23 [(4, .int (nI (6 * j))), (3, .ref (b + 2636)), (2, .ref (b + 2628)), (1, .ref b), (0, .ref a)] [] := by
  intro n
  induction n with
  | zero =>
    intro j h1 h2
    exact absurd h1 (by omega)
  | succ n ih =>
    intro j h1 h2 ν μ oc H locs hR hw hS
    refine x_iload C dL_law_23 rfl ?_
    refine x_aload_n C dL_law_25 rfl ?_
    refine x_slen C hX hal hS dL_law_26 ?_
    refine x_bipush (6 : Int32) C dL_law_27 rfl ?_
    refine x_isub C dL_law_29 ?_
    refine x_icmp_gt 4074 C dL_law_30 (by decide) (fun hgt => ?_) (fun hle => ?_)
    · refine x_iconst (1 : Int32) C dL_law_4074 rfl ?_
      intro ls hl
      refine va_forget (fun q hq => hS.2.2 q hq) ?_
      refine W.widen (k := 601024) (n := 7293034) (by omega) (by omega) ?_
      exact lw_ret C.1 C.2.1 C.2.2.1 C.2.2.2.2.2.2.1 dL_law_4075
    · have hlt : 6 * j + 6 ≤ L := by
        rcases Nat.lt_or_ge L (6 * j + 6) with g | g
        · refine absurd ?_ hle
          rw [Int32.lt_iff_toInt_lt, Int32.toInt_sub, nI_toInt (by omega), nI_toInt (by omega), show ((6 : Int32)).toInt = 6 from rfl]
          unfold Int.bmod
          dsimp only
          split <;> omega
        · exact g
      refine x_aload_n C dL_law_33 rfl ?_
      refine x_iload C dL_law_34 rfl ?_
      refine x_sld C hX hal hS ⟨vp_in_nI (by omega) (by omega), rfl⟩ dL_law_36 ?_
      refine x_bipush (63 : Int32) C dL_law_37 rfl ?_
      refine x_iand C dL_law_39 ?_
      refine law_sw hs C hG hNc hX hal hw hS ⟨by omega, by omega⟩ (by omega) hR (by rw [show (1 : Int32) = nI 1 from rfl, nI_add]; exact vp_in_nI (by omega) (by omega)) (by rw [show (2 : Int32) = nI 2 from rfl, nI_add]; exact vp_in_nI (by omega) (by omega)) (by rw [show (3 : Int32) = nI 3 from rfl, nI_add]; exact vp_in_nI (by omega) (by omega)) (by rw [show (4 : Int32) = nI 4 from rfl, nI_add]; exact vp_in_nI (by omega) (by omega)) (by rw [show (5 : Int32) = nI 5 from rfl, nI_add]; exact vp_in_nI (by omega) (by omega)) (fun ν2 μ2 oc2 H1 locs1 hR2 hw2 hS2 => ?_)
      refine x_iinc (nI (6 * (j + 1))) [(4, .int (nI (6 * (j + 1)))), (3, .ref (b + 2636)), (2, .ref (b + 2628)), (1, .ref b), (0, .ref a)] C dL_law_4068 rfl (by rw [show Int32.ofInt 6 = nI 6 from rfl, nI_add]; rfl) (by decide) rfl ?_
      refine x_goto 23 C dL_law_4071 (by decide) ?_
      exact ih (j + 1) (by omega) (by omega) ν2 μ2 oc2 H1 locs1 hR2 hw2 hS2
set_option maxRecDepth 20000 in
set_option maxHeartbeats 4000000 in
theorem law_all {p : Program} {l : Launch} {e : Env} {s : State} {m : MethodId} {below : List Frame} {meth : Method} {c : Code} {D : va_G} {cA : Nat → ClassId} {a L : Nat} {xs : Nat → Int32} {Rl : Nat → Mm → Mm → Prop} (hs : SmAll Rl) (hL3 : L ≤ 3072)
    (C : xC D cA s RL cL_law 8 (some .boolean) p s m #[Value.ref a] meth c) (hG : xG l D cA s) (hNc : xNc s) (hAO : xAOs s) (hX : va_X a L xs s s.heap) (hal : a < s.heap.size) :
    xW p l e room_1 s m #[Value.ref a] below meth c 8 (lw_Z below #[Value.ref a] s) s.heap [] 0 0 0 [(0, .ref a)] [] := by
  have hS : va_S (xOut s) s.heap s.heap [] := va_S.rf
  obtain ⟨b, hb⟩ : ∃ b, b = s.heap.size := ⟨_, rfl⟩
  refine x_new C cf_X11 kl_L_8 in_11 ii_11 df_11 (nb rfl) (nb rfl) dL_law_0 (fun H1 h1 hz ho => ?_)
  rw [← hb] at h1 ⊢
  have hz' : H1.size = b + 1 := by rw [hz, hb]
  refine x_dup C dL_law_3 rfl ?_
  refine x_goM (fun ls h => x_runI (As := []) [.ref b] h C mi_L_199 (k_X11_init l D cA s b 0 hAO) ⟨rfl, rfl, nb rfl, nb rfl⟩ rfl (Lay.one h1 hz') (nb rfl) ⟨nb rfl, nb rfl⟩ dL_law_4) (hS.grow hz ho) (fun q hq => by rw [hb] at hq; exact hq) (fun H2 locs2 hw2 hz2 hk2 hS2 => ?_)
  have e2 := hw2.1
  refine x_astore_n [(1, .ref b), (0, .ref a)] C dL_law_7 rfl (by decide) rfl ?_
  refine x_new C cf_X12 kl_L_200 in_12 ii_12 df_12 (nb rfl) (nb rfl) dL_law_8 (fun H3 h3 hz3 ho3 => ?_)
  rw [e2] at h3 ⊢
  have hz3' : H3.size = b + 2628 + 1 := by rw [hz3, e2]
  refine x_dup C dL_law_11 rfl ?_
  refine x_goM (fun ls h => x_runI (As := []) [.ref (b + 2628)] h C mi_L_202 (k_X12_init l D cA s (b + 2628)) ⟨rfl, rfl, nb rfl, nb rfl⟩ rfl (Lay.one h3 hz3') (nb rfl) ⟨nb rfl, nb rfl⟩ dL_law_12) (hS2.grow hz3 ho3) (fun q hq => by unfold xA0 at hq; unfold xOut; omega) (fun H4 locs4 hw4 hz4 hk4 hS4 => ?_)
  have e4 := hw4.1
  refine x_astore_n [(2, .ref (b + 2628)), (1, .ref b), (0, .ref a)] C dL_law_15 rfl (by decide) rfl ?_
  refine x_iconst (1 : Int32) C dL_law_16 rfl ?_
  refine x_newaL (N := 1) C ar_long rfl (by decide) (nb rfl) (nb rfl) dL_law_17 (fun H5 h5 hz5 ho5 => ?_)
  rw [e4] at h5 ⊢
  refine x_astore_n [(3, .ref (b + 2628 + 8)), (2, .ref (b + 2628)), (1, .ref b), (0, .ref a)] C dL_law_19 rfl (by decide) rfl ?_
  refine x_iconst (0 : Int32) C dL_law_20 rfl ?_
  refine x_istore [(4, .int 0), (3, .ref (b + 2628 + 8)), (2, .ref (b + 2628)), (1, .ref b), (0, .ref a)] C dL_law_21 (by decide) rfl ?_
  have hS5 := hS4.grow hz5 ho5
  have hx : extS s H5 := ⟨hS5.1, fun q hq => hS5.2.1 q hq (fun z => absurd hq (Nat.not_lt.mpr z))⟩
  have hk35 : ∀ q : Nat, q < b + 2628 → H5[q]? = H2[q]? := fun q hq => ((ho5 q (by omega)).trans (hk4 q (by omega) (by unfold xA0; omega))).trans (ho3 q (by omega))
  refine x_widen (k := 2637 + 200 * 0) (n := 33428 + 2000 * 0) (by omega) (by omega) ?_
  refine law_loop hs hL3 C hG hNc hX hal 513 0 (by omega) (by omega) nu0 mu0 (fun _ => 0) H5 _ hs.2.1 ⟨CE_WC hb.symm hw2 hx (by omega) hk35, ME_RX (by omega) hw4 hx (by omega) (by omega) (fun q hq => ho5 q (by omega)), h5⟩ hS5
theorem start_of {p : Program} {e : Env} {s : State} {m : MethodId} {below : List Frame} {meth : Method} {c : Code} {Rl : Nat → Mm → Mm → Prop} (hs : SmAll Rl) (l : Launch) (hflags : l.flags = flags0) {b L : Nat} {xs : Nat → Int32} (hL : L ≤ 3072) (C0 : lw_At p s m meth c b L xs) : W p l e room_1 s m #[Value.ref b] below meth c s.heap [] 0 0 (lw_Z below #[Value.ref b] s) (entryFrame m ([Value.ref b] : List Value).toArray 8) := by
  obtain ⟨hx, hb, hr, hml, hown, hts, hX, hbl, hlocks, hgv⟩ := C0
  have hq : ∀ w ∈ nF, w.before #[Value.ref b] s = true := flat_of_before _ hgv
  obtain ⟨D, cA, hK⟩ := st_K hts
  have C : xC D cA s RL cL_law 8 (some .boolean) p s m #[Value.ref b] meth c := ⟨hx, hb, hr, hml, hown, fun w hw => hts w (List.mem_filter.mp hw).1, hlocks, hK⟩
  have hl : l.stackTraces = false := by
    first
      | exact hflags.symm ▸ rfl
      | (unfold Launch.stackTraces; rw [hflags]; rfl)
  rw [lg_entry_eq]
  exact law_all hs hL C (st_G hts hq hl D cA) (st_Nc hq) (st_AO hts) hX hbl _ (lv_entry [Value.ref b] (nb rfl))
