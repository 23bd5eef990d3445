/-! PURE. Sums over ranks. -/
def sumN (f : Nat → Int32) : Nat → Int32
  | 0 => 0
  | n + 1 => sumN f n + f n
def cntN (P : Nat → Bool) : Nat → Nat
  | 0 => 0
  | n + 1 => cntN P n + (if P n then 1 else 0)
theorem sumN_c {f g : Nat → Int32} : ∀ n, (∀ k, k < n → f k = g k) → sumN f n = sumN g n := by
  intro n
  induction n with
  | zero => intro _; rfl
  | succ n ih =>
    intro h
    show sumN f n + f n = sumN g n + g n
    rw [ih (fun k hk => h k (by omega)), h n (by omega)]
theorem cntN_c {P Q : Nat → Bool} : ∀ n, (∀ k, k < n → P k = Q k) → cntN P n = cntN Q n := by
  intro n
  induction n with
  | zero => intro _; rfl
  | succ n ih =>
    intro h
    show cntN P n + (if P n then 1 else 0) = cntN Q n + (if Q n then 1 else 0)
    rw [ih (fun k hk => h k (by omega)), h n (by omega)]
theorem cntN_le (P : Nat → Bool) : ∀ n, cntN P n ≤ n := by
  intro n
  induction n with
  | zero => exact Nat.le_refl 0
  | succ n ih =>
    show cntN P n + (if P n then 1 else 0) ≤ n + 1
    split <;> omega
theorem sumN_add (f g : Nat → Int32) : ∀ n, sumN (fun k => f k + g k) n = sumN f n + sumN g n := by
  intro n
  induction n with
  | zero => rfl
  | succ n ih =>
    show sumN (fun k => f k + g k) n + (f n + g n) = (sumN f n + f n) + (sumN g n + g n)
    rw [ih]
    ac_rfl
/-- one element more -/
theorem sumN_one {f g : Nat → Int32} {m : Nat} {x : Int32} (hg : g m = 0) (hf : f m = x) : ∀ n, m < n → (∀ k, k < n → k ≠ m → f k = g k) → sumN f n = sumN g n + x := by
  intro n
  induction n with
  | zero => intro h; exact absurd h (by omega)
  | succ n ih =>
    intro hm h
    show sumN f n + f n = sumN g n + g n + x
    by_cases e : m = n
    · subst e
      rw [hg, hf, sumN_c m (fun k hk => h k (by omega) (by omega)), Int32.add_zero]
    · rw [ih (by omega) (fun k hk => h k (by omega)), h n (by omega) (fun z => e z.symm)]
      ac_rfl
theorem cntN_one {P Q : Nat → Bool} {m : Nat} (hQ : Q m = false) (hP : P m = true) : ∀ n, m < n → (∀ k, k < n → k ≠ m → P k = Q k) → cntN P n = cntN Q n + 1 := by
  intro n
  induction n with
  | zero => intro h; exact absurd h (by omega)
  | succ n ih =>
    intro hm h
    show cntN P n + (if P n then 1 else 0) = cntN Q n + (if Q n then 1 else 0) + 1
    by_cases e : m = n
    · subst e
      rw [hQ, hP, cntN_c m (fun k hk => h k (by omega) (by omega))]
      rfl
    · rw [ih (by omega) (fun k hk => h k (by omega)), h n (by omega) (fun z => e z.symm)]
      omega
theorem cntN_z {P : Nat → Bool} : ∀ n, cntN P n = 0 → ∀ k, k < n → P k = false := by
  intro n
  induction n with
  | zero => intro _ k hk; exact absurd hk (by omega)
  | succ n ih =>
    intro h k hk
    have h2 : cntN P n + (if P n then 1 else 0) = 0 := h
    by_cases e : k = n
    · rw [e]
      cases hp : P n with
      | false => rfl
      | true =>
        rw [hp, if_pos rfl] at h2
        exact absurd h2 (by omega)
    · exact ih (by omega) k (by omega)
/-- k lies before c -/
def bef (key : Nat → Int) (c k : Nat) : Bool := decide (key k < key c ∨ (key k = key c ∧ k < c))
theorem bef_irr (key : Nat → Int) (c : Nat) : bef key c c = false := decide_eq_false (by omega)
theorem ex_max (key : Nat → Int) {Q : Nat → Bool} : ∀ n, (∃ k, k < n ∧ Q k = true) → ∃ m, m < n ∧ Q m = true ∧ ∀ k, k < n → Q k = true → k ≠ m → bef key m k = true := by
  intro n
  induction n with
  | zero =>
    intro ⟨k, hk, _⟩
    exact absurd hk (by omega)
  | succ n ih =>
    intro ⟨k, hk, hq⟩
    by_cases h : ∃ k, k < n ∧ Q k = true
    · obtain ⟨m, m1, m2, m3⟩ := ih h
      cases hn : Q n with
      | false =>
        refine ⟨m, by omega, m2, fun j hj hq2 hne => ?_⟩
        by_cases e : j = n
        · rw [e, hn] at hq2
          cases hq2
        · exact m3 j (by omega) hq2 hne
      | true =>
        by_cases g : bef key m n = true
        · refine ⟨m, by omega, m2, fun j hj hq2 hne => ?_⟩
          by_cases e : j = n
          · rw [e]; exact g
          · exact m3 j (by omega) hq2 hne
        · have g1 : ¬ (key n < key m ∨ (key n = key m ∧ n < m)) := fun z => g (decide_eq_true z)
          refine ⟨n, by omega, hn, fun j hj hq2 hne => decide_eq_true ?_⟩
          by_cases e : j = m
          · rw [e]
            omega
          · have b := of_decide_eq_true (m3 j (by omega) hq2 e)
            omega
    · have hk2 : k = n := by
        by_cases e : k = n
        · exact e
        · exact absurd ⟨k, by omega, hq⟩ h
      refine ⟨n, by omega, by rw [← hk2]; exact hq, fun j hj hq2 hne => absurd ⟨j, by omega, hq2⟩ h⟩
def tri (g : Nat → Int32) : Nat → Int32
  | 0 => 0
  | n + 1 => tri g n + g n
/-- the ranks of a set are 0 .. its number, each once -/
theorem sum_rank (key : Nat → Int) (g : Nat → Int32) (N : Nat) : ∀ (n : Nat) (Q : Nat → Bool), cntN Q N = n → sumN (fun k => if Q k then g (cntN (fun j => Q j && bef key k j) N) else 0) N = tri g n := by
  intro n
  induction n with
  | zero =>
    intro Q h
    have z := cntN_z N h
    rw [sumN_c (g := fun _ => 0) N (fun k hk => by rw [z k hk]; rfl)]
    have : ∀ m, sumN (fun _ => 0) m = 0 := by
      intro m
      induction m with
      | zero => rfl
      | succ m im =>
        show sumN (fun _ => 0) m + 0 = 0
        rw [im]
        rfl
    exact this N
  | succ n ih =>
    intro Q h
    have hex : ∃ k, k < N ∧ Q k = true := by
      by_cases e : ∃ k, k < N ∧ Q k = true
      · exact e
      · have : cntN Q N = cntN (fun _ => false) N := cntN_c N (fun k hk => by
          cases hq : Q k with
          | false => rfl
          | true => exact absurd ⟨k, hk, hq⟩ e)
        have z : ∀ m, cntN (fun _ => false) m = 0 := by
          intro m
          induction m with
          | zero => rfl
          | succ m im =>
            show cntN (fun _ => false) m + (if false = true then 1 else 0) = 0
            rw [im]
            rfl
        rw [z] at this
        exact absurd (h.symm.trans this) (by omega)
    obtain ⟨m, m1, m2, m3⟩ := ex_max key N hex
    have hQ' : ∀ k, k ≠ m → Q k = (Q k && !decide (k = m)) := fun k hk => by rw [decide_eq_false hk]; cases Q k <;> rfl
    have cQ : cntN Q N = cntN (fun k => Q k && !decide (k = m)) N + 1 := cntN_one (m := m) (by rw [decide_eq_true rfl]; cases Q m <;> rfl) m2 N m1 (fun k hk hn => hQ' k hn)
    have i0 := ih (fun k => Q k && !decide (k = m)) (by omega)
    have rm : cntN (fun j => Q j && bef key m j) N = n := by
      rw [cntN_c (Q := fun k => Q k && !decide (k = m)) N (fun k hk => ?_)]
      · omega
      · by_cases e : k = m
        · subst e
          rw [bef_irr, decide_eq_true rfl]
          rfl
        · rw [decide_eq_false e]
          cases hq : Q k with
          | false => rfl
          | true =>
            rw [m3 k hk hq e]
            rfl
    have rk : ∀ k, k < N → Q k = true → k ≠ m → cntN (fun j => Q j && bef key k j) N = cntN (fun j => (Q j && !decide (j = m)) && bef key k j) N := fun k hk hq hne => cntN_c N (fun j hj => by
      by_cases e : j = m
      · subst e
        have b : bef key k j = false := by
          have b1 := of_decide_eq_true (m3 k hk hq hne)
          exact decide_eq_false (by omega)
        rw [b, Bool.and_false, Bool.and_false]
      · rw [decide_eq_false e]
        cases Q j <;> rfl)
    rw [sumN_one (g := fun k => if (Q k && !decide (k = m)) then g (cntN (fun j => (Q j && !decide (j = m)) && bef key k j) N) else 0) (m := m) (x := g n) (by rw [decide_eq_true rfl]; cases Q m <;> rfl) (by rw [if_pos m2, rm]) N m1 (fun k hk hne => ?_), i0]
    · rfl
    · rw [← hQ' k hne]
      cases hq : Q k with
      | false => rfl
      | true => rw [if_pos rfl, if_pos rfl, rk k hk hq hne]
def rkY (key : Nat → Int) (P : Nat → Bool) (N c : Nat) : Nat := cntN (fun k => (P k && decide (key k / 360 = key c / 360)) && bef key c k) N
theorem sum_year (key : Nat → Int) (g : Nat → Int32) (P : Nat → Bool) (N : Nat) (y : Int) : sumN (fun k => if P k then g (rkY key P N k) else 0) N = tri g (cntN (fun k => P k && decide (key k / 360 = y)) N) + sumN (fun k => if (P k && !decide (key k / 360 = y)) then g (rkY key P N k) else 0) N := by
  rw [← sum_rank key g N _ (fun k => P k && decide (key k / 360 = y)) rfl, ← sumN_add]
  refine sumN_c N (fun k hk => ?_)
  cases hp : P k with
  | false => rfl
  | true =>
    by_cases e : key k / 360 = y
    · rw [decide_eq_true e]
      show g (rkY key P N k) = g (cntN (fun j => (P j && decide (key j / 360 = y)) && bef key k j) N) + 0
      unfold rkY
      rw [e, Int32.add_zero]
    · rw [decide_eq_false e]
      show g (rkY key P N k) = 0 + g (rkY key P N k)
      rw [Int32.zero_add]
/-- a call more is a rank more of its year -/
theorem add_rank (key : Nat → Int) (g : Nat → Int32) {P P' : Nat → Bool} {N m : Nat} (hm : m < N) (h0 : P' m = false) (h1 : P m = true) (hP : ∀ k, k < N → k ≠ m → P k = P' k) : sumN (fun k => if P k then g (rkY key P N k) else 0) N = sumN (fun k => if P' k then g (rkY key P' N k) else 0) N + g (cntN (fun k => P' k && decide (key k / 360 = key m / 360)) N) := by
  rw [sum_year key g P N (key m / 360), sum_year key g P' N (key m / 360)]
  have c : cntN (fun k => P k && decide (key k / 360 = key m / 360)) N = cntN (fun k => P' k && decide (key k / 360 = key m / 360)) N + 1 := cntN_one (m := m) (by rw [h0]; rfl) (by rw [h1, decide_eq_true rfl]; rfl) N hm (fun k hk hne => by rw [hP k hk hne])
  rw [c]
  have s : sumN (fun k => if (P k && !decide (key k / 360 = key m / 360)) then g (rkY key P N k) else 0) N = sumN (fun k => if (P' k && !decide (key k / 360 = key m / 360)) then g (rkY key P' N k) else 0) N := by
    refine sumN_c N (fun k hk => ?_)
    by_cases e : k = m
    · subst e
      rw [decide_eq_true rfl]
      cases P k <;> cases P' k <;> rfl
    · rw [hP k hk e]
      by_cases ey : key k / 360 = key m / 360
      · rw [decide_eq_true ey]
        cases P' k <;> rfl
      · have r : rkY key P N k = rkY key P' N k := cntN_c N (fun j hj => by
          by_cases ej : j = m
          · subst ej
            rw [decide_eq_false (fun z => ey z.symm)]
            cases P j <;> cases P' j <;> rfl
          · rw [hP j hj ej])
        rw [r]
  rw [s]
  show tri g _ + g _ + _ = _
  ac_rfl
