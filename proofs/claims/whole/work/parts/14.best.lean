/-! the least of a function over the numbers below n that are allowed, and the first that has it -/
def bestv (f : Nat → Nat) (ok : Nat → Bool) : Nat → Nat
  | 0 => 1000000000
  | n + 1 => if ok n = true ∧ f n < bestv f ok n then f n else bestv f ok n
def besti (f : Nat → Nat) (ok : Nat → Bool) : Nat → Nat
  | 0 => 0
  | n + 1 => if ok n = true ∧ f n < bestv f ok n then n else besti f ok n
theorem bestv_le {f : Nat → Nat} {ok : Nat → Bool} : ∀ {n i : Nat}, i < n → ok i = true → bestv f ok n ≤ f i
  | 0, i, h, _ => absurd h (Nat.not_lt_zero _)
  | n + 1, i, h, ho => by
    unfold bestv
    by_cases hi : i = n
    · subst hi
      split
      · exact Nat.le_refl _
      · rename_i h2
        exact Nat.le_of_not_lt (fun z => h2 ⟨ho, z⟩)
    · have := bestv_le (f := f) (n := n) (i := i) (by omega) ho
      split
      · rename_i h2
        omega
      · exact this
theorem bestv_far (f : Nat → Nat) (ok : Nat → Bool) : ∀ n, bestv f ok n ≤ 1000000000
  | 0 => Nat.le_refl _
  | n + 1 => by
    unfold bestv
    have := bestv_far f ok n
    split
    · rename_i h2
      omega
    · exact this
theorem besti_at {f : Nat → Nat} {ok : Nat → Bool} : ∀ {n : Nat}, bestv f ok n < 1000000000 → besti f ok n < n ∧ ok (besti f ok n) = true ∧ f (besti f ok n) = bestv f ok n ∧ ∀ j, j < besti f ok n → ok j = true → bestv f ok n < f j
  | 0, h => absurd h (Nat.lt_irrefl _)
  | n + 1, h => by
    unfold bestv besti
    unfold bestv at h
    by_cases c : ok n = true ∧ f n < bestv f ok n
    · rw [if_pos c, if_pos c]
      refine ⟨by omega, c.1, rfl, fun j hj ho => ?_⟩
      have := bestv_le (f := f) hj ho
      omega
    · rw [if_neg c] at h
      rw [if_neg c, if_neg c]
      obtain ⟨h1, h2, h3, h4⟩ := besti_at h
      exact ⟨by omega, h2, h3, h4⟩
theorem bestv_eq {f : Nat → Nat} {ok : Nat → Bool} {n i v : Nat} (hi : i < n) (ho : ok i = true) (hv : f i = v) (hl : ∀ j, j < n → ok j = true → v ≤ f j) (hf : v < 1000000000) : bestv f ok n = v := by
  have h1 := bestv_le (f := f) hi ho
  have h2 : bestv f ok n < 1000000000 := by omega
  obtain ⟨h3, h4, h5, -⟩ := besti_at h2
  have h6 := hl _ h3 h4
  omega
theorem besti_eq {f : Nat → Nat} {ok : Nat → Bool} {n i : Nat} (hi : i < n) (ho : ok i = true) (hv : f i = bestv f ok n) (hl : ∀ j, j < i → ok j = true → bestv f ok n < f j) (hf : bestv f ok n < 1000000000) : besti f ok n = i := by
  obtain ⟨h3, h4, h5, h6⟩ := besti_at hf
  rcases Nat.lt_trichotomy (besti f ok n) i with h | h | h
  · have := hl _ h h4
    omega
  · exact h
  · have := h6 i h ho
    omega
theorem bestv_cong {f g : Nat → Nat} {ok ok' : Nat → Bool} : ∀ {n : Nat}, (∀ i, i < n → f i = g i) → (∀ i, i < n → ok i = ok' i) → bestv f ok n = bestv g ok' n
  | 0, _, _ => rfl
  | n + 1, h, h2 => by
    unfold bestv
    rw [h n (by omega), h2 n (by omega), bestv_cong (fun i hi => h i (by omega)) (fun i hi => h2 i (by omega))]
theorem besti_cong {f g : Nat → Nat} {ok ok' : Nat → Bool} : ∀ {n : Nat}, (∀ i, i < n → f i = g i) → (∀ i, i < n → ok i = ok' i) → besti f ok n = besti g ok' n
  | 0, _, _ => rfl
  | n + 1, h, h2 => by
    unfold besti
    rw [h n (by omega), h2 n (by omega), bestv_cong (fun i hi => h i (by omega)) (fun i hi => h2 i (by omega)), besti_cong (fun i hi => h i (by omega)) (fun i hi => h2 i (by omega))]
/-! the least cost from a part on, n parts being left, by what is in and what of it was written -/
def stc (d : dD) (k p a b s : Nat) : Nat := work d p k s + carry d (nd s a) + carry d (nd b s)
def okr (d : dD) (r s : Nat) : Bool := decide (cells d s ≤ r)
def dnx (d : dD) (p b s : Nat) : Nat := (b ||| wset d p) &&& s
def Vm (d : dD) (k r : Nat) : Nat → Nat → Nat → Nat
  | 0, _, b => carry d b
  | n + 1, a, b => bestv (fun s => stc d k (dP d - (n + 1)) a b s + Vm d k r n s (dnx d (dP d - (n + 1)) b s)) (okr d r) (2 ^ dT d)
def Fm (d : dD) (k r n a b s : Nat) : Nat := stc d k (dP d - (n + 1)) a b s + Vm d k r n s (dnx d (dP d - (n + 1)) b s)
def Sm (d : dD) (k r n a b : Nat) : Nat := besti (Fm d k r n a b) (okr d r) (2 ^ dT d)
theorem Vm_succ (d : dD) (k r n a b : Nat) : Vm d k r (n + 1) a b = bestv (Fm d k r n a b) (okr d r) (2 ^ dT d) := rfl
/-- the best plan's states: what is in and written ahead of part p -/
def pth (d : dD) (k r : Nat) : Nat → Nat × Nat
  | 0 => (0, 0)
  | p + 1 => (Sm d k r (dP d - (p + 1)) (pth d k r p).1 (pth d k r p).2, dnx d p (pth d k r p).2 (Sm d k r (dP d - (p + 1)) (pth d k r p).1 (pth d k r p).2))
def bst (d : dD) (k r : Nat) : Nat := Vm d k r (dP d) 0 0
def bsp (d : dD) (k r p : Nat) : Nat := (pth d k r (p + 1)).1
theorem cells_0 (d : dD) : cells d 0 = 0 := by
  unfold cells
  have h : ∀ n, sm (fun t => if (0 : Nat).testBit t then dZ d t else 0) n = 0 := by
    intro n
    induction n with
    | zero => rfl
    | succ n ih =>
      show sm _ n + _ = 0
      rw [ih]
      simp
  exact h _
theorem okr_0 (d : dD) (r : Nat) : okr d r 0 = true := by
  unfold okr
  rw [cells_0]
  simp
theorem stc_le {d : dD} (h : wfP d) {k p : Nat} (hk : k < 2) (hp : p < dP d) (a b s : Nat) : stc d k p a b s ≤ 182200 := by
  have h1 := work_le h hp hk s
  have h2 := carry_le h (nd s a)
  have h3 := carry_le h (nd b s)
  unfold stc
  omega
theorem Vm_le {d : dD} (h : wfP d) {k r : Nat} (hk : k < 2) : ∀ {n : Nat}, n ≤ dP d → ∀ a b, Vm d k r n a b ≤ 182200 * n + 2000
  | 0, _, a, b => by
    have := carry_le h b
    show carry d b ≤ _
    omega
  | n + 1, hn, a, b => by
    have h1 := bestv_le (f := Fm d k r n a b) (ok := okr d r) (n := 2 ^ dT d) (i := 0) (Nat.two_pow_pos _) (okr_0 d r)
    rw [Vm_succ]
    have h2 := stc_le h hk (p := dP d - (n + 1)) (by omega) a b 0
    have h3 := Vm_le h hk (r := r) (n := n) (by omega) 0 (dnx d (dP d - (n + 1)) b 0)
    have h4 : Fm d k r n a b 0 = stc d k (dP d - (n + 1)) a b 0 + Vm d k r n 0 (dnx d (dP d - (n + 1)) b 0) := rfl
    omega
theorem Vm_lt {d : dD} (h : wfP d) {k r : Nat} (hk : k < 2) {n : Nat} (hn : n ≤ dP d) (a b : Nat) : Vm d k r n a b < 2000000 := by
  have h1 := Vm_le h hk (r := r) hn a b
  have h2 := h.1
  omega
theorem Sm_at {d : dD} (h : wfP d) {k r : Nat} (hk : k < 2) {n : Nat} (hn : n < dP d) (a b : Nat) : Sm d k r n a b < 2 ^ dT d ∧ okr d r (Sm d k r n a b) = true ∧ Fm d k r n a b (Sm d k r n a b) = Vm d k r (n + 1) a b ∧ ∀ j, j < Sm d k r n a b → okr d r j = true → Vm d k r (n + 1) a b < Fm d k r n a b j :=
  besti_at (by have := Vm_lt h hk (r := r) (n := n + 1) (by omega) a b; rw [Vm_succ] at this; omega)
theorem two_pow_le {d : dD} (h : wfP d) : 2 ^ dT d ≤ 32 := pow_le_32 h.2.1
theorem pth_lt {d : dD} (h : wfP d) {k r : Nat} (hk : k < 2) : ∀ {p : Nat}, p ≤ dP d → (pth d k r p).1 < 2 ^ dT d ∧ (pth d k r p).2 < 2 ^ dT d
  | 0, _ => ⟨Nat.two_pow_pos _, Nat.two_pow_pos _⟩
  | p + 1, hp => by
    have h1 := (Sm_at h hk (r := r) (n := dP d - (p + 1)) (by omega) (pth d k r p).1 (pth d k r p).2).1
    exact ⟨h1, Nat.lt_of_le_of_lt Nat.and_le_right h1⟩
/-! digits to the base three: a state of the finder -/
def so (s : Nat) : Nat := (if s.testBit 0 then 1 else 0) + (if s.testBit 1 then 3 else 0) + (if s.testBit 2 then 9 else 0) + (if s.testBit 3 then 27 else 0) + (if s.testBit 4 then 81 else 0)
def dg (t s : Nat) : Nat := (s / 3 ^ t) % 3
/-- what is in, and what of it was written, in a state -/
def sIn (s : Nat) : Nat := (if dg 0 s = 0 then 0 else 1) + (if dg 1 s = 0 then 0 else 2) + (if dg 2 s = 0 then 0 else 4) + (if dg 3 s = 0 then 0 else 8) + (if dg 4 s = 0 then 0 else 16)
def sDi (s : Nat) : Nat := (if dg 0 s = 2 then 1 else 0) + (if dg 1 s = 2 then 2 else 0) + (if dg 2 s = 2 then 4 else 0) + (if dg 3 s = 2 then 8 else 0) + (if dg 4 s = 2 then 16 else 0)
theorem sIn_bit : ∀ s, s < 243 → ∀ t, t < 5 → ((sIn s).testBit t = true ↔ dg t s ≠ 0) := by decide +kernel
theorem sDi_bit : ∀ s, s < 243 → ∀ t, t < 5 → ((sDi s).testBit t = true ↔ dg t s = 2) := by decide +kernel
theorem so_tab : ∀ s, s < 32 → sv_tab 44 s = nI (so s) := by decide +kernel
theorem so_le : ∀ s, s < 32 → so s ≤ 121 := by decide +kernel
theorem so_pow : ∀ n, n < 6 → so (2 ^ n - 1) * 2 + 1 = 3 ^ n := by decide +kernel
theorem so_one : ∀ t, t < 5 → so (2 ^ t) = 3 ^ t := by decide +kernel
/-- a state out of its sets -/
theorem st_in : ∀ a, a < 32 → ∀ b, b < 32 → b &&& a = b → sIn (so a + so b) = a ∧ sDi (so a + so b) = b := by decide +kernel
theorem st_lt : ∀ n, n < 6 → ∀ a, a < 2 ^ n → so a + so a < 3 ^ n := by decide +kernel
theorem so_mono : ∀ a, a < 32 → ∀ b, b < 32 → b &&& a = b → so b ≤ so a := by decide +kernel
theorem sIn_lt : ∀ n, n < 6 → ∀ s, s < 3 ^ n → sIn s < 2 ^ n ∧ sDi s < 2 ^ n ∧ sDi s &&& sIn s = sDi s ∧ so (sIn s) + so (sDi s) = s := by decide +kernel
