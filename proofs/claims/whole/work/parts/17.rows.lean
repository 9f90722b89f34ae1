/-! a part's row, thing by thing: the least over all choices -/
def sdg (t s v : Nat) : Nat := s - dg t s * 3 ^ t + v * 3 ^ t
def tau (w : Bool) (a : Nat) (x : Bool) : Nat := if x = true then (if a = 2 ∨ w = true then 2 else 1) else 0
def cst (d : dD) (k p t a : Nat) (x : Bool) : Nat := if x = true then cIn d k p t + (if a ≠ 2 ∧ 0 < dw d t p then c1 d t else 0) + (if a = 0 then c1 d t else 0) else cOut d k p t
def wb (d : dD) (t p : Nat) : Bool := decide (0 < dw d t p)
theorem tau_lt (w : Bool) (a : Nat) (x : Bool) : tau w a x < 3 := by
  unfold tau
  repeat' split
  all_goals omega
theorem cfr_min (d : dD) (k p t : Nat) (R : Nat → Nat) (s : Nat) : cfr d k p t R s = min (R (sdg t s (tau (wb d t p) (dg t s) false)) + cst d k p t (dg t s) false) (R (sdg t s (tau (wb d t p) (dg t s) true)) + cst d k p t (dg t s) true) := by
  unfold cfr sdg tau cst wb
  have h3 := dg_lt t s
  dsimp only
  by_cases hw : 0 < dw d t p
  · rcases (show dg t s = 0 ∨ dg t s = 1 ∨ dg t s = 2 by omega) with h | h | h <;> simp [h, hw] <;> omega
  · rcases (show dg t s = 0 ∨ dg t s = 1 ∨ dg t s = 2 by omega) with h | h | h <;> simp [h, hw] <;> omega
theorem sdg_lt : ∀ n, n < 6 → ∀ s, s < 3 ^ n → ∀ t, t < n → ∀ v, v < 3 → sdg t s v < 3 ^ n := by decide +kernel
theorem dg_sdg : ∀ t, t < 5 → ∀ s, s < 243 → ∀ v, v < 3 → ∀ u, u < 5 → dg u (sdg t s v) = if u = t then v else dg u s := by decide +kernel
def rowj (d : dD) (k p : Nat) (R0 : Nat → Nat) : Nat → Nat → Nat
  | 0 => R0
  | j + 1 => cfr d k p j (rowj d k p R0 j)
def mix (d : dD) (p b : Nat) : Nat → Nat → Nat
  | 0, s => s
  | j + 1, s => mix d p b j (sdg j s (tau (wb d j p) (dg j s) (b.testBit j)))
def csum (d : dD) (k p b : Nat) : Nat → Nat → Nat
  | 0, _ => 0
  | j + 1, s => csum d k p b j (sdg j s (tau (wb d j p) (dg j s) (b.testBit j))) + cst d k p j (dg j s) (b.testBit j)
theorem row_le (d : dD) (k p : Nat) (R0 : Nat → Nat) (b : Nat) : ∀ (j s : Nat), rowj d k p R0 j s ≤ R0 (mix d p b j s) + csum d k p b j s
  | 0, s => Nat.le_refl _
  | j + 1, s => by
    have h1 := row_le d k p R0 b j (sdg j s (tau (wb d j p) (dg j s) (b.testBit j)))
    show cfr d k p j (rowj d k p R0 j) s ≤ R0 (mix d p b j (sdg j s (tau (wb d j p) (dg j s) (b.testBit j)))) + (csum d k p b j (sdg j s (tau (wb d j p) (dg j s) (b.testBit j))) + cst d k p j (dg j s) (b.testBit j))
    rw [cfr_min]
    cases hb : b.testBit j with
    | false =>
      rw [hb] at h1
      have := Nat.min_le_left (rowj d k p R0 j (sdg j s (tau (wb d j p) (dg j s) false)) + cst d k p j (dg j s) false) (rowj d k p R0 j (sdg j s (tau (wb d j p) (dg j s) true)) + cst d k p j (dg j s) true)
      omega
    | true =>
      rw [hb] at h1
      have := Nat.min_le_right (rowj d k p R0 j (sdg j s (tau (wb d j p) (dg j s) false)) + cst d k p j (dg j s) false) (rowj d k p R0 j (sdg j s (tau (wb d j p) (dg j s) true)) + cst d k p j (dg j s) true)
      omega
theorem mix_cong (d : dD) (k p : Nat) {b b' : Nat} : ∀ (j s : Nat), (∀ t, t < j → b.testBit t = b'.testBit t) → mix d p b j s = mix d p b' j s ∧ csum d k p b j s = csum d k p b' j s
  | 0, s, _ => ⟨rfl, rfl⟩
  | j + 1, s, h => by
    have hj := h j (by omega)
    unfold mix csum
    rw [hj]
    have ih := mix_cong d k p j (sdg j s (tau (wb d j p) (dg j s) (b'.testBit j))) (fun t ht => h t (by omega))
    exact ⟨ih.1, by rw [ih.2]⟩
theorem row_at (d : dD) (k p : Nat) (R0 : Nat → Nat) : ∀ (j s : Nat), ∃ b, b < 2 ^ j ∧ rowj d k p R0 j s = R0 (mix d p b j s) + csum d k p b j s
  | 0, s => ⟨0, by simp, rfl⟩
  | j + 1, s => by
    have hc : ∀ x : Bool, ∃ b, b < 2 ^ (j + 1) ∧ rowj d k p R0 j (sdg j s (tau (wb d j p) (dg j s) x)) + cst d k p j (dg j s) x = R0 (mix d p b (j + 1) s) + csum d k p b (j + 1) s := by
      intro x
      obtain ⟨b, hb, e⟩ := row_at d k p R0 j (sdg j s (tau (wb d j p) (dg j s) x))
      cases x with
      | false =>
        refine ⟨b, Nat.lt_of_lt_of_le hb (Nat.pow_le_pow_right (by omega) (by omega)), ?_⟩
        have hbj : b.testBit j = false := Nat.testBit_lt_two_pow hb
        unfold mix csum
        rw [hbj, e]
        omega
      | true =>
        refine ⟨2 ^ j + b, by rw [Nat.pow_succ]; omega, ?_⟩
        have hbj : (2 ^ j + b).testBit j = true := by
          rw [Nat.testBit_two_pow_add_eq, Nat.testBit_lt_two_pow hb]
          rfl
        have hlow := mix_cong d k p (b := 2 ^ j + b) (b' := b) j (sdg j s (tau (wb d j p) (dg j s) true)) (fun t ht => Nat.testBit_two_pow_add_gt ht b)
        unfold mix csum
        rw [hbj, hlow.1, hlow.2, e]
        omega
    show ∃ b, b < 2 ^ (j + 1) ∧ cfr d k p j (rowj d k p R0 j) s = _
    rw [cfr_min]
    rcases Nat.le_total (rowj d k p R0 j (sdg j s (tau (wb d j p) (dg j s) false)) + cst d k p j (dg j s) false) (rowj d k p R0 j (sdg j s (tau (wb d j p) (dg j s) true)) + cst d k p j (dg j s) true) with h | h
    · rw [Nat.min_eq_left h]
      exact hc false
    · rw [Nat.min_eq_right h]
      exact hc true
theorem mix_lt (d : dD) (p b : Nat) {n : Nat} (hn : n < 6) : ∀ (j s : Nat), j ≤ n → s < 3 ^ n → mix d p b j s < 3 ^ n
  | 0, s, _, hs => hs
  | j + 1, s, hj, hs => mix_lt d p b hn j _ (by omega) (sdg_lt n hn s hs j (by omega) _ (tau_lt _ _ _))
theorem mix_dg (d : dD) (p b : Nat) : ∀ (j s : Nat), j ≤ 5 → s < 243 → ∀ u, u < 5 → dg u (mix d p b j s) = if u < j then tau (wb d u p) (dg u s) (b.testBit u) else dg u s
  | 0, s, _, hs, u, hu => by
    rw [if_neg (by omega)]
    rfl
  | j + 1, s, hj, hs, u, hu => by
    have h1 := sdg_lt 5 (by omega) s hs j (by omega) (tau (wb d j p) (dg j s) (b.testBit j)) (tau_lt _ _ _)
    have ih := mix_dg d p b j (sdg j s (tau (wb d j p) (dg j s) (b.testBit j))) (by omega) h1 u hu
    have e := dg_sdg j (by omega) s hs _ (tau_lt (wb d j p) (dg j s) (b.testBit j)) u hu
    show dg u (mix d p b j (sdg j s (tau (wb d j p) (dg j s) (b.testBit j)))) = _
    rw [ih, e]
    by_cases h2 : u = j
    · subst h2
      rw [if_neg (by omega), if_pos rfl, if_pos (by omega)]
    · rw [if_neg h2]
      by_cases h3 : u < j
      · rw [if_pos h3, if_pos (by omega)]
      · rw [if_neg h3, if_neg (by omega)]
theorem csum_sm (d : dD) (k p b : Nat) : ∀ (j s : Nat), j ≤ 5 → s < 243 → csum d k p b j s = sm (fun t => cst d k p t (dg t s) (b.testBit t)) j
  | 0, s, _, _ => rfl
  | j + 1, s, hj, hs => by
    have h1 := sdg_lt 5 (by omega) s hs j (by omega) (tau (wb d j p) (dg j s) (b.testBit j)) (tau_lt _ _ _)
    have ih := csum_sm d k p b j (sdg j s (tau (wb d j p) (dg j s) (b.testBit j))) (by omega) h1
    show csum d k p b j _ + _ = sm _ j + _
    rw [ih]
    congr 1
    refine sm_cong j (fun t ht => ?_)
    rw [dg_sdg j (by omega) s hs _ (tau_lt _ _ _) t (by omega), if_neg (by omega)]
theorem ext5 {a b : Nat} (ha : a < 32) (hb : b < 32) (h : ∀ t, t < 5 → (a.testBit t = true ↔ b.testBit t = true)) : a = b := by
  apply Nat.eq_of_testBit_eq
  intro i
  by_cases hi : i < 5
  · have := h i hi
    cases h1 : a.testBit i <;> cases h2 : b.testBit i <;> simp_all
  · have hp : 2 ^ 5 ≤ 2 ^ i := Nat.pow_le_pow_right (by omega) (by omega)
    rw [Nat.testBit_lt_two_pow (by omega), Nat.testBit_lt_two_pow (by omega)]
theorem hi_bit {n s t : Nat} (h : s < 2 ^ n) (ht : n ≤ t) : s.testBit t = false := Nat.testBit_lt_two_pow (Nat.lt_of_lt_of_le h (Nat.pow_le_pow_right (by omega) ht))
theorem nd_bit : ∀ a, a < 32 → ∀ b, b < 32 → ∀ t, t < 5 → ((nd a b).testBit t = true ↔ a.testBit t = true ∧ ¬ b.testBit t = true) := by decide +kernel
theorem and_bit (a b t : Nat) : (a &&& b).testBit t = true ↔ a.testBit t = true ∧ b.testBit t = true := by rw [Nat.testBit_and, Bool.and_eq_true]
theorem or_bit (a b t : Nat) : (a ||| b).testBit t = true ↔ a.testBit t = true ∨ b.testBit t = true := by rw [Nat.testBit_or, Bool.or_eq_true]
theorem mix_sets {d : dD} (h : wfP d) (p b s : Nat) (hb : b < 2 ^ dT d) (hs : s < 3 ^ dT d) : sIn (mix d p b (dT d) s) = b ∧ sDi (mix d p b (dT d) s) = dnx d p (sDi s) b := by
  have hT := h.2.1
  have h243 := three_pow_le hT
  have h32 := two_pow_le h
  have hm := mix_lt d p b (n := dT d) (by omega) (dT d) s (Nat.le_refl _) hs
  have hi := sIn_lt (dT d) (by omega) _ hm
  have hs2 := sIn_lt (dT d) (by omega) s hs
  have hz : ∀ t, dT d ≤ t → t < 5 → dg t s = 0 := by
    intro t h1 h2
    have := sIn_bit s (by omega) t h2
    rw [hi_bit hs2.1 h1] at this
    exact Classical.byContradiction fun z => absurd (this.mpr z) (by decide)
  refine ⟨ext5 (by omega) (by omega) (fun t ht => ?_), ext5 (by omega) (and_lt (or_lt (by omega) (wset_lt d p))) (fun t ht => ?_)⟩
  · rw [sIn_bit _ (by omega) t ht, mix_dg d p b (dT d) s hT (by omega) t ht]
    by_cases h1 : t < dT d
    · rw [if_pos h1]
      unfold tau
      cases hx : b.testBit t with
      | false => simp
      | true =>
        simp
        split <;> omega
    · rw [if_neg h1, hz t (by omega) ht, hi_bit hb (by omega)]
      simp
  · rw [sDi_bit _ (by omega) t ht, mix_dg d p b (dT d) s hT (by omega) t ht]
    unfold dnx
    rw [and_bit, or_bit, sDi_bit s (by omega) t ht, wset_bit d p ht]
    by_cases h1 : t < dT d
    · rw [if_pos h1]
      unfold tau wb
      cases hx : b.testBit t with
      | false => simp
      | true =>
        by_cases hc : dg t s = 2 ∨ 0 < dw d t p
        · simp [hc]
        · simp [hc]
    · rw [if_neg h1, hz t (by omega) ht, hi_bit hb (by omega)]
      simp
theorem sm_add (f g : Nat → Nat) : ∀ n, sm (fun t => f t + g t) n = sm f n + sm g n
  | 0 => rfl
  | n + 1 => by
    show sm _ n + (f n + g n) = (sm f n + f n) + (sm g n + g n)
    rw [sm_add f g n]
    omega
theorem sm_mul (f : Nat → Nat) (c : Nat) : ∀ n, sm (fun t => c * f t) n = c * sm f n
  | 0 => rfl
  | n + 1 => by
    show sm _ n + c * f n = c * (sm f n + f n)
    rw [sm_mul f c n, Nat.mul_add]
theorem cells_one {d : dD} {t : Nat} (h5 : dT d ≤ 5) (ht : t < dT d) : cells d (2 ^ t) = dZ d t := by
  unfold cells
  have key : ∀ n, n ≤ dT d → sm (fun u => if (2 ^ t).testBit u then dZ d u else 0) n = if t < n then dZ d t else 0 := by
    intro n
    induction n with
    | zero => intro _; rfl
    | succ n ih =>
      intro hn
      show sm _ n + (if (2 ^ t).testBit n then dZ d n else 0) = _
      rw [ih (by omega), Nat.testBit_two_pow]
      by_cases h1 : t = n
      · subst h1
        simp
      · by_cases h2 : t < n
        · simp [h1, h2, show t < n + 1 by omega]
        · simp [h1, h2, show ¬ t < n + 1 by omega]
  rw [key (dT d) (Nat.le_refl _), if_pos ht]
theorem carry_sm (d : dD) (s : Nat) : carry d s = sm (fun t => if s.testBit t then dS d 3 * dZ d t else 0) (dT d) := by
  unfold carry cells
  rw [← sm_mul]
  refine sm_cong _ (fun t _ => ?_)
  split
  · rfl
  · exact Nat.mul_zero _
theorem work_sm (d : dD) (p k s : Nat) : work d p k s = sm (fun t => if s.testBit t then cIn d k p t else cOut d k p t) (dT d) := by
  unfold work
  rw [Nat.mul_comm, ← sm_mul]
  refine sm_cong _ (fun t _ => ?_)
  unfold cIn cOut
  split
  · rw [← Nat.mul_assoc, Nat.mul_comm (dR d k p)]
  · rw [← Nat.mul_assoc, Nat.mul_comm (dR d k p)]
/-- what the choices cost together -/
theorem csum_eq {d : dD} (h : wfP d) (k p b s : Nat) (hb : b < 2 ^ dT d) (hs : s < 3 ^ dT d) : csum d k p b (dT d) s = work d p k b + carry d (nd b (sIn s)) + carry d (nd (dnx d p (sDi s) b) (sDi s)) := by
  have hT := h.2.1
  have h243 := three_pow_le hT
  have h32 := two_pow_le h
  have hs2 := sIn_lt (dT d) (by omega) s hs
  rw [csum_sm d k p b (dT d) s hT (by omega), work_sm, carry_sm, carry_sm, ← sm_add, ← sm_add]
  refine sm_cong _ (fun t ht => ?_)
  have hc1 : c1 d t = dS d 3 * dZ d t := by
    unfold c1 carry
    rw [cells_one hT ht]
  have hd3 := dg_lt t s
  have b1 := nd_bit b (by omega) (sIn s) (by omega) t (by omega)
  have b2 := nd_bit (dnx d p (sDi s) b) (and_lt (or_lt (by omega) (wset_lt d p))) (sDi s) (by omega) t (by omega)
  have b3 := sIn_bit s (by omega) t (by omega)
  have b4 := sDi_bit s (by omega) t (by omega)
  have b5 : (dnx d p (sDi s) b).testBit t = true ↔ (dg t s = 2 ∨ 0 < dw d t p) ∧ b.testBit t = true := by
    unfold dnx
    rw [and_bit, or_bit, b4, wset_bit d p (by omega)]
  unfold cst
  rw [hc1]
  cases hx : b.testBit t with
  | false =>
    have q1 : ¬ (nd b (sIn s)).testBit t = true := fun z => by have := (b1.mp z).1; rw [hx] at this; cases this
    have q2 : ¬ (nd (dnx d p (sDi s) b) (sDi s)).testBit t = true := fun z => by have := (b5.mp (b2.mp z).1).2; rw [hx] at this; cases this
    rw [if_neg q1, if_neg q2]
    simp
  | true =>
    by_cases h0 : dg t s = 0
    · have q1 : (nd b (sIn s)).testBit t = true := b1.mpr ⟨hx, fun z => (b3.mp z) h0⟩
      rw [if_pos q1]
      by_cases hw : 0 < dw d t p
      · have q2 : (nd (dnx d p (sDi s) b) (sDi s)).testBit t = true := b2.mpr ⟨b5.mpr ⟨Or.inr hw, hx⟩, fun z => by have := b4.mp z; omega⟩
        rw [if_pos q2]
        simp [h0, hw]
      · have q2 : ¬ (nd (dnx d p (sDi s) b) (sDi s)).testBit t = true := fun z => by
          rcases (b5.mp (b2.mp z).1).1 with y | y
          · omega
          · exact hw y
        rw [if_neg q2]
        simp [h0, hw]
    · have q1 : ¬ (nd b (sIn s)).testBit t = true := fun z => (b1.mp z).2 (b3.mpr h0)
      rw [if_neg q1]
      by_cases h2 : dg t s = 2
      · have q2 : ¬ (nd (dnx d p (sDi s) b) (sDi s)).testBit t = true := fun z => (b2.mp z).2 (b4.mpr h2)
        rw [if_neg q2]
        simp [h2]
      · by_cases hw : 0 < dw d t p
        · have q2 : (nd (dnx d p (sDi s) b) (sDi s)).testBit t = true := b2.mpr ⟨b5.mpr ⟨Or.inr hw, hx⟩, fun z => h2 (b4.mp z)⟩
          rw [if_pos q2]
          simp [h0, h2, hw]
        · have q2 : ¬ (nd (dnx d p (sDi s) b) (sDi s)).testBit t = true := fun z => by
            rcases (b5.mp (b2.mp z).1).1 with y | y
            · exact h2 y
            · exact hw y
          rw [if_neg q2]
          simp [h0, h2, hw]
/-- the written that come and those that were, the written that go and those that stay -/
theorem carry_move {d : dD} (h : wfP d) (p b x : Nat) (hb : b < 32) (hx : x < 32) : carry d (nd (dnx d p b x) b) + carry d b = carry d (nd b x) + carry d (dnx d p b x) := by
  rw [carry_sm, carry_sm, carry_sm, carry_sm, ← sm_add, ← sm_add]
  refine sm_cong _ (fun t ht => ?_)
  have hT := h.2.1
  have b1 := nd_bit (dnx d p b x) (and_lt (or_lt hb (wset_lt d p))) b hb t (by omega)
  have b2 := nd_bit b hb x hx t (by omega)
  have b5 : (dnx d p b x).testBit t = true ↔ (b.testBit t = true ∨ (wset d p).testBit t = true) ∧ x.testBit t = true := by
    unfold dnx
    rw [and_bit, or_bit]
  by_cases q1 : b.testBit t = true <;> by_cases q2 : x.testBit t = true <;> by_cases q3 : (wset d p).testBit t = true <;> simp [b1, b2, b5, q1, q2, q3]
/-- the row of a part: what Vm says -/
theorem row_fin {d : dD} (h : wfP d) {k r n : Nat} (hk : k < 2) (hn : n < dP d) {R0 : Nat → Nat} (hR : ∀ s, s < 3 ^ dT d → R0 s = if cells d (sIn s) ≤ r then Vm d k r n (sIn s) (sDi s) - carry d (sDi s) else 1000000000) (hV : ∀ s, s < 3 ^ dT d → carry d (sDi s) ≤ Vm d k r n (sIn s) (sDi s)) {s : Nat} (hs : s < 3 ^ dT d) :
    rowj d k (dP d - (n + 1)) R0 (dT d) s + carry d (sDi s) = Vm d k r (n + 1) (sIn s) (sDi s) := by
  have hT := h.2.1
  have h32 := two_pow_le h
  have hs2 := sIn_lt (dT d) (by omega) s hs
  have key : ∀ b, b < 2 ^ dT d → okr d r b = true → R0 (mix d (dP d - (n + 1)) b (dT d) s) + csum d k (dP d - (n + 1)) b (dT d) s + carry d (sDi s) = Fm d k r n (sIn s) (sDi s) b := by
    intro b hb ho
    have hm := mix_lt d (dP d - (n + 1)) b (n := dT d) (by omega) (dT d) s (Nat.le_refl _) hs
    have ms := mix_sets h (dP d - (n + 1)) b s hb hs
    have ho2 : cells d b ≤ r := by unfold okr at ho; exact of_decide_eq_true ho
    have hv := hV _ hm
    rw [hR _ hm, ms.1, ms.2, if_pos ho2, csum_eq h k _ b s hb hs]
    rw [ms.1, ms.2] at hv
    have cm := carry_move h (dP d - (n + 1)) (sDi s) b (by omega) (by omega)
    unfold Fm stc
    omega
  have hV1 := Vm_lt h hk (r := r) (n := n + 1) (by omega) (sIn s) (sDi s)
  have h0 := Sm_at h hk (r := r) hn (sIn s) (sDi s)
  have e0 := key _ h0.1 h0.2.1
  have l0 := row_le d k (dP d - (n + 1)) R0 (Sm d k r n (sIn s) (sDi s)) (dT d) s
  obtain ⟨b, hb, eb⟩ := row_at d k (dP d - (n + 1)) R0 (dT d) s
  by_cases ho : okr d r b = true
  · have e1 := key b hb ho
    have l1 := bestv_le (f := Fm d k r n (sIn s) (sDi s)) (n := 2 ^ dT d) hb ho
    rw [← Vm_succ] at l1
    omega
  · have ms := mix_sets h (dP d - (n + 1)) b s hb hs
    have hm := mix_lt d (dP d - (n + 1)) b (n := dT d) (by omega) (dT d) s (Nat.le_refl _) hs
    have ho2 : ¬ cells d b ≤ r := fun z => ho (by unfold okr; exact decide_eq_true z)
    have er := hR _ hm
    rw [ms.1, if_neg ho2] at er
    omega
/-- what is written costs its return at least -/
theorem Vm_ge {d : dD} (h : wfP d) {k r : Nat} (hk : k < 2) : ∀ {n : Nat}, n ≤ dP d → ∀ a b, a < 2 ^ dT d → b < 2 ^ dT d → carry d b ≤ Vm d k r n a b
  | 0, _, a, b, _, _ => Nat.le_refl _
  | n + 1, hn, a, b, ha, hb => by
    have h32 := two_pow_le h
    obtain ⟨h1, h2, h3, -⟩ := Sm_at h hk (r := r) (n := n) (by omega) a b
    have ih := Vm_ge h hk (r := r) (n := n) (by omega) (Sm d k r n a b) (dnx d (dP d - (n + 1)) b (Sm d k r n a b)) h1 (Nat.lt_of_le_of_lt Nat.and_le_right h1)
    have cm := carry_move h (dP d - (n + 1)) b (Sm d k r n a b) (by omega) (by omega)
    have : Fm d k r n a b (Sm d k r n a b) = stc d k (dP d - (n + 1)) a b (Sm d k r n a b) + Vm d k r n (Sm d k r n a b) (dnx d (dP d - (n + 1)) b (Sm d k r n a b)) := rfl
    unfold stc at this
    omega
