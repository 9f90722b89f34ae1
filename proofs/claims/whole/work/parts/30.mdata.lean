/-! the reference: what its object holds -/
def mg : List Nat := [5, 31, 32, 33, 34, 35, 36, 37, 38, 39, 40, 41, 42]
def tg : List Nat := [37, 38, 39]
def RM (d : dD) (σ : sv_S) : Prop := wfP d ∧ wfL d ∧ sv_gA σ 5 0 0 = nI (dP d) ∧ sv_gA σ 5 0 1 = nI (dT d) ∧ (∀ k p, k < 2 → p < dP d → sv_gA σ 31 0 (2 * p + k) = nI (dR d k p)) ∧ (∀ t, t < dT d → sv_gA σ 32 0 t = nI (dZ d t)) ∧ (∀ t p, t < 5 → p < dP d → sv_gA σ 33 0 (10 * t + p) = nI (dr d t p)) ∧ (∀ t p, t < 5 → p < dP d → sv_gA σ 34 0 (10 * t + p) = nI (dw d t p)) ∧ (∀ k, k < 4 → sv_gA σ 35 0 k = nI (dS d k)) ∧ (∀ p, p < dP d → sv_gA σ 36 0 p = nI (dL d p))
def MK (d : dD) (σ : sv_S) : Prop := sv_gA σ 5 0 11 = 1 ∧ ∀ k r, k < 2 → r ≤ 60 → sv_gA σ 40 0 (61 * k + r) = nI (bst d k r)
def MI (d : dD) (σ : sv_S) : Prop := sv_gA σ 5 0 11 = 0 ∨ MK d σ
/-- backward induction up to a bound -/
theorem lpN {P : Nat → Prop} {N : Nat} (h : ∀ n, n ≤ N → (n < N → P (n + 1)) → P n) : ∀ n, n ≤ N → P n := by
  have key : ∀ m n, n + m = N → P n := by
    intro m
    induction m with
    | zero => exact fun n hn => h n (by omega) (fun z => by omega)
    | succ m ih => exact fun n hn => h n (by omega) (fun _ => ih (n + 1) (by omega))
  exact fun n hn => key (N - n) n (by omega)
theorem RM_fr {d : dD} {σ σ' : sv_S} {gl : List Nat} (h : RM d σ) (e : sq gl σ σ') (hg : (∀ g ∈ ([5, 31, 32, 33, 34, 35, 36] : List Nat), g ∉ gl) := by decide) : RM d σ' := by
  obtain ⟨h0, hl, h1, h2, h3, h4, h5, h6, h7, h8⟩ := h
  have q := fun g hm => e.1 g (hg g hm)
  refine ⟨h0, hl, ?_, ?_, fun k p hk hp => ?_, fun t ht => ?_, fun t p ht hp => ?_, fun t p ht hp => ?_, fun k hk => ?_, fun p hp => ?_⟩
  · rw [q 5 (by decide)]; exact h1
  · rw [q 5 (by decide)]; exact h2
  · rw [q 31 (by decide)]; exact h3 k p hk hp
  · rw [q 32 (by decide)]; exact h4 t ht
  · rw [q 33 (by decide)]; exact h5 t p ht hp
  · rw [q 34 (by decide)]; exact h6 t p ht hp
  · rw [q 35 (by decide)]; exact h7 k hk
  · rw [q 36 (by decide)]; exact h8 p hp
theorem MK_fr {d : dD} {σ σ' : sv_S} {gl : List Nat} (h : MK d σ) (e : sq gl σ σ') (hg : (5 ∉ gl ∧ 40 ∉ gl) := by decide) : MK d σ' := ⟨by rw [e.1 _ hg.1]; exact h.1, fun k r hk hr => by rw [e.1 _ hg.2]; exact h.2 k r hk hr⟩
theorem MI_fr {d : dD} {σ σ' : sv_S} {gl : List Nat} (h : MI d σ) (e : sq gl σ σ') (hg : (5 ∉ gl ∧ 40 ∉ gl) := by decide) : MI d σ' := h.elim (fun h => Or.inl (by rw [e.1 _ hg.1]; exact h)) (fun h => Or.inr (MK_fr h e hg))
theorem ix2 (q : Nat) : (2 : Int32) * nI q = nI (2 * q) := pk_mul 2 q
theorem ix2a (q k : Nat) : (2 : Int32) * nI q + nI k = nI (2 * q + k) := by rw [ix2, nI_add]
theorem ix10 (t q : Nat) : (10 : Int32) * nI t + nI q = nI (10 * t + q) := by rw [show (10 : Int32) = nI 10 from rfl, pk_mul, nI_add]
theorem ok2_le (x : Int32) : ok2 x ↔ ((0 : Int32) ≤ x ∧ x ≤ 1) := by
  constructor
  · rintro (rfl | rfl) <;> decide
  · intro h
    obtain ⟨n, -, hn, rfl⟩ := lit_in (a := 0) (b := 1) (by omega) h (by omega)
    rcases (show n = 0 ∨ n = 1 by omega) with rfl | rfl
    · exact Or.inl rfl
    · exact Or.inr rfl
theorem sh_pow {n : Nat} (h : n ≤ 5) : (1 : Int32) <<< (nI n &&& 31) = nI (2 ^ n) := (by decide +kernel : ∀ n, n < 6 → (1 : Int32) <<< (nI n &&& 31) = nI (2 ^ n)) _ (by omega)
theorem fct_lt : ∀ n, n < 6 → fct n ≤ 120 ∧ 1 ≤ fct n := by decide
theorem toI {k : Int32} {n : Int} {m : Int32} (h : k.toInt = n) (hm : m.toInt = n) : k = m := Int32.toInt_inj.mp (h.trans hm.symm)
theorem dg_dv : ∀ z, z < 243 → ∀ k, k < 5 → z / 3 ^ k < 243 := by decide +kernel
/-! the data's changes, in the reference -/
theorem RM_part {d : dD} {σ σ' : sv_S} (h : RM d σ) {r w : Nat} (hr : 1 ≤ r ∧ r ≤ w ∧ w ≤ 99) (hP : dP d < 10) (e5 : ∀ j, sv_gA σ' 5 0 j = if j = 11 then 0 else if j = 0 then nI (dP d + 1) else sv_gA σ 5 0 j)
    (e1 : ∀ j, sv_gA σ' 31 0 j = if j = 2 * dP d + 1 then nI w else if j = 2 * dP d then nI r else sv_gA σ 31 0 j) (e2 : ∀ j, sv_gA σ' 36 0 j = if j = dP d then 0 else sv_gA σ 36 0 j)
    (e3 : ∀ t p, t < 5 → p < 10 → sv_gA σ' 33 0 (10 * t + p) = if p = dP d then 0 else sv_gA σ 33 0 (10 * t + p)) (e4 : ∀ t p, t < 5 → p < 10 → sv_gA σ' 34 0 (10 * t + p) = if p = dP d then 0 else sv_gA σ 34 0 (10 * t + p))
    (e6 : ∀ j, sv_gA σ' 32 0 j = sv_gA σ 32 0 j) (e7 : ∀ j, sv_gA σ' 35 0 j = sv_gA σ 35 0 j) : RM (d_part d r w) σ' := by
  obtain ⟨h0, hl, h1, h2, h3, h4, h5, h6, h7, h8⟩ := h
  obtain ⟨w0, w1, w2, w3, w4, w5, w6⟩ := h0
  have hlt : ∀ p, p < dP d + 1 → p ≠ dP d → p < dP d := fun p a b => by omega
  refine ⟨⟨by show dP d + 1 ≤ 10; omega, w1, fun k p hk hp => ?_, w3, fun t p ht hp => ?_, fun t p ht1 ht hp => ?_, w6⟩, fun p hp => ?_, ?_, ?_, fun k p hk hp => ?_, fun t ht => ?_, fun t p ht hp => ?_, fun t p ht hp => ?_, fun k hk => ?_, fun p hp => ?_⟩
  · have hp : p < dP d + 1 := hp
    show 1 ≤ (if p = dP d then (if k = 0 then r else w) else dR d k p) ∧ (if p = dP d then (if k = 0 then r else w) else dR d k p) ≤ 99
    by_cases e : p = dP d
    · rw [if_pos e]; split <;> omega
    · rw [if_neg e]; exact w2 k p hk (hlt p hp e)
  · have hp : p < dP d + 1 := hp
    show (if p = dP d then 0 else dr d t p) ≤ 9 ∧ (if p = dP d then 0 else dw d t p) ≤ 9
    by_cases e : p = dP d
    · rw [if_pos e, if_pos e]; omega
    · rw [if_neg e, if_neg e]; exact w4 t p ht (hlt p hp e)
  · have hp : p < dP d + 1 := hp
    show (if p = dP d then 0 else dr d t p) = 0 ∧ (if p = dP d then 0 else dw d t p) = 0
    by_cases e : p = dP d
    · rw [if_pos e, if_pos e]; exact ⟨rfl, rfl⟩
    · rw [if_neg e, if_neg e]; exact w5 t p ht1 ht (hlt p hp e)
  · have hp : p < dP d + 1 := hp
    show (if p = dP d then 0 else dL d p) < 2 ^ dT d
    by_cases e : p = dP d
    · rw [if_pos e]; exact Nat.two_pow_pos _
    · rw [if_neg e]; exact hl p (hlt p hp e)
  · rw [e5, if_neg (by omega), if_pos rfl]; rfl
  · rw [e5, if_neg (by omega), if_neg (by omega)]; exact h2
  · have hp : p < dP d + 1 := hp
    show _ = nI (if p = dP d then (if k = 0 then r else w) else dR d k p)
    rw [e1]
    by_cases e : p = dP d
    · rw [if_pos e]
      by_cases c : k = 0
      · rw [if_pos c, if_neg (by omega), if_pos (by omega)]
      · rw [if_neg c, if_pos (by omega)]
    · rw [if_neg e, if_neg (by omega), if_neg (by omega)]
      exact h3 k p hk (hlt p hp e)
  · rw [e6]; exact h4 t ht
  · have hp : p < dP d + 1 := hp
    show _ = nI (if p = dP d then 0 else dr d t p)
    rw [e3 t p ht (by omega)]
    by_cases e : p = dP d
    · rw [if_pos e, if_pos e]; rfl
    · rw [if_neg e, if_neg e]; exact h5 t p ht (hlt p hp e)
  · have hp : p < dP d + 1 := hp
    show _ = nI (if p = dP d then 0 else dw d t p)
    rw [e4 t p ht (by omega)]
    by_cases e : p = dP d
    · rw [if_pos e, if_pos e]; rfl
    · rw [if_neg e, if_neg e]; exact h6 t p ht (hlt p hp e)
  · rw [e7]; exact h7 k hk
  · have hp : p < dP d + 1 := hp
    show _ = nI (if p = dP d then 0 else dL d p)
    rw [e2]
    by_cases e : p = dP d
    · rw [if_pos e, if_pos e]; rfl
    · rw [if_neg e, if_neg e]; exact h8 p (hlt p hp e)
theorem RM_runs {d : dD} {σ : sv_S} (h : RM d σ) {q r w : Nat} (hq : q < dP d) (hr : 1 ≤ r ∧ r ≤ w ∧ w ≤ 99) : RM (d_runs d q r w) (sv_sA (sv_sA (sv_sA σ 31 0 (2 * q) (nI r)) 31 0 (2 * q + 1) (nI w)) 5 0 11 0) := by
  obtain ⟨h0, hl, h1, h2, h3, h4, h5, h6, h7, h8⟩ := h
  obtain ⟨w0, w1, w2, w3, w4, w5, w6⟩ := h0
  refine ⟨⟨w0, w1, fun k p hk hp => ?_, w3, w4, w5, w6⟩, hl, ?_, ?_, fun k p hk hp => ?_, fun t ht => ?_, fun t p ht hp => ?_, fun t p ht hp => ?_, fun k hk => ?_, fun p hp => ?_⟩
  · show 1 ≤ (if p = q then (if k = 0 then r else w) else dR d k p) ∧ (if p = q then (if k = 0 then r else w) else dR d k p) ≤ 99
    by_cases e : p = q
    · rw [if_pos e]; split <;> omega
    · rw [if_neg e]; exact w2 k p hk hp
  · simp [sv_gA_s]; exact h1
  · simp [sv_gA_s]; exact h2
  · show _ = nI (if p = q then (if k = 0 then r else w) else dR d k p)
    rw [gA_ng _ (by decide), sv_gA_s, sv_gA_s]
    by_cases e : p = q
    · rw [if_pos e]
      by_cases c : k = 0
      · rw [if_pos c, if_neg (by omega), if_pos (by omega)]
      · rw [if_neg c, if_pos (by omega)]
    · rw [if_neg e, if_neg (by omega), if_neg (by omega)]
      exact h3 k p hk hp
  · simp [sv_gA_s]; exact h4 t ht
  · simp [sv_gA_s]; exact h5 t p ht hp
  · simp [sv_gA_s]; exact h6 t p ht hp
  · simp [sv_gA_s]; exact h7 k hk
  · simp [sv_gA_s]; exact h8 p hp
theorem RM_cut {d : dD} {σ : sv_S} (h : RM d σ) : RM (d_cut d) (sv_sA (sv_sA σ 5 0 0 (nI (dP d - 1))) 5 0 11 0) := by
  obtain ⟨h0, hl, h1, h2, h3, h4, h5, h6, h7, h8⟩ := h
  obtain ⟨w0, w1, w2, w3, w4, w5, w6⟩ := h0
  have hlt : ∀ p, p < dP d - 1 → p < dP d := fun p hp => by omega
  refine ⟨⟨by show dP d - 1 ≤ 10; omega, w1, fun k p hk hp => w2 k p hk (hlt p hp), w3, fun t p ht hp => w4 t p ht (hlt p hp), fun t p h1 h2 hp => w5 t p h1 h2 (hlt p hp), w6⟩, fun p hp => hl p (hlt p hp), ?_, ?_, fun k p hk hp => ?_, fun t ht => ?_, fun t p ht hp => ?_, fun t p ht hp => ?_, fun k hk => ?_, fun p hp => ?_⟩
  · simp [sv_gA_s]; rfl
  · simp [sv_gA_s]; exact h2
  · simp [sv_gA_s]; exact h3 k p hk (hlt p hp)
  · simp [sv_gA_s]; exact h4 t ht
  · simp [sv_gA_s]; exact h5 t p ht (hlt p hp)
  · simp [sv_gA_s]; exact h6 t p ht (hlt p hp)
  · simp [sv_gA_s]; exact h7 k hk
  · simp [sv_gA_s]; exact h8 p (hlt p hp)
theorem RM_thing {d : dD} {σ : sv_S} (h : RM d σ) (hT : dT d < 5) {z : Nat} (hz : 1 ≤ z ∧ z ≤ 20) : RM (d_thing d z) (sv_sA (sv_sA (sv_sA σ 32 0 (dT d) (nI z)) 5 0 1 (nI (dT d + 1))) 5 0 11 0) := by
  obtain ⟨h0, hl, h1, h2, h3, h4, h5, h6, h7, h8⟩ := h
  obtain ⟨w0, w1, w2, w3, w4, w5, w6⟩ := h0
  refine ⟨⟨w0, by show dT d + 1 ≤ 5; omega, w2, fun t ht => ?_, w4, fun t p h1 h2 hp => w5 t p (by have h1 : dT d + 1 ≤ t := h1; omega) h2 hp, w6⟩, fun p hp => ?_, ?_, ?_, fun k p hk hp => ?_, fun t ht => ?_, fun t p ht hp => ?_, fun t p ht hp => ?_, fun k hk => ?_, fun p hp => ?_⟩
  · have ht : t < dT d + 1 := ht
    show 1 ≤ (if t = dT d then z else dZ d t) ∧ (if t = dT d then z else dZ d t) ≤ 20
    by_cases e : t = dT d
    · rw [if_pos e]; exact hz
    · rw [if_neg e]; exact w3 t (by omega)
  · have := hl p hp
    show dL d p < 2 ^ (dT d + 1)
    rw [Nat.pow_succ]
    omega
  · simp [sv_gA_s]; exact h1
  · simp [sv_gA_s]; rfl
  · simp [sv_gA_s]; exact h3 k p hk hp
  · have ht : t < dT d + 1 := ht
    show _ = nI (if t = dT d then z else dZ d t)
    rw [gA_ng _ (by decide), gA_ng _ (by decide)]
    by_cases e : t = dT d
    · rw [if_pos e, e, gA_same]
    · rw [if_neg e, gA_nj _ e]
      exact h4 t (by omega)
  · simp [sv_gA_s]; exact h5 t p ht hp
  · simp [sv_gA_s]; exact h6 t p ht hp
  · simp [sv_gA_s]; exact h7 k hk
  · simp [sv_gA_s]; exact h8 p hp
theorem RM_uses {d : dD} {σ : sv_S} (h : RM d σ) {k q r w : Nat} (hk : k < dT d) (hq : q < dP d) (hr : r ≤ 9 ∧ w ≤ 9) : RM (d_uses d k q r w) (sv_sA (sv_sA (sv_sA σ 33 0 (10 * k + q) (nI r)) 34 0 (10 * k + q) (nI w)) 5 0 11 0) := by
  obtain ⟨h0, hl, h1, h2, h3, h4, h5, h6, h7, h8⟩ := h
  obtain ⟨w0, w1, w2, w3, w4, w5, w6⟩ := h0
  refine ⟨⟨w0, w1, w2, w3, fun t p ht hp => ?_, fun t p ht1 ht hp => ?_, w6⟩, hl, ?_, ?_, fun k p hk hp => ?_, fun t ht => ?_, fun t p ht hp => ?_, fun t p ht hp => ?_, fun k hk => ?_, fun p hp => ?_⟩
  · show (if t = k ∧ p = q then r else dr d t p) ≤ 9 ∧ (if t = k ∧ p = q then w else dw d t p) ≤ 9
    by_cases e : t = k ∧ p = q
    · rw [if_pos e, if_pos e]; exact hr
    · rw [if_neg e, if_neg e]; exact w4 t p ht hp
  · have ht1 : dT d ≤ t := ht1
    show (if t = k ∧ p = q then r else dr d t p) = 0 ∧ (if t = k ∧ p = q then w else dw d t p) = 0
    rw [if_neg (fun z => by omega), if_neg (fun z => by omega)]
    exact w5 t p ht1 ht hp
  · simp [sv_gA_s]; exact h1
  · simp [sv_gA_s]; exact h2
  · simp [sv_gA_s]; exact h3 k p hk hp
  · simp [sv_gA_s]; exact h4 t ht
  · have hp : p < dP d := hp
    show _ = nI (if t = k ∧ p = q then r else dr d t p)
    rw [gA_ng _ (by decide), gA_ng _ (by decide)]
    by_cases e : t = k ∧ p = q
    · rw [if_pos e, e.1, e.2, gA_same]
    · rw [if_neg e, gA_nj _ (by omega)]
      exact h5 t p ht hp
  · have hp : p < dP d := hp
    show _ = nI (if t = k ∧ p = q then w else dw d t p)
    rw [gA_ng _ (by decide)]
    by_cases e : t = k ∧ p = q
    · rw [if_pos e, e.1, e.2, gA_same]
    · rw [if_neg e, gA_nj _ (by omega), gA_ng _ (by decide)]
      exact h6 t p ht hp
  · simp [sv_gA_s]; exact h7 k hk
  · simp [sv_gA_s]; exact h8 p hp
theorem RM_size {d : dD} {σ : sv_S} (h : RM d σ) {k z : Nat} (hk : k < dT d) (hz : 1 ≤ z ∧ z ≤ 20) : RM (d_size d k z) (sv_sA (sv_sA σ 32 0 k (nI z)) 5 0 11 0) := by
  obtain ⟨h0, hl, h1, h2, h3, h4, h5, h6, h7, h8⟩ := h
  obtain ⟨w0, w1, w2, w3, w4, w5, w6⟩ := h0
  refine ⟨⟨w0, w1, w2, fun t ht => ?_, w4, w5, w6⟩, hl, ?_, ?_, fun k p hk hp => ?_, fun t ht => ?_, fun t p ht hp => ?_, fun t p ht hp => ?_, fun k hk => ?_, fun p hp => ?_⟩
  · show 1 ≤ (if t = k then z else dZ d t) ∧ (if t = k then z else dZ d t) ≤ 20
    by_cases e : t = k
    · rw [if_pos e]; exact hz
    · rw [if_neg e]; exact w3 t ht
  · simp [sv_gA_s]; exact h1
  · simp [sv_gA_s]; exact h2
  · simp [sv_gA_s]; exact h3 k p hk hp
  · show _ = nI (if t = k then z else dZ d t)
    rw [gA_ng _ (by decide)]
    by_cases e : t = k
    · rw [if_pos e, e, gA_same]
    · rw [if_neg e, gA_nj _ e]
      exact h4 t ht
  · simp [sv_gA_s]; exact h5 t p ht hp
  · simp [sv_gA_s]; exact h6 t p ht hp
  · simp [sv_gA_s]; exact h7 k hk
  · simp [sv_gA_s]; exact h8 p hp
theorem RM_set {d : dD} {σ : sv_S} (h : RM d σ) {k v : Nat} (ho : okN d k v) : RM (d_set d k v) (sv_sA (sv_sA σ 35 0 k (nI v)) 5 0 11 0) := by
  obtain ⟨h0, hl, h1, h2, h3, h4, h5, h6, h7, h8⟩ := h
  obtain ⟨w0, w1, w2, w3, w4, w5, w6⟩ := h0
  refine ⟨⟨w0, w1, w2, w3, w4, w5, ?_⟩, hl, ?_, ?_, fun k p hk hp => ?_, fun t ht => ?_, fun t p ht hp => ?_, fun t p ht hp => ?_, fun j hj => ?_, fun p hp => ?_⟩
  · show (if 0 = k then v else dS d 0) ≤ 60 ∧ 1 ≤ (if 1 = k then v else dS d 1) ∧ (if 1 = k then v else dS d 1) ≤ 20 ∧ (if 2 = k then v else dS d 2) ≤ (if 1 = k then v else dS d 1) ∧ (if 3 = k then v else dS d 3) ≤ 20
    rcases ho with ⟨rfl, hv⟩ | ⟨rfl, hv1, hv2, hv3⟩ | ⟨rfl, hv⟩ | ⟨rfl, hv⟩ <;> simp <;> omega
  · simp [sv_gA_s]; exact h1
  · simp [sv_gA_s]; exact h2
  · simp [sv_gA_s]; exact h3 k p hk hp
  · simp [sv_gA_s]; exact h4 t ht
  · simp [sv_gA_s]; exact h5 t p ht hp
  · simp [sv_gA_s]; exact h6 t p ht hp
  · show _ = nI (if j = k then v else dS d j)
    rw [gA_ng _ (by decide)]
    by_cases e : j = k
    · rw [if_pos e, e, gA_same]
    · rw [if_neg e, gA_nj _ e]
      exact h7 j hj
  · simp [sv_gA_s]; exact h8 p hp
theorem RM_take {d : dD} {σ σ' : sv_S} (h : RM d σ) {L : Nat → Nat} (hL : ∀ p, p < dP d → L p < 2 ^ dT d) (e : sq (36 :: tg) σ σ') (hs : ∀ p, p < dP d → sv_gA σ' 36 0 p = nI (L p)) : RM (d_take d L) σ' := by
  obtain ⟨h0, hl, h1, h2, h3, h4, h5, h6, h7, h8⟩ := h
  refine ⟨h0, hL, ?_, ?_, fun k p hk hp => ?_, fun t ht => ?_, fun t p ht hp => ?_, fun t p ht hp => ?_, fun k hk => ?_, hs⟩
  · rw [e.1 _ (by decide)]; exact h1
  · rw [e.1 _ (by decide)]; exact h2
  · rw [e.1 _ (by decide)]; exact h3 k p hk hp
  · rw [e.1 _ (by decide)]; exact h4 t ht
  · rw [e.1 _ (by decide)]; exact h5 t p ht hp
  · rw [e.1 _ (by decide)]; exact h6 t p ht hp
  · rw [e.1 _ (by decide)]; exact h7 k hk
theorem MI_alk {d d' : dD} {σ : sv_S} (h : MI d σ) (hb : ∀ k r, bst d' k r = bst d k r) : MI d' σ := h.elim Or.inl (fun h => Or.inr ⟨h.1, fun k r hk hr => by rw [hb]; exact h.2 k r hk hr⟩)
