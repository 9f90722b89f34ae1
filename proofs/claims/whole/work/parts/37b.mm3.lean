/-! places, in the reference -/
def pq (gl : List Nat) (σ σ' : sv_S) : Prop := sq (5 :: gl) σ σ' ∧ ∀ j, j ≠ 15 → sv_gA σ' 5 0 j = sv_gA σ 5 0 j
theorem pq_rf (gl : List Nat) (σ : sv_S) : pq gl σ σ := ⟨sq_rf _ _, fun _ _ => rfl⟩
theorem pq_tr {gl : List Nat} {σ1 σ2 σ3 : sv_S} (h1 : pq gl σ1 σ2) (h2 : pq gl σ2 σ3) : pq gl σ1 σ3 := ⟨sq_tr h1.1 h2.1, fun j hj => (h2.2 j hj).trans (h1.2 j hj)⟩
theorem pq_of {gl gl' : List Nat} {σ σ' : sv_S} (h : sq gl σ σ') (hs : ∀ g ∈ gl, g ∈ (5 :: gl')) (h5 : 5 ∉ gl) : pq gl' σ σ' := ⟨sq_mono h hs, fun j _ => h.1 5 h5 0 j⟩
theorem pq_mono {gl gl' : List Nat} {σ σ' : sv_S} (h : pq gl σ σ') (hs : ∀ g ∈ (5 :: gl), g ∈ (5 :: gl')) : pq gl' σ σ' := ⟨sq_mono h.1 hs, h.2⟩
theorem pq_15 {gl : List Nat} (σ : sv_S) (v : Int32) : pq gl σ (sv_sA σ 5 0 15 v) := ⟨sq_sA _ _ _ _ (List.mem_cons_self ..), fun j hj => gA_nj _ hj⟩
theorem RM_pq {d : dD} {σ σ' : sv_S} {gl : List Nat} (h : RM d σ) (e : pq gl σ σ') (hg : (∀ g ∈ ([31, 32, 33, 34, 35, 36] : List Nat), g ∉ (5 :: gl)) := by decide) : RM d σ' := by
  obtain ⟨h0, hl, h1, h2, h3, h4, h5, h6, h7, h8⟩ := h
  have q := fun g hm => e.1.1 g (hg g hm)
  refine ⟨h0, hl, ?_, ?_, fun k p hk hp => ?_, fun t ht => ?_, fun t p ht hp => ?_, fun t p ht hp => ?_, fun k hk => ?_, fun p hp => ?_⟩
  · rw [e.2 0 (by decide)]; exact h1
  · rw [e.2 1 (by decide)]; exact h2
  · rw [q 31 (by decide)]; exact h3 k p hk hp
  · rw [q 32 (by decide)]; exact h4 t ht
  · rw [q 33 (by decide)]; exact h5 t p ht hp
  · rw [q 34 (by decide)]; exact h6 t p ht hp
  · rw [q 35 (by decide)]; exact h7 k hk
  · rw [q 36 (by decide)]; exact h8 p hp
theorem MI_pq {d : dD} {σ σ' : sv_S} {gl : List Nat} (h : MI d σ) (e : pq gl σ σ') (hg : 40 ∉ (5 :: gl) := by decide) : MI d σ' := h.elim (fun h => Or.inl (by rw [e.2 11 (by decide)]; exact h)) (fun h => Or.inr ⟨by rw [e.2 11 (by decide)]; exact h.1, fun k r hk hr => by rw [e.1.1 _ hg]; exact h.2 k r hk hr⟩)
def MP (d : dD) (pl : Nat → Option Nat) (σ : sv_S) : Prop := (∀ t, t < dT d → sv_gA σ 42 0 t = fpI (pl t)) ∧ (∀ t q, t < dT d → pl t = some q → q + dZ d t ≤ 60)
theorem MP_pq {d : dD} {pl : Nat → Option Nat} {σ σ' : sv_S} {gl : List Nat} (h : MP d pl σ) (e : sq gl σ σ') (hg : 42 ∉ gl := by decide) : MP d pl σ' := ⟨fun t ht => by rw [e.1 _ hg]; exact h.1 t ht, h.2⟩
def fndP (d : dD) (pl : Nat → Option Nat) (rc e : Nat) (v : Int32) (σ2 : sv_S) : Prop := (∀ a, fplace d pl e = some a → v = 1 ∧ MP d (plset pl e a) σ2 ∧ (sv_gA σ2 5 0 15 = nI (max rc (a + dZ d e)) ∧ max rc (a + dZ d e) ≤ 60)) ∧ (fplace d pl e = none → v = 0)
def layP (d : dD) (o : Option ((Nat → Option Nat) × Nat)) (v : Int32) (σ2 : sv_S) : Prop := match o with
  | some q => v = 1 ∧ MP d q.1 σ2 ∧ (sv_gA σ2 5 0 15 = nI q.2 ∧ q.2 ≤ 60)
  | none => v = 0
/-- the reference's reading of an order -/
def msc (used : Nat) : Nat → Nat → Nat → Nat
  | 0, _, t => t
  | n + 1, skip, t => if used.testBit t = true then msc used n skip (t + 1) else if skip = 0 then t else msc used n (skip - 1) (t + 1)
def mrd (T o : Nat) : Nat → Nat × Nat
  | 0 => (o, 0)
  | i + 1 => ((mrd T o i).1 % fct (T - 1 - i), (mrd T o i).2 ||| 2 ^ (msc (mrd T o i).2 5 ((mrd T o i).1 / fct (T - 1 - i)) 0))
theorem mrd_ord : ∀ T, T < 6 → ∀ o, o < fct T → ∀ i, i < T → msc (mrd T o i).2 5 ((mrd T o i).1 / fct (T - 1 - i)) 0 = ordX T o i ∧ (mrd T o i).1 < 200 ∧ (mrd T o i).2 < 32 := by decide +kernel
