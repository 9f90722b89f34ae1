/-! the data: parts, things, runs, sizes, reads, writes, settings, the plan -/
abbrev dD : Type := (Nat × Nat) × (Nat → Nat → Nat) × (Nat → Nat) × (Nat → Nat → Nat) × (Nat → Nat → Nat) × (Nat → Nat) × (Nat → Nat)
def dP (d : dD) : Nat := d.1.1
def dT (d : dD) : Nat := d.1.2
def dR (d : dD) : Nat → Nat → Nat := d.2.1
def dZ (d : dD) : Nat → Nat := d.2.2.1
def dr (d : dD) : Nat → Nat → Nat := d.2.2.2.1
def dw (d : dD) : Nat → Nat → Nat := d.2.2.2.2.1
def dS (d : dD) : Nat → Nat := d.2.2.2.2.2.1
def dL (d : dD) : Nat → Nat := d.2.2.2.2.2.2
def isN (n : Nat) (x : Int32) : Prop := ∃ q, q < n ∧ x = nI q
/-- sums -/
def sm (f : Nat → Nat) : Nat → Nat
  | 0 => 0
  | n + 1 => sm f n + f n
theorem sm_le {f : Nat → Nat} {c : Nat} : ∀ n, (∀ k, k < n → f k ≤ c) → sm f n ≤ n * c
  | 0, _ => Nat.zero_le _
  | n + 1, h => by
    have h1 := sm_le n (fun k hk => h k (by omega))
    have h2 := h n (by omega)
    show sm f n + f n ≤ (n + 1) * c
    rw [Nat.succ_mul]
    omega
theorem sm_cong {f g : Nat → Nat} : ∀ n, (∀ k, k < n → f k = g k) → sm f n = sm g n
  | 0, _ => rfl
  | n + 1, h => by
    show sm f n + f n = sm g n + g n
    rw [sm_cong n (fun k hk => h k (by omega)), h n (by omega)]
def nd (a b : Nat) : Nat := a &&& (31 ^^^ b)
/-- the things that a part writes, as a set of five bits -/
def wset (d : dD) (p : Nat) : Nat := (if 0 < dw d 0 p then 1 else 0) + (if 0 < dw d 1 p then 2 else 0) + (if 0 < dw d 2 p then 4 else 0) + (if 0 < dw d 3 p then 8 else 0) + (if 0 < dw d 4 p then 16 else 0)
theorem wset_lt (d : dD) (p : Nat) : wset d p < 32 := by
  unfold wset
  repeat' split
  all_goals omega
def cells (d : dD) (s : Nat) : Nat := sm (fun t => if s.testBit t then dZ d t else 0) (dT d)
def work (d : dD) (p k s : Nat) : Nat := sm (fun t => (dr d t p + dw d t p) * (if s.testBit t then dS d 2 else dS d 1)) (dT d) * dR d k p
def carry (d : dD) (s : Nat) : Nat := dS d 3 * cells d s
def wfP (d : dD) : Prop := dP d ≤ 10 ∧ dT d ≤ 5 ∧ (∀ k p, k < 2 → p < dP d → 1 ≤ dR d k p ∧ dR d k p ≤ 99) ∧ (∀ t, t < dT d → 1 ≤ dZ d t ∧ dZ d t ≤ 20) ∧ (∀ t p, t < 5 → p < dP d → dr d t p ≤ 9 ∧ dw d t p ≤ 9) ∧ (∀ t p, dT d ≤ t → t < 5 → p < dP d → dr d t p = 0 ∧ dw d t p = 0) ∧ (dS d 0 ≤ 60 ∧ 1 ≤ dS d 1 ∧ dS d 1 ≤ 20 ∧ dS d 2 ≤ dS d 1 ∧ dS d 3 ≤ 20)
def wfL (d : dD) : Prop := ∀ p, p < dP d → dL d p < 2 ^ dT d
/-- the class's Program holds the data -/
def RP (d : dD) (σ : sv_S) : Prop := wfP d ∧ sv_gA σ 2 0 0 = nI (dP d) ∧ sv_gA σ 2 0 1 = nI (dT d) ∧ (∀ k, k < 4 → sv_gA σ 20 0 k = nI (dS d k)) ∧ (∀ k p, k < 2 → p < dP d → sv_gA σ 22 k p = nI (dR d k p)) ∧ (∀ t, t < dT d → sv_gA σ 23 0 t = nI (dZ d t)) ∧ (∀ t p, t < 5 → p < dP d → sv_gA σ 25 t p = nI (dr d t p)) ∧ (∀ t p, t < 5 → p < dP d → sv_gA σ 27 t p = nI (dw d t p)) ∧ (∀ p, p < dP d → sv_gA σ 28 0 p = nI (wset d p))
def RQ (d : dD) (σ : sv_S) : Prop := wfL d ∧ ∀ p, p < dP d → sv_gA σ 17 0 p = nI (dL d p)
/-- the states differ at most in these groups -/
def sq (gl : List Nat) (σ σ' : sv_S) : Prop := (∀ g, g ∉ gl → ∀ i j, sv_gA σ' g i j = sv_gA σ g i j) ∧ (∀ g, g ∉ gl → ∀ k, sv_gJ σ' g k = sv_gJ σ g k)
theorem sq_rf (gl : List Nat) (σ : sv_S) : sq gl σ σ := ⟨fun _ _ _ _ => rfl, fun _ _ _ => rfl⟩
theorem sq_tr {gl : List Nat} {σ1 σ2 σ3 : sv_S} (h1 : sq gl σ1 σ2) (h2 : sq gl σ2 σ3) : sq gl σ1 σ3 := ⟨fun g hg i j => (h2.1 g hg i j).trans (h1.1 g hg i j), fun g hg k => (h2.2 g hg k).trans (h1.2 g hg k)⟩
theorem sq_mono {gl gl' : List Nat} {σ σ' : sv_S} (h : sq gl σ σ') (hs : ∀ g ∈ gl, g ∈ gl') : sq gl' σ σ' := ⟨fun g hg => h.1 g (fun z => hg (hs g z)), fun g hg => h.2 g (fun z => hg (hs g z))⟩
theorem sq_sA {gl : List Nat} (σ : sv_S) {g : Nat} (i j : Nat) (v : Int32) (h : g ∈ gl) : sq gl σ (sv_sA σ g i j v) := ⟨fun g' hg i' j' => by rw [sv_gA_s, if_neg (fun z => hg (by rw [z.1]; exact h))], fun _ _ _ => rfl⟩
theorem sq_sJ {gl : List Nat} (σ : sv_S) {g : Nat} (k : Nat) (v : Int64) (h : g ∈ gl) : sq gl σ (sv_sJ σ g k v) := ⟨fun _ _ _ _ => rfl, fun g' hg k' => by rw [sv_gJ_s, if_neg (fun z => hg (by rw [z.1]; exact h))]⟩
theorem RP_fr {d : dD} {σ σ' : sv_S} {gl : List Nat} (h : RP d σ) (e : sq gl σ σ') (hg : (∀ g ∈ ([2, 20, 22, 23, 25, 27, 28] : List Nat), g ∉ gl) := by decide) : RP d σ' := by
  obtain ⟨h0, h1, h2, h3, h4, h5, h6, h7, h8⟩ := h
  have q := fun g hm => e.1 g (hg g hm)
  refine ⟨h0, ?_, ?_, fun k hk => ?_, fun k p hk hp => ?_, fun t ht => ?_, fun t p ht hp => ?_, fun t p ht hp => ?_, fun p hp => ?_⟩
  · rw [q 2 (by decide)]; exact h1
  · rw [q 2 (by decide)]; exact h2
  · rw [q 20 (by decide)]; exact h3 k hk
  · rw [q 22 (by decide)]; exact h4 k p hk hp
  · rw [q 23 (by decide)]; exact h5 t ht
  · rw [q 25 (by decide)]; exact h6 t p ht hp
  · rw [q 27 (by decide)]; exact h7 t p ht hp
  · rw [q 28 (by decide)]; exact h8 p hp
theorem RQ_fr {d : dD} {σ σ' : sv_S} {gl : List Nat} (h : RQ d σ) (e : sq gl σ σ') (hg : 17 ∉ gl := by decide) : RQ d σ' := ⟨h.1, fun p hp => by rw [e.1 _ hg]; exact h.2 p hp⟩
/-! bits of small sets -/
theorem bit_sh : ∀ s, s < 32 → ∀ t, t < 5 → ((nI s >>> (nI t &&& 31)) &&& 1 = 1 ↔ s.testBit t = true) := by decide +kernel
theorem nd_nI : ∀ a, a < 32 → ∀ b, b < 32 → nI a &&& (nI b ^^^ (-1)) = nI (nd a b) := by decide +kernel
theorem and_nI : ∀ a, a < 32 → ∀ b, b < 32 → nI a &&& nI b = nI (a &&& b) := by decide +kernel
theorem or_nI : ∀ a, a < 32 → ∀ b, b < 32 → nI a ||| nI b = nI (a ||| b) := by decide +kernel
theorem nd_lt {a b : Nat} (h : a < 32) : nd a b < 32 := Nat.lt_of_le_of_lt Nat.and_le_left h
theorem and_lt {a b : Nat} (h : a < 32) : a &&& b < 32 := Nat.lt_of_le_of_lt Nat.and_le_left h
theorem or_lt {a b : Nat} (h : a < 32) (h2 : b < 32) : a ||| b < 32 := Nat.or_lt_two_pow (n := 5) h h2
theorem pow_le_32 {n : Nat} (h : n ≤ 5) : 2 ^ n ≤ 32 := Nat.pow_le_pow_right (by omega) h
theorem cells_le {d : dD} (h : wfP d) (s : Nat) : cells d s ≤ 100 := by
  obtain ⟨-, hT, -, hz, -⟩ := h
  have h1 : cells d s ≤ dT d * 20 := sm_le _ (fun k hk => by
    split
    · exact (hz k hk).2
    · omega)
  omega
theorem carry_le {d : dD} (h : wfP d) (s : Nat) : carry d s ≤ 2000 := by
  have h1 := cells_le h s
  have h2 := h.2.2.2.2.2.2.2.2.2.2
  unfold carry
  calc dS d 3 * cells d s ≤ 20 * 100 := Nat.mul_le_mul h2 h1
    _ = 2000 := rfl
theorem worksum_le {d : dD} (h : wfP d) {p : Nat} (hp : p < dP d) (s n : Nat) (hn : n ≤ dT d) : sm (fun t => (dr d t p + dw d t p) * (if s.testBit t then dS d 2 else dS d 1)) n ≤ 1800 := by
  obtain ⟨-, hT, -, -, hu, -, hs⟩ := h
  have h1 : sm (fun t => (dr d t p + dw d t p) * (if s.testBit t then dS d 2 else dS d 1)) n ≤ n * 360 := sm_le _ (fun k hk => by
    have hk2 := hu k p (by omega) hp
    have h3 : (if s.testBit k then dS d 2 else dS d 1) ≤ 20 := by
      split <;> omega
    calc (dr d k p + dw d k p) * (if s.testBit k then dS d 2 else dS d 1) ≤ 18 * 20 := Nat.mul_le_mul (by omega) h3
      _ = 360 := rfl)
  omega
theorem work_le {d : dD} (h : wfP d) {p k : Nat} (hp : p < dP d) (hk : k < 2) (s : Nat) : work d p k s ≤ 178200 := by
  have h1 := worksum_le h hp s (dT d) (Nat.le_refl _)
  have h2 := (h.2.2.1 k p hk hp).2
  unfold work
  calc _ ≤ 1800 * 99 := Nat.mul_le_mul h1 h2
    _ = 178200 := rfl
/-- a number in range, or not -/
theorem isN_iff {n : Nat} (hn : n < 2 ^ 31) (x : Int32) : isN n x ↔ (0 : Int32) ≤ x ∧ x < nI n := by
  constructor
  · rintro ⟨q, hq, rfl⟩
    exact ⟨nI_pos' (by omega), nI_lt hq hn⟩
  · rintro ⟨h0, h1⟩
    rcases pk_ix x hn with h | h | ⟨j, hj, rfl⟩
    · exact absurd h0 (Int32.not_le.mpr h)
    · exact absurd h1 (Int32.not_lt.mpr h)
    · exact ⟨j, hj, rfl⟩
theorem isN_le {n : Nat} (hn : n < 2 ^ 30) (x : Int32) : isN n x ↔ (0 : Int32) ≤ x ∧ x ≤ nI n - 1 := by
  rw [isN_iff (by omega)]
  constructor
  · rintro ⟨h0, h1⟩
    refine ⟨h0, ?_⟩
    rw [Int32.le_iff_toInt_le, show (1 : Int32) = nI 1 from rfl, pk_sub_toInt hn (by omega)]
    rw [Int32.lt_iff_toInt_lt, nI_toInt (by omega)] at h1
    omega
  · rintro ⟨h0, h1⟩
    refine ⟨h0, ?_⟩
    rw [Int32.le_iff_toInt_le, show (1 : Int32) = nI 1 from rfl, pk_sub_toInt hn (by omega)] at h1
    rw [Int32.lt_iff_toInt_lt, nI_toInt (by omega)]
    omega
theorem gA_same (σ : sv_S) (g i j : Nat) (v : Int32) : sv_gA (sv_sA σ g i j v) g i j = v := by rw [sv_gA_s, if_pos ⟨rfl, rfl, rfl⟩]
theorem gA_nj (σ : sv_S) {g i j : Nat} {v : Int32} {i' j' : Nat} (h : j' ≠ j) : sv_gA (sv_sA σ g i j v) g i' j' = sv_gA σ g i' j' := by rw [sv_gA_s, if_neg (fun z => h z.2.2)]
theorem gA_ni (σ : sv_S) {g i j : Nat} {v : Int32} {i' j' : Nat} (h : i' ≠ i) : sv_gA (sv_sA σ g i j v) g i' j' = sv_gA σ g i' j' := by rw [sv_gA_s, if_neg (fun z => h z.2.1)]
theorem gA_ng (σ : sv_S) {g i j : Nat} {v : Int32} {g' i' j' : Nat} (h : g' ≠ g) : sv_gA (sv_sA σ g i j v) g' i' j' = sv_gA σ g' i' j' := by rw [sv_gA_s, if_neg (fun z => h z.1)]
theorem nd_0 : ∀ a, a < 32 → nd a 0 = a := by decide +kernel
theorem and_m1 : ∀ a, a < 32 → nI a &&& (-1) = nI a := by decide +kernel
theorem pc_le : ∀ a, a < 32 → sd_pc a ≤ 5 := by decide +kernel
