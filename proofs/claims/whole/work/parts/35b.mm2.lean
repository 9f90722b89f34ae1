/-! stays, counted -/
def gbh (d : dD) (e q : Nat) : Prop := (dL d q).testBit e = true ∧ (q + 1 = dP d ∨ ¬ (dL d (q + 1)).testBit e = true)
theorem pc_one : ∀ x, x < 32 → ∀ e, e < 5 → sd_pc (x &&& 2 ^ e) = if x.testBit e = true then 1 else 0 := by decide +kernel
theorem pc_all : ∀ T, T < 6 → ∀ x, x < 32 → sd_pc (x &&& (2 ^ T - 1)) = sm (fun t => sd_pc (x &&& 2 ^ t)) T := by decide +kernel
theorem sm_0 : ∀ n, sm (fun _ => 0) n = 0
  | 0 => rfl
  | n + 1 => by
    show sm (fun _ => 0) n + 0 = 0
    rw [sm_0 n]
theorem sm_swap (a : Nat → Nat → Nat) (P : Nat) : ∀ T, sm (fun t => sm (fun p => a t p) P) T = sm (fun p => sm (fun t => a t p) T) P
  | 0 => (sm_0 P).symm
  | T + 1 => by
    show sm (fun t => sm (fun p => a t p) P) T + sm (fun p => a T p) P = sm (fun p => sm (fun t => a t p) T + a T p) P
    rw [sm_swap a P T, sm_add]
theorem L32 {d : dD} (h : wfP d) (hl : wfL d) : ∀ p, p < dP d → dL d p < 32 := fun _ hp => dL_lt h hl hp
theorem rtn32 {d : dD} (h : wfP d) (hl : wfL d) {p : Nat} (hp : p < dP d) : rtnL d (dL d) p < 32 := rtnL_lt (fun q hq => L32 h hl q (by omega))
theorem fet32 {d : dD} (h : wfP d) (hl : wfL d) {p : Nat} (hp : p < dP d) : fetL (dL d) p < 32 := fetL_lt (L32 h hl p hp)
theorem cntF_all {d : dD} (h : wfP d) (hl : wfL d) : sm (fun t => cntF d (2 ^ t)) (dT d) = cntF d (2 ^ dT d - 1) := by
  have := h.2.1
  unfold cntF
  rw [sm_swap]
  exact sm_cong _ (fun p hp => (pc_all (dT d) (by omega) _ (fet32 h hl hp)).symm)
theorem cntR_all {d : dD} (h : wfP d) (hl : wfL d) : sm (fun t => cntR d (2 ^ t)) (dT d) = cntR d (2 ^ dT d - 1) := by
  have := h.2.1
  unfold cntR
  rw [sm_swap]
  exact sm_cong _ (fun p hp => (pc_all (dT d) (by omega) _ (rtn32 h hl hp)).symm)
theorem dty_bit {d : dD} {L : Nat → Nat} {n e : Nat} (he : e < 5) : (dtyL d L (n + 1)).testBit e = true ↔ ((dtyL d L n).testBit e = true ∨ 0 < dw d e n) ∧ (L n).testBit e = true := by
  show ((dtyL d L n ||| wset d n) &&& L n).testBit e = true ↔ _
  rw [and_bit, or_bit, wset_bit d n he]
theorem rtn_bit {d : dD} (h : wfP d) (hl : wfL d) {q e : Nat} (hq : q < dP d) (he : e < 5) : (rtnL d (dL d) q).testBit e = true ↔ gbh d e q ∧ (dtyL d (dL d) (q + 1)).testBit e = true := by
  unfold rtnL gbh
  have h1 : dtyL d (dL d) (q + 1) < 32 := dtyL_lt (fun p hp => L32 h hl p (by omega))
  by_cases c : q + 1 < dP d
  · rw [if_pos c, nd_bit _ h1 _ (L32 h hl _ c) e he, dty_bit he]
    constructor
    · rintro ⟨⟨a, b⟩, g⟩
      exact ⟨⟨b, Or.inr g⟩, a, b⟩
    · rintro ⟨⟨b, g⟩, a, -⟩
      exact ⟨⟨a, b⟩, g.resolve_left (by omega)⟩
  · rw [if_neg c, nd_bit _ h1 _ (by omega) e he, dty_bit he]
    constructor
    · rintro ⟨⟨a, b⟩, g⟩
      exact ⟨⟨b, Or.inl (by omega)⟩, a, b⟩
    · rintro ⟨⟨b, g⟩, a, -⟩
      exact ⟨⟨a, b⟩, by rw [Nat.zero_testBit]; decide⟩
/-! rooms -/
def alR (d : dD) (r : Nat) : Prop := 0 < r ∧ ∀ c, c < 2 ^ dT d → cells d c ≠ r
theorem bst_alR {d : dD} {r : Nat} (h : alR d r) (k : Nat) : bst d k r = bst d k (r - 1) := by
  refine bst_cong (fun s hs => ?_) k
  have h1 := h.1
  have h2 := h.2 s hs
  unfold okr
  by_cases c : cells d s ≤ r
  · rw [decide_eq_true c, decide_eq_true (by omega)]
  · rw [decide_eq_false c, decide_eq_false (by omega)]
theorem frsO_some {p : Nat → Bool} {n i : Nat} (hi : i < n) (hp : p i = true) (hn : ∀ j, j < i → p j = false) : frsO p n = some i := by
  unfold frsO
  rw [frs_eq hi hp hn, if_pos hi]
theorem frsO_none {p : Nat → Bool} {n : Nat} (h : ∀ j, j < n → p j = false) : frsO p n = none := by
  unfold frsO
  rw [if_neg]
  intro hl
  have h1 := frs_yes p n hl
  rw [h _ hl] at h1
  cases h1
theorem lr1_some {d : dD} {k : Nat} {w : Int} {i : Nat} (hi : i ≤ 60) (hp : (bst d k i : Int) ≤ w) (hn : ∀ j, j < i → ¬ (bst d k j : Int) ≤ w) : lr1 d k w = some i := by
  unfold lr1
  exact frsO_some (by omega) (decide_eq_true hp) (fun j hj => decide_eq_false (hn j hj))
theorem lr1_none {d : dD} {k : Nat} {w : Int} (hn : ∀ j, j ≤ 60 → ¬ (bst d k j : Int) ≤ w) : lr1 d k w = none := by
  unfold lr1
  exact frsO_none (fun j hj => decide_eq_false (hn j (by omega)))
theorem ix61 (q z : Nat) : (61 : Int32) * nI q + nI z = nI (61 * q + z) := by rw [show (61 : Int32) = nI 61 from rfl, pk_mul, nI_add]
