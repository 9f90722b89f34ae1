/-! worlds put together -/
def sv_owL : List Nat := [0, 1, 2, 3, 4, 5, 0, 0, 0, 0, 0, 0, 0, 0, 0, 0, 0, 1, 1, 1, 2, 2, 2, 2, 2, 2, 2, 2, 2, 3, 3, 5, 5, 5, 5, 5, 5, 5, 5, 5, 5, 5, 5]
def sv_ow (g : Nat) : Nat := sv_owL.getD g 9
theorem cn_wl_app (D : va_G) (cI cJ : ClassId) (bs : Nat → Nat) (X Y : List (Nat × Nat)) (σ : sv_S) : cn_wl D cI cJ bs (X ++ Y) σ = cn_wl D cI cJ bs X σ ++ cn_wl D cI cJ bs Y σ := List.map_append
theorem cn_wl_cong (D : va_G) (cI cJ : ClassId) {bs bs' : Nat → Nat} {X : List (Nat × Nat)} {σ σ' : sv_S} (h1 : ∀ q ∈ X, bs q.1 = bs' q.1) (h2 : ∀ q ∈ X, ∀ i j, sv_gA σ q.1 i j = sv_gA σ' q.1 i j) (h3 : ∀ q ∈ X, ∀ k, sv_gJ σ q.1 k = sv_gJ σ' q.1 k)
    (h4 : ∀ q ∈ X, sv_kd q.1 = 0 → ∀ k, k < sv_ln q.1 → 3 ≤ sv_fk q.1 k → bs (sv_fk q.1 k - 3) = bs' (sv_fk q.1 k - 3)) (h5 : ∀ q ∈ X, sv_kd q.1 = 2 → bs (sv_rw q.1) = bs' (sv_rw q.1)) (h6 : ∀ q ∈ X, sv_kd q.1 < 3) : cn_wl D cI cJ bs X σ = cn_wl D cI cJ bs' X σ' := by
  unfold cn_wl sv_wl
  refine List.map_congr_left (fun q hq => ?_)
  show (bs q.1 + q.2, _) = (bs' q.1 + q.2, _)
  rw [h1 q hq]
  refine congrArg (Prod.mk _) ?_
  have hk := h6 q hq
  unfold sv_cell
  rcases (show sv_kd q.1 = 0 ∨ sv_kd q.1 = 1 ∨ sv_kd q.1 = 2 by omega) with e | e | e
  · rw [e]
    refine congrArg (fun z => Sum.inr (q.1, z)) (List.map_congr_left (fun k hkm => ?_))
    have hk2 := List.mem_range.mp hkm
    unfold sv_fv
    cases hf : sv_fk q.1 k with
    | zero => show Value.int _ = _; rw [h2 q hq]
    | succ n => cases n with
      | zero => show Value.long _ = _; rw [h3 q hq]
      | succ n => cases n with
        | zero => show Value.int _ = _; rw [h2 q hq]
        | succ n =>
          have := h4 q hq e k hk2 (by omega)
          rw [hf, show n + 1 + 1 + 1 - 3 = n by omega] at this
          show Value.ref (bs n + 0) = Value.ref (bs' n + 0)
          rw [this]
  · rw [e]
    have : sv_gA σ q.1 q.2 = sv_gA σ' q.1 q.2 := funext (fun j => h2 q hq _ j)
    show Sum.inl (_, _, Sum.inl (sv_gA σ q.1 q.2)) = _
    rw [this]
    rfl
  · rw [e]
    have h9 := h5 q hq e
    have : (fun j => if j < sv_ln q.1 then some (bs (sv_rw q.1) + j) else none) = (fun j => if j < sv_ln q.1 then some (bs' (sv_rw q.1) + j) else none) := by
      rw [h9]
    show Sum.inl (_, _, Sum.inr (Sum.inr (Sum.inr (Sum.inr (fun j => if j < sv_ln q.1 then some (bs (sv_rw q.1) + j) else none))))) = Sum.inl (_, _, Sum.inr (Sum.inr (Sum.inr (Sum.inr (fun j => if j < sv_ln q.1 then some (bs' (sv_rw q.1) + j) else none)))))
    rw [this]
    rfl
/-- one of the five classes' lists, as the whole sees it -/
def cn_okX (k : Nat) (E : List Nat) (X : List (Nat × Nat)) : Bool := X.all fun q => Nat.beq (sv_ow q.1) k && Nat.blt (sv_kd q.1) 3 && (if sv_kd q.1 = 0 then (List.range (sv_ln q.1)).all (fun f => Nat.blt (sv_fk q.1 f) 3 || Nat.beq (sv_ow (sv_fk q.1 f - 3)) k || E.contains (sv_fk q.1 f - 3)) else true) && (if sv_kd q.1 = 2 then Nat.beq (sv_ow (sv_rw q.1)) k else true)
theorem cn_join (D : va_G) (cI cJ : ClassId) {bs bs' : Nat → Nat} {X : List (Nat × Nat)} {σ σ' : sv_S} (k : Nat) (E : List Nat) (hX : cn_okX k E X = true) (h1 : ∀ g, sv_ow g = k → bs g = bs' g) (h2 : ∀ g, g ∈ E → bs g = bs' g) (h3 : ∀ g, sv_ow g = k → ∀ i j, sv_gA σ g i j = sv_gA σ' g i j) (h4 : ∀ g, sv_ow g = k → ∀ j, sv_gJ σ g j = sv_gJ σ' g j) : cn_wl D cI cJ bs X σ = cn_wl D cI cJ bs' X σ' := by
  have key : ∀ q ∈ X, sv_ow q.1 = k ∧ sv_kd q.1 < 3 ∧ (sv_kd q.1 = 0 → ∀ f, f < sv_ln q.1 → 3 ≤ sv_fk q.1 f → sv_ow (sv_fk q.1 f - 3) = k ∨ sv_fk q.1 f - 3 ∈ E) ∧ (sv_kd q.1 = 2 → sv_ow (sv_rw q.1) = k) := by
    intro q hq
    have := List.all_eq_true.mp hX q hq
    simp only [Bool.and_eq_true] at this
    obtain ⟨⟨⟨a1, a2⟩, a3⟩, a4⟩ := this
    refine ⟨Nat.eq_of_beq_eq_true a1, Nat.le_of_ble_eq_true a2, fun e f hf h3 => ?_, fun e => ?_⟩
    · rw [if_pos e] at a3
      have := List.all_eq_true.mp a3 f (List.mem_range.mpr hf)
      simp only [Bool.or_eq_true] at this
      rcases this with (b | b) | b
      · have := Nat.le_of_ble_eq_true b
        omega
      · exact Or.inl (Nat.eq_of_beq_eq_true b)
      · exact Or.inr (List.contains_iff_mem.mp b)
    · rw [if_pos e] at a4
      exact Nat.eq_of_beq_eq_true a4
  refine cn_wl_cong D cI cJ (fun q hq => h1 _ (key q hq).1) (fun q hq => h3 _ (key q hq).1) (fun q hq => h4 _ (key q hq).1) (fun q hq e f hf h => ?_) (fun q hq e => h1 _ ((key q hq).2.2.2 e)) (fun q hq => (key q hq).2.1)
  rcases (key q hq).2.2.1 e f hf h with y | y
  · exact h1 _ y
  · exact h2 _ y
