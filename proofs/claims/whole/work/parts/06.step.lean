theorem sv_ex_of {α : Type} {o : Option α} {k : α → Prop} (h : sv_ex o k) : ∃ a, o = some a ∧ k a := by
  unfold sv_ex at h
  split at h
  · exact ⟨_, rfl, h⟩
  · exact h.elim
theorem sv_ch_of {b : Bool} {k : Prop} (h : sv_ch b k) : b = true ∧ k := by
  unfold sv_ch at h
  split at h
  · exact ⟨rfl, h⟩
  · exact h.elim
theorem sv_al_of {S : List sv_AV} {k : Prop} (h : sv_al S k) : S = [] ∧ k := by
  unfold sv_al at h
  split at h
  · exact ⟨rfl, h⟩
  · exact h.elim
theorem sv_ldI_of {L : List (Option sv_AV)} {i : Nat} {k : Int32 → Prop} (h : sv_ldI L i k) : ∃ x, L[i]? = some (some (.inl x)) ∧ k x := by
  unfold sv_ldI at h
  split at h
  · rename_i x e
    exact ⟨x, sv_lo_get L i _ e, h⟩
  · exact h.elim
theorem sv_ldR_of {L : List (Option sv_AV)} {i : Nat} {k : Nat × Nat → Prop} (h : sv_ldR L i k) : ∃ q, L[i]? = some (some (.inr (.inr q))) ∧ k q := by
  unfold sv_ldR at h
  split at h
  · rename_i x e
    exact ⟨x, sv_lo_get L i _ e, h⟩
  · exact h.elim
theorem sv_lc_of {L : List (Option sv_AV)} {i : Nat} {k : List (Option sv_AV) → Prop} {v : sv_AV} (h : sv_lc L i k v) : i < L.length ∧ k (L.set i (some v)) := by
  unfold sv_lc at h
  split at h
  · rename_i e
    exact ⟨Nat.le_of_ble_eq_true e, h⟩
  · exact h.elim
theorem sv_arr_of {g : Nat} {o a r st : Prop} (h : sv_arr g o a r st) : (sv_kd g = 0 ∧ o) ∨ (sv_kd g = 1 ∧ a) ∨ (sv_kd g = 2 ∧ r) ∨ (sv_kd g = 3 ∧ st) := by
  unfold sv_arr at h
  split at h
  · rename_i e; exact Or.inl ⟨e, h⟩
  · rename_i e; exact Or.inr (Or.inl ⟨e, h⟩)
  · rename_i e; exact Or.inr (Or.inr (Or.inl ⟨e, h⟩))
  · rename_i e; exact Or.inr (Or.inr (Or.inr ⟨e, h⟩))
  · exact h.elim
theorem sv_fa_ok (hF : ∀ g, g < 6 → ∀ k, k < sv_ln g → 3 ≤ sv_fk g k → 0 < sv_ct (sv_fk g k - 3)) (σ : sv_S) {g k : Nat} (hg : g < 6) (hk : k < sv_ln g) : sv_ok (sv_fa σ g k) := by
  have h := hF g hg k hk
  unfold sv_fa
  split
  · trivial
  · trivial
  · trivial
  · rename_i n e
    rw [e] at h
    exact h (by omega)
theorem sv_sw_of {pc : Nat} {k : Nat → Prop} {x : Int} : ∀ (os : List Int) (lo : Int) (j : Nat) (o : Int), sv_sw pc k x lo os → os[j]? = some o → x = lo + j → sv_jp pc o k
  | [], lo, j, o, h, hj, hx => by cases hj
  | a :: os, lo, 0, o, h, hj, hx => by
    have e : a = o := Option.some.inj hj
    subst e
    exact h.1 (by rw [hx]; exact Int.add_zero lo)
  | a :: os, lo, j + 1, o, h, hj, hx => sv_sw_of os (lo + 1) j o h.2 hj (by rw [hx]; push_cast; omega)
theorem sv_fs_get {ad : Nat → Nat → Nat} {σ : sv_S} {g k : Nat} (h : k < sv_ln g) : ((List.range (sv_ln g)).map (sv_fv ad σ g))[k]? = some (sv_fv ad σ g k) := by
  rw [List.getElem?_map, List.getElem?_range h]
  rfl
theorem sv_fs_setA {ad : Nat → Nat → Nat} {σ : sv_S} {g k : Nat} {v : Int32} (h : k < sv_ln g) (hf : sv_fk g k = 0 ∨ sv_fk g k = 2) : ((List.range (sv_ln g)).map (sv_fv ad σ g)).set k (.int v) = (List.range (sv_ln g)).map (sv_fv ad (sv_sA σ g 0 k v) g) := by
  apply List.ext_getElem?
  intro n
  by_cases hn : n = k
  · subst hn
    rw [List.getElem?_set_self (by rw [List.length_map, List.length_range]; exact h), sv_fs_get h]
    unfold sv_fv
    rcases hf with hf | hf <;> rw [hf] <;> simp [sv_gA_s]
  · rw [List.getElem?_set_ne (Ne.symm hn)]
    by_cases hl : n < sv_ln g
    · rw [sv_fs_get hl, sv_fs_get hl]
      unfold sv_fv
      rw [sv_gA_s, if_neg (fun z => hn z.2.2), sv_gJ_sA]
    · rw [List.getElem?_eq_none (by rw [List.length_map, List.length_range]; omega), List.getElem?_eq_none (by rw [List.length_map, List.length_range]; omega)]
theorem sv_fs_setJ {ad : Nat → Nat → Nat} {σ : sv_S} {g k : Nat} {v : Int64} (h : k < sv_ln g) (hf : sv_fk g k = 1) : ((List.range (sv_ln g)).map (sv_fv ad σ g)).set k (.long v) = (List.range (sv_ln g)).map (sv_fv ad (sv_sJ σ g k v) g) := by
  apply List.ext_getElem?
  intro n
  by_cases hn : n = k
  · subst hn
    rw [List.getElem?_set_self (by rw [List.length_map, List.length_range]; exact h), sv_fs_get h]
    unfold sv_fv
    rw [hf]
    simp [sv_gJ_s]
  · rw [List.getElem?_set_ne (Ne.symm hn)]
    by_cases hl : n < sv_ln g
    · rw [sv_fs_get hl, sv_fs_get hl]
      unfold sv_fv
      rw [sv_gJ_s, if_neg (fun z => hn z.2), sv_gA_sJ]
    · rw [List.getElem?_eq_none (by rw [List.length_map, List.length_range]; omega), List.getElem?_eq_none (by rw [List.length_map, List.length_range]; omega)]
theorem sv_cell_neJ {G : sv_G} {σ : sv_S} {g k : Nat} {v : Int64} {g' i' : Nat} (h : ¬ g' = g) : sv_cell G (sv_sJ σ g k v) g' i' = sv_cell G σ g' i' := by
  unfold sv_cell
  split
  · have e : sv_fv (sv_ad G) (sv_sJ σ g k v) g' = sv_fv (sv_ad G) σ g' := by
      funext j
      unfold sv_fv
      rw [sv_gJ_s, if_neg (fun z => h z.1), sv_gA_sJ]
    rw [e]
  · rfl
  · rfl
theorem sv_kd_ct : ∀ g, sv_kd g = 0 → sv_ct g = 1 := by
  intro g
  by_cases h : g < 45
  · exact (by decide +kernel : ∀ g, g < 45 → sv_kd g = 0 → sv_ct g = 1) g h
  · intro h0
    unfold sv_kd at h0
    rw [List.getD_eq_getElem?_getD, List.getElem?_eq_none (by show 45 ≤ g; omega)] at h0
    cases h0
theorem sv_fk_ct : ∀ g, g < 6 → ∀ k, k < sv_ln g → 3 ≤ sv_fk g k → 0 < sv_ct (sv_fk g k - 3) := by decide +kernel
