def sv_flw (own : String) (q : Nat × (Nat × Nat)) : Cond := match vwCl[q.2.1]? with
  | some r => .fieldLink own q.1 (r.2.1 q.2.2).1 (r.2.1 q.2.2).2.1 (r.2.1 q.2.2).2.2.1
  | none => .count 0
theorem sv_val_cat (ad : Nat → Nat → Nat) (v : sv_AV) : (sv_val ad v).category = sv_cat v := by
  rcases v with x | x | x <;> rfl
def sv_pr (ad : Nat → Nat → Nat) (L : List (Option sv_AV)) : List (Nat × Value) := (L.zipIdx).filterMap (fun q => q.1.map (fun v => (q.2, sv_val ad v)))
theorem sv_pr_mem {ad : Nat → Nat → Nat} {L : List (Option sv_AV)} {j : Nat} {w : Value} : (j, w) ∈ sv_pr ad L ↔ ∃ v, L[j]? = some (some v) ∧ w = sv_val ad v := by
  unfold sv_pr
  rw [List.mem_filterMap]
  constructor
  · rintro ⟨⟨o, i⟩, h1, h2⟩
    cases o with
    | none => cases h2
    | some v =>
      have h3 : (i, sv_val ad v) = (j, w) := Option.some.inj h2
      cases h3
      exact ⟨v, List.mk_mem_zipIdx_iff_getElem?.mp h1, rfl⟩
  · rintro ⟨v, h1, rfl⟩
    exact ⟨(some v, j), List.mk_mem_zipIdx_iff_getElem?.mpr h1, rfl⟩
def sv_L (ad : Nat → Nat → Nat) (ls : Array Slot) (L : List (Option sv_AV)) : Prop := lv_has ls L.length (sv_pr ad L) ∧ ∀ (i : Nat) (v : sv_AV), L[i]? = some (some v) → sv_cat v = 1 ∧ sv_ok v
theorem sv_L_get {ad : Nat → Nat → Nat} {ls : Array Slot} {L : List (Option sv_AV)} (h : sv_L ad ls L) {i : Nat} {v : sv_AV} (hi : L[i]? = some (some v)) : ls[i]? = some (.val (sv_val ad v)) := h.1.2.2 (i, sv_val ad v) (sv_pr_mem.mpr ⟨v, hi, rfl⟩)
theorem sv_L_store {ad : Nat → Nat → Nat} {ls ls' : Array Slot} {L : List (Option sv_AV)} (h : sv_L ad ls L) {i : Nat} {v : sv_AV} (hc : sv_cat v = 1) (ho : sv_ok v) (hi : i < L.length)
    (h' : lv_has ls' L.length ((i, sv_val ad v) :: (sv_pr ad L).filter (fun q => !(q.1 == i) && !(q.1 + 1 == i && q.2.category == 2)))) : sv_L ad ls' (L.set i (some v)) := by
  have key : ∀ (j : Nat) (u : sv_AV), (L.set i (some v))[j]? = some (some u) → (j = i ∧ u = v) ∨ (j ≠ i ∧ L[j]? = some (some u)) := by
    intro j u hj
    by_cases hji : j = i
    · subst hji
      rw [List.getElem?_set_self hi] at hj
      exact Or.inl ⟨rfl, (Option.some.inj (Option.some.inj hj)).symm⟩
    · rw [List.getElem?_set_ne (Ne.symm hji)] at hj
      exact Or.inr ⟨hji, hj⟩
  refine ⟨⟨by rw [List.length_set]; exact h'.1, h'.2.1, ?_⟩, ?_⟩
  · rintro ⟨j, w⟩ hq
    obtain ⟨u, hj, rfl⟩ := sv_pr_mem.mp hq
    rcases key j u hj with ⟨rfl, rfl⟩ | ⟨hne, hj2⟩
    · exact h'.2.2 _ List.mem_cons_self
    · refine h'.2.2 _ (List.mem_cons_of_mem _ (List.mem_filter.mpr ⟨sv_pr_mem.mpr ⟨u, hj2, rfl⟩, ?_⟩))
      have hcu := (h.2 j u hj2).1
      have e1 : (j == i) = false := by simp [hne]
      have e2 : ((sv_val ad u).category == 2) = false := by rw [sv_val_cat, hcu]; rfl
      show (!(j == i) && !(j + 1 == i && (sv_val ad u).category == 2)) = true
      rw [e1, e2, Bool.and_false]
      rfl
  · intro j u hj
    rcases key j u hj with ⟨rfl, rfl⟩ | ⟨-, hj2⟩
    · exact ⟨hc, ho⟩
    · exact h.2 j u hj2
theorem sv_mk_len : ∀ (bs : List Bool) (L : List (Option sv_AV)), (sv_mk bs L).length = L.length
  | [], L => by unfold sv_mk; rfl
  | true :: bs, [] => rfl
  | false :: bs, [] => rfl
  | true :: bs, o :: L => by show (sv_mk bs L).length + 1 = L.length + 1; rw [sv_mk_len bs L]
  | false :: bs, o :: L => by show (sv_mk bs L).length + 1 = L.length + 1; rw [sv_mk_len bs L]
theorem sv_mk_get : ∀ (bs : List Bool) (L : List (Option sv_AV)) (i : Nat) (v : sv_AV), (sv_mk bs L)[i]? = some (some v) → L[i]? = some (some v)
  | [], L, i, v, h => by unfold sv_mk at h; exact h
  | true :: bs, [], i, v, h => h
  | false :: bs, [], i, v, h => h
  | true :: bs, o :: L, 0, v, h => h
  | false :: bs, o :: L, 0, v, h => by
    have h : (none : Option sv_AV) = some v := Option.some.inj h
    cases h
  | true :: bs, o :: L, i + 1, v, h => sv_mk_get bs L i v h
  | false :: bs, o :: L, i + 1, v, h => sv_mk_get bs L i v h
theorem sv_L_mk {ad : Nat → Nat → Nat} {ls : Array Slot} {L : List (Option sv_AV)} (h : sv_L ad ls L) (bs : List Bool) : sv_L ad ls (sv_mk bs L) := by
  refine ⟨⟨by rw [sv_mk_len]; exact h.1.1, h.1.2.1, ?_⟩, fun i v hi => h.2 i v (sv_mk_get bs L i v hi)⟩
  rintro ⟨j, w⟩ hq
  obtain ⟨u, hj, rfl⟩ := sv_pr_mem.mp hq
  exact sv_L_get h (sv_mk_get bs L j u hj)
theorem sv_okc {v : sv_AV} {S : List sv_AV} (h : sv_ok v) (hS : ∀ u ∈ S, sv_ok u) : ∀ u ∈ v :: S, sv_ok u := fun u hu => by
  rcases List.mem_cons.mp hu with rfl | h2
  · exact h
  · exact hS u h2
theorem sv_okt {v : sv_AV} {S : List sv_AV} (h : ∀ u ∈ v :: S, sv_ok u) : ∀ u ∈ S, sv_ok u := fun u hu => h u (List.mem_cons_of_mem _ hu)
theorem sv_cell_obj {G : sv_G} {σ : sv_S} {g i : Nat} (h : sv_kd g = 0) : sv_cell G σ g i = .inr (g, (List.range (sv_ln g)).map (sv_fv (sv_ad G) σ g)) := by
  unfold sv_cell
  rw [h]
  rfl
theorem sv_cell_arr {G : sv_G} {σ : sv_S} {g i : Nat} (h : sv_kd g = 1) : sv_cell G σ g i = .inl (sv_cI G, sv_ln g, .inl (sv_gA σ g i)) := by
  unfold sv_cell
  rw [h]
  rfl
theorem sv_cell_ref {G : sv_G} {σ : sv_S} {g i : Nat} (h : sv_kd g = 2) : sv_cell G σ g i = .inl (sv_cJ G, sv_ln g, .inr (.inr (.inr (.inr (fun j => if j < sv_ln g then some (sv_ad G (sv_rw g) j) else none))))) := by
  unfold sv_cell
  rw [h]
  rfl
theorem sv_gA_s (σ : sv_S) (g i j : Nat) (v : Int32) (g' i' j' : Nat) : sv_gA (sv_sA σ g i j v) g' i' j' = if g' = g ∧ i' = i ∧ j' = j then v else sv_gA σ g' i' j' := rfl
theorem sv_gA_sJ (σ : sv_S) (g k : Nat) (v : Int64) (g' i' j' : Nat) : sv_gA (sv_sJ σ g k v) g' i' j' = sv_gA σ g' i' j' := rfl
theorem sv_gJ_s (σ : sv_S) (g k : Nat) (v : Int64) (g' k' : Nat) : sv_gJ (sv_sJ σ g k v) g' k' = if g' = g ∧ k' = k then v else sv_gJ σ g' k' := rfl
theorem sv_gJ_sA (σ : sv_S) (g i j : Nat) (v : Int32) (g' k' : Nat) : sv_gJ (sv_sA σ g i j v) g' k' = sv_gJ σ g' k' := rfl
/-- a store elsewhere leaves a cell -/
theorem sv_cell_neA {G : sv_G} {σ : sv_S} {g i j : Nat} {v : Int32} (hi : sv_kd g = 0 → i = 0) {g' i' : Nat} (h : ¬ (g' = g ∧ i' = i)) (hX : sv_kd g' = 0 → i' = 0) : sv_cell G (sv_sA σ g i j v) g' i' = sv_cell G σ g' i' := by
  unfold sv_cell
  split
  · rename_i h0
    have e : sv_fv (sv_ad G) (sv_sA σ g i j v) g' = sv_fv (sv_ad G) σ g' := by
      funext k
      have hg : ¬ (g' = g ∧ 0 = i ∧ k = j) := fun z => h ⟨z.1, by rw [hX h0]; exact z.2.1⟩
      unfold sv_fv
      rw [sv_gA_s, if_neg hg, sv_gJ_sA]
    rw [e]
  · have e : sv_gA (sv_sA σ g i j v) g' i' = sv_gA σ g' i' := by
      funext k
      rw [sv_gA_s, if_neg (fun z => h ⟨z.1, z.2.1⟩)]
    rw [e]
  · rfl
def sv_clok (g : Nat) : Prop := ∃ (C : String) (Tt : u_T) (N : Nat) (ty0 : Nat → FieldType), vwCl[g]? = some (C, Tt, N) ∧ N = sv_ln g ∧ sv_kd g = 0 ∧ (∀ w ∈ u_ws C Tt N, w ∈ sv_tb) ∧ (∀ k, k < N → parseFieldDescriptor (Tt k).2.2.1 = some (ty0 k)) ∧ (∀ a, a < N → ∀ b, b < N → a ≠ b → (Tt a).2.1 ≠ (Tt b).2.1) ∧
  (∀ k, k < N → sv_fk g k = 0 → ty0 k = .int ∧ (Tt k).2.2.2 = false) ∧ (∀ k, k < N → sv_fk g k = 1 → ty0 k = .long ∧ (Tt k).2.2.2 = false) ∧ (∀ k, k < N → sv_fk g k = 2 → ty0 k = .boolean ∧ (Tt k).2.2.2 = false)
section SV
variable {p : Program} {l : Launch} {e : Env} {R : Room} {s : State} {m : MethodId} {args : Array Value} {below : List Frame} {meth : Method} {c : Code}
def sv_W (p : Program) (l : Launch) (e : Env) (R : Room) (s : State) (m : MethodId) (args : Array Value) (below : List Frame) (meth : Method) (c : Code) (G : sv_G) (Kr : Option sv_AV → sv_S → Prop) : sv_K := fun pc L S σ =>
  ∀ (H : Heap) (locs : List Loc) (ls : Array Slot), va_P G.1 vwCl (sv_wl G σ) H → va_S (sv_A G) s.heap H locs → sv_L (sv_ad G) ls L → (∀ v ∈ S, sv_ok v) → L.length = c.maxLocals →
    W p l e R s m args below meth c H locs R.cells R.slots (MQ below (sv_Q G Kr) args s R.cells R.slots (sv_A G)) (F0 m pc ls (S.map (sv_val (sv_ad G))))
def sv_Cx (p : Program) (s : State) (m : MethodId) (args : Array Value) (meth : Method) (c : Code) (own : String) (cc : ByteArray) (ret : Option FieldType) (G : sv_G) (gs : List Nat) : Prop :=
  p.tables.exec = Jvm.exec ∧ c.code = cc ∧ meth.sig.returnType = ret ∧ meth.locks = false ∧ s.vm.findClass own = some m.cls ∧ (∀ w ∈ sv_tb, w.before args s = true) ∧ va_K G.1 vwCl (sv_tys G) s ∧ (∀ σ, va_D (sv_A G) (sv_wl G σ)) ∧ sv_stt (sv_A G) (sv_ad G) s s.heap ∧ sv_nw s ∧ sv_XG gs G
/-- a call: of an object's method -/
def sv_COv (l : Launch) (own : String) (gs : List Nat) (fr lo : Nat) (idx na g : Nat) (sp : sv_P) : Prop :=
  ∀ (p : Program) (e : Env) (s : State) (m : MethodId) (args : Array Value) (below : List Frame) (meth : Method) (c : Code) (cc : ByteArray) (ret : Option FieldType) (G : sv_G) (Kr : Option sv_AV → sv_S → Prop) (cs sl : Nat), sv_Cx p s m args meth c own cc ret G gs →
    ∀ (pc : Nat) (L : List (Option sv_AV)) (as rest : List sv_AV) (σ : sv_S) (K' : Option sv_AV → sv_S → Prop), decode cc pc = .ok (.invokevirtual idx, 3) → as.length + 1 = na → g ∈ gs → sv_cs rest ≤ 8 → sp (.inr (.inr (g, 0)) :: as) σ K' →
      (∀ r σ', K' r σ' → sv_W p l e { frames := fr, cells := cs, slots := sl, locals := lo } s m args below meth c G Kr (pc + 3) L (sv_psh r rest) σ') → sv_W p l e { frames := fr, cells := cs, slots := sl, locals := lo } s m args below meth c G Kr pc L (as.reverse ++ .inr (.inr (g, 0)) :: rest) σ
/-- a call: of a static method -/
def sv_COs (l : Launch) (own : String) (gs : List Nat) (fr lo : Nat) (idx na : Nat) (sp : sv_P) : Prop :=
  ∀ (p : Program) (e : Env) (s : State) (m : MethodId) (args : Array Value) (below : List Frame) (meth : Method) (c : Code) (cc : ByteArray) (ret : Option FieldType) (G : sv_G) (Kr : Option sv_AV → sv_S → Prop) (cs sl : Nat), sv_Cx p s m args meth c own cc ret G gs →
    ∀ (pc : Nat) (L : List (Option sv_AV)) (as rest : List sv_AV) (σ : sv_S) (K' : Option sv_AV → sv_S → Prop), decode cc pc = .ok (.invokestatic idx, 3) → as.length = na → sv_cs rest ≤ 8 → sp as σ K' →
      (∀ r σ', K' r σ' → sv_W p l e { frames := fr, cells := cs, slots := sl, locals := lo } s m args below meth c G Kr (pc + 3) L (sv_psh r rest) σ') → sv_W p l e { frames := fr, cells := cs, slots := sl, locals := lo } s m args below meth c G Kr pc L (as.reverse ++ rest) σ
def sv_Tok (l : Launch) (own : String) (gs : List Nat) (fr lo : Nat) (T : sv_T) : Prop :=
  (∀ q ∈ T.1, q.2.1 < 6 ∧ q.2.2 < sv_ln q.2.1 ∧ sv_flw own q ∈ sv_tb) ∧
  (∀ q ∈ T.2.1, ∃ C n, (C, n, q.2) ∈ sv_sts ∧ (Cond.fieldLink own q.1 C n "[I" ∈ sv_tb ∨ ∃ h, (own, q.1, C, n, "[I", h) ∈ sv_nF)) ∧
  (∀ q ∈ T.2.2.1, Cond.constant own q.1 q.2 ∈ sv_tb) ∧ (∀ q ∈ T.2.2.2.1, Cond.constantLong own q.1 q.2 ∈ sv_tb) ∧
  (∀ q ∈ T.2.2.2.2, (q.2.2.1 < 90 → sv_COv l own gs fr lo q.1 q.2.1 q.2.2.1 q.2.2.2) ∧ (90 ≤ q.2.2.1 → sv_COs l own gs fr lo q.1 q.2.1 q.2.2.2))
end SV
