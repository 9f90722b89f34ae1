/-! values, states, specs -/
abbrev sv_AV : Type := Int32 ⊕ (Int64 ⊕ (Nat × Nat))
abbrev sv_S : Type := (Nat → Nat → Nat → Int32) × (Nat → Nat → Int64)
abbrev sv_P : Type := List sv_AV → sv_S → (Option sv_AV → sv_S → Prop) → Prop
abbrev sv_K : Type := Nat → List (Option sv_AV) → List sv_AV → sv_S → Prop
def sv_gA (σ : sv_S) (g i j : Nat) : Int32 := σ.1 g i j
def sv_gJ (σ : sv_S) (g k : Nat) : Int64 := σ.2 g k
def sv_sA (σ : sv_S) (g i j : Nat) (v : Int32) : sv_S := (fun g' i' j' => if g' = g ∧ i' = i ∧ j' = j then v else σ.1 g' i' j', σ.2)
def sv_sJ (σ : sv_S) (g k : Nat) (v : Int64) : sv_S := (σ.1, fun g' k' => if g' = g ∧ k' = k then v else σ.2 g' k')
def sv_kd (g : Nat) : Nat := sv_kdL.getD g 9
def sv_ln (g : Nat) : Nat := sv_lnL.getD g 0
def sv_ct (g : Nat) : Nat := sv_ctL.getD g 0
def sv_rw (g : Nat) : Nat := sv_rwL.getD g 0
def sv_fk (g k : Nat) : Nat := (sv_fkL.getD g []).getD k 0
def sv_tab (g j : Nat) : Int32 := (sv_stL.getD (g - sv_st0) []).getD j 0
def sv_cat (v : sv_AV) : Nat := match v with
  | .inl _ => 1
  | .inr (.inl _) => 2
  | .inr (.inr _) => 1
def sv_cs : List sv_AV → Nat
  | [] => 0
  | v :: l => sv_cat v + sv_cs l
def sv_ok (v : sv_AV) : Prop := match v with
  | .inl _ => True
  | .inr (.inl _) => True
  | .inr (.inr q) => q.2 < sv_ct q.1
def sv_okr (r : Option sv_AV) : Prop := match r with
  | none => True
  | some v => sv_ok v
def sv_val (ad : Nat → Nat → Nat) (v : sv_AV) : Value := match v with
  | .inl x => .int x
  | .inr (.inl y) => .long y
  | .inr (.inr q) => .ref (ad q.1 q.2)
def sv_fv (ad : Nat → Nat → Nat) (σ : sv_S) (g k : Nat) : Value := match sv_fk g k with
  | 0 => .int (sv_gA σ g 0 k)
  | 1 => .long (sv_gJ σ g k)
  | 2 => .int (sv_gA σ g 0 k)
  | n + 3 => .ref (ad n 0)
def sv_fa (σ : sv_S) (g k : Nat) : sv_AV := match sv_fk g k with
  | 0 => .inl (sv_gA σ g 0 k)
  | 1 => .inr (.inl (sv_gJ σ g k))
  | 2 => .inl (sv_gA σ g 0 k)
  | n + 3 => .inr (.inr (n, 0))
theorem sv_fa_val (ad : Nat → Nat → Nat) (σ : sv_S) (g k : Nat) : sv_val ad (sv_fa σ g k) = sv_fv ad σ g k := by
  unfold sv_fa sv_fv
  split <;> rfl
/-! the world -/
abbrev sv_G : Type := va_G × (Nat → Prop) × (Nat → Nat → Nat) × ClassId × ClassId × List (Nat × Nat)
def sv_A (G : sv_G) : Nat → Prop := G.2.1
def sv_ad (G : sv_G) : Nat → Nat → Nat := G.2.2.1
def sv_cI (G : sv_G) : ClassId := G.2.2.2.1
def sv_cJ (G : sv_G) : ClassId := G.2.2.2.2.1
def sv_X (G : sv_G) : List (Nat × Nat) := G.2.2.2.2.2
def sv_tys (G : sv_G) : List (ClassId × FieldType) := [(sv_cI G, .int), (sv_cJ G, .array .int)]
def sv_cell (G : sv_G) (σ : sv_S) (g i : Nat) : va_E := match sv_kd g with
  | 0 => .inr (g, (List.range (sv_ln g)).map (sv_fv (sv_ad G) σ g))
  | 1 => .inl (sv_cI G, sv_ln g, .inl (sv_gA σ g i))
  | _ => .inl (sv_cJ G, sv_ln g, .inr (.inr (.inr (.inr (fun j => if j < sv_ln g then some (sv_ad G (sv_rw g) j) else none)))))
def sv_wl (G : sv_G) (σ : sv_S) : va_W := (sv_X G).map (fun q => (sv_ad G q.1 q.2, sv_cell G σ q.1 q.2))
theorem sv_wl_at {G : sv_G} {g i : Nat} (h : (g, i) ∈ sv_X G) : ∃ k : Nat, (sv_X G)[k]? = some (g, i) ∧ ∀ σ, (sv_wl G σ)[k]? = some (sv_ad G g i, sv_cell G σ g i) := by
  obtain ⟨k, hk⟩ := List.getElem?_of_mem h
  exact ⟨k, hk, fun σ => by unfold sv_wl; rw [List.getElem?_map, hk]; rfl⟩
theorem sv_wl_set {G : sv_G} {σ σ' : sv_S} {A : Nat → Prop} {g i k : Nat} (hD : va_D A (sv_wl G σ)) (hk : (sv_X G)[k]? = some (g, i)) (hne : ∀ q ∈ sv_X G, ¬ (q.1 = g ∧ q.2 = i) → sv_cell G σ' q.1 q.2 = sv_cell G σ q.1 q.2) :
    (sv_wl G σ).set k (sv_ad G g i, sv_cell G σ' g i) = sv_wl G σ' := by
  have hl : k < (sv_wl G σ).length := by
    unfold sv_wl
    rw [List.length_map]
    exact (List.getElem?_eq_some_iff.mp hk).1
  have hwk : (sv_wl G σ)[k]? = some (sv_ad G g i, sv_cell G σ g i) := by unfold sv_wl; rw [List.getElem?_map, hk]; rfl
  apply List.ext_getElem?
  intro n
  by_cases hn : n = k
  · subst hn
    rw [List.getElem?_set_self hl]
    unfold sv_wl
    rw [List.getElem?_map, hk]
    rfl
  · rw [List.getElem?_set_ne (Ne.symm hn)]
    unfold sv_wl
    rw [List.getElem?_map, List.getElem?_map]
    cases hq : (sv_X G)[n]? with
    | none => rfl
    | some q =>
      have hwn : (sv_wl G σ)[n]? = some (sv_ad G q.1 q.2, sv_cell G σ q.1 q.2) := by unfold sv_wl; rw [List.getElem?_map, hq]; rfl
      have hq2 : ¬ (q.1 = g ∧ q.2 = i) := fun z => by
        refine hn (hD.1 n k _ _ hwn hwk ?_)
        rw [z.1, z.2]
      show some (sv_ad G q.1 q.2, sv_cell G σ q.1 q.2) = some (sv_ad G q.1 q.2, sv_cell G σ' q.1 q.2)
      rw [hne q (List.mem_of_getElem? hq) hq2]
theorem sv_D_any {G : sv_G} {A : Nat → Prop} {σ : sv_S} (h : va_D A (sv_wl G σ)) (σ' : sv_S) : va_D A (sv_wl G σ') := by
  have key : ∀ (k : Nat) (p : Nat × va_E), (sv_wl G σ')[k]? = some p → ∃ q, (sv_wl G σ)[k]? = some q ∧ q.1 = p.1 := by
    intro k p hp
    unfold sv_wl at hp ⊢
    rw [List.getElem?_map] at hp ⊢
    cases hq : (sv_X G)[k]? with
    | none => rw [hq] at hp; cases hp
    | some q =>
      rw [hq] at hp
      cases hp
      exact ⟨_, rfl, rfl⟩
  refine ⟨fun i j p q hi hj hpq => ?_, fun k q hk => ?_⟩
  · obtain ⟨p0, h1, h2⟩ := key i p hi
    obtain ⟨q0, h3, h4⟩ := key j q hj
    exact h.1 i j p0 q0 h1 h3 (h2.trans (hpq.trans h4.symm))
  · obtain ⟨q0, h1, h2⟩ := key k q hk
    rw [← h2]
    exact h.2 k q0 h1
def sv_stt (A : Nat → Prop) (ad : Nat → Nat → Nat) (U : State) (H : Heap) : Prop := ∀ q ∈ sv_sts, va_Z q.1 q.2.1 "[I" (.ref (ad q.2.2 0)) A U H ∧ va_T .int (ad q.2.2 0) (sv_ln q.2.2) (fun j => .int (sv_tab q.2.2 j)) A U H
def sv_nw (U : State) : Prop := (∀ q ∈ sv_nM, va_Nw (.methodLinkNest q.1 q.2.1 q.2.2.1 q.2.2.2) U) ∧ (∀ q ∈ sv_nF, va_Nw (.fieldLinkNest q.1 q.2.1 q.2.2.1 q.2.2.2.1 q.2.2.2.2.1 q.2.2.2.2.2) U)
def sv_WD (G : sv_G) (σ : sv_S) (U : State) : Prop := va_P G.1 vwCl (sv_wl G σ) U.heap ∧ va_K G.1 vwCl (sv_tys G) U ∧ va_D (sv_A G) (sv_wl G σ) ∧ sv_stt (sv_A G) (sv_ad G) U U.heap ∧ sv_nw U
def sv_Q (G : sv_G) (K : Option sv_AV → sv_S → Prop) : Array Value → State → Outcome → State → Prop := fun _ st oc t => (∃ (r : Option sv_AV) (σ' : sv_S), oc = .returned (r.map (sv_val (sv_ad G))) ∧ sv_okr r ∧ K r σ' ∧ sv_WD G σ' t) ∧ va_F (sv_A G) st t
def sv_tb : List Cond := lw_tbl.filter goodWord
theorem sv_mem {w : Cond} (i : Nat) (h : lw_tbl[i]? = some w) (hg : goodWord w = true) : w ∈ sv_tb := List.mem_filter.mpr ⟨List.mem_of_getElem? h, hg⟩
theorem sv_mems {ws : List Cond} (ps : List Nat) (h : ws = ps.filterMap (fun i => lw_tbl[i]?)) (hg : ws.all goodWord = true) : ∀ w ∈ ws, w ∈ sv_tb := fun w hw => by
  refine List.mem_filter.mpr ⟨?_, List.all_eq_true.mp hg w hw⟩
  rw [h] at hw
  obtain ⟨i, -, hi⟩ := List.mem_filterMap.mp hw
  exact List.mem_of_getElem? hi
def sv_ws (y : MethodName) (cc : ByteArray) (maxL : Nat) (ret : Option FieldType) : List Cond := .code y cc maxL ret :: sv_tb
theorem sv_good {y y' : MethodName} {cc cc' : ByteArray} {maxL maxL' : Nat} {ret ret' : Option FieldType} (h : Cond.code y' cc' maxL' ret' ∈ sv_tb) : GoodIn (sv_ws y cc maxL ret) (sv_ws y' cc' maxL' ret') := by
  intro w hw
  have hw2 : w ∈ sv_tb := by
    rcases List.mem_cons.mp hw with rfl | h2
    · exact h
    · exact h2
  exact ⟨List.mem_cons_of_mem _ hw2, good_of_word (List.mem_filter.mp hw2).2⟩
def sv_XG (gs : List Nat) (G : sv_G) : Prop := (∀ q ∈ sv_X G, q.2 < sv_ct q.1) ∧ ∀ g ∈ gs, ∀ i, i < sv_ct g → (g, i) ∈ sv_X G
/-- a method's contract, by its spec -/
def sv_C (l : Launch) (y : MethodName) (cc : ByteArray) (maxL : Nat) (ret : Option FieldType) (gs : List Nat) (fr lo : Nat) (sp : sv_P) : Prop :=
  ∀ (G : sv_G) (av : List sv_AV) (σ : sv_S) (K : Option sv_AV → sv_S → Prop), sv_XG gs G → (∀ v ∈ av, sv_ok v) → sp av σ K →
    Met l y (sv_ws y cc maxL ret) ({ frames := fr, cells := 0, slots := 0, locals := lo }) (va_Pc (av.map (sv_val (sv_ad G))) (sv_WD G σ)) (sv_Q G K) 0 0 (sv_A G)
/-! the conditions of a step -/
def sv_l3 {α : Type} : List (Nat × α) → Nat → Option α
  | [], _ => none
  | q :: l, i => match Nat.beq q.1 i with
    | true => some q.2
    | false => sv_l3 l i
theorem sv_l3_mem {α : Type} : ∀ (l : List (Nat × α)) (i : Nat) (v : α), sv_l3 l i = some v → (i, v) ∈ l
  | [], i, v, h => by cases h
  | q :: l, i, v, h => by
    unfold sv_l3 at h
    cases hb : Nat.beq q.1 i with
    | true =>
      rw [hb] at h
      have e : q.1 = i := Nat.eq_of_beq_eq_true hb
      have e2 : q.2 = v := Option.some.inj h
      rw [← e, ← e2]
      exact List.mem_cons_self
    | false =>
      rw [hb] at h
      exact List.mem_cons_of_mem _ (sv_l3_mem l i v h)
def sv_in : List Nat → Nat → Bool
  | [], _ => false
  | a :: l, i => match Nat.beq a i with
    | true => true
    | false => sv_in l i
theorem sv_in_mem : ∀ (l : List Nat) (i : Nat), sv_in l i = true → i ∈ l
  | [], i, h => by cases h
  | a :: l, i, h => by
    unfold sv_in at h
    cases hb : Nat.beq a i with
    | true => rw [← Nat.eq_of_beq_eq_true hb]; exact List.mem_cons_self
    | false =>
      rw [hb] at h
      exact List.mem_cons_of_mem _ (sv_in_mem l i h)
def sv_lo : List (Option sv_AV) → Nat → Option sv_AV
  | [], _ => none
  | o :: _, 0 => o
  | _ :: l, n + 1 => sv_lo l n
theorem sv_lo_get : ∀ (L : List (Option sv_AV)) (i : Nat) (v : sv_AV), sv_lo L i = some v → L[i]? = some (some v)
  | [], i, v, h => by cases h
  | o :: l, 0, v, h => by
    have h : o = some v := h
    rw [h]; rfl
  | o :: l, n + 1, v, h => by
    rw [List.getElem?_cons_succ]
    exact sv_lo_get l n v h
def sv_pI (S : List sv_AV) (f : Int32 → List sv_AV → Prop) : Prop := match S with
  | .inl x :: S' => f x S'
  | _ => False
def sv_pL (S : List sv_AV) (f : Int64 → List sv_AV → Prop) : Prop := match S with
  | .inr (.inl x) :: S' => f x S'
  | _ => False
def sv_pR (S : List sv_AV) (f : Nat → Nat → List sv_AV → Prop) : Prop := match S with
  | .inr (.inr (g, i)) :: S' => f g i S'
  | _ => False
theorem sv_pI_of {S : List sv_AV} {f : Int32 → List sv_AV → Prop} (h : sv_pI S f) : ∃ x S', S = .inl x :: S' ∧ f x S' := by
  unfold sv_pI at h
  split at h
  · exact ⟨_, _, rfl, h⟩
  · exact h.elim
theorem sv_pL_of {S : List sv_AV} {f : Int64 → List sv_AV → Prop} (h : sv_pL S f) : ∃ x S', S = .inr (.inl x) :: S' ∧ f x S' := by
  unfold sv_pL at h
  split at h
  · exact ⟨_, _, rfl, h⟩
  · exact h.elim
theorem sv_pR_of {S : List sv_AV} {f : Nat → Nat → List sv_AV → Prop} (h : sv_pR S f) : ∃ g i S', S = .inr (.inr (g, i)) :: S' ∧ f g i S' := by
  unfold sv_pR at h
  split at h
  · exact ⟨_, _, _, rfl, h⟩
  · exact h.elim
def sv_jp (pc : Nat) (off : Int) (k : Nat → Prop) : Prop := match ((pc : Int) + off) with
  | .ofNat t => k t
  | .negSucc _ => False
theorem sv_jp_of {pc : Nat} {off : Int} {k : Nat → Prop} (h : sv_jp pc off k) : ∃ t : Nat, (pc : Int) + off = (t : Int) ∧ k t := by
  unfold sv_jp at h
  split at h
  · rename_i t e
    exact ⟨t, e, h⟩
  · exact h.elim
def sv_br (c : ClassFile.Cond) (x y : Int32) (kt kf : Prop) : Prop := match c with
  | .eq => (x = y → kt) ∧ (¬ x = y → kf)
  | .ne => (¬ x = y → kt) ∧ (x = y → kf)
  | .lt => (x < y → kt) ∧ (¬ x < y → kf)
  | .ge => (y ≤ x → kt) ∧ (¬ y ≤ x → kf)
  | .gt => (y < x → kt) ∧ (¬ y < x → kf)
  | .le => (x ≤ y → kt) ∧ (¬ x ≤ y → kf)
def sv_sw (pc : Nat) (k : Nat → Prop) (x : Int) : Int → List Int → Prop
  | _, [] => True
  | lo, o :: os => (x = lo → sv_jp pc o k) ∧ sv_sw pc k x (lo + 1) os
def sv_mk : List Bool → List (Option sv_AV) → List (Option sv_AV)
  | true :: bs, o :: l => o :: sv_mk bs l
  | false :: bs, _ :: l => none :: sv_mk bs l
  | _, l => l
def sv_psh (r : Option sv_AV) (S : List sv_AV) : List sv_AV := match r with
  | some v => v :: S
  | none => S
def sv_av : Nat → List sv_AV → List sv_AV → Option (List sv_AV × List sv_AV)
  | 0, S, acc => some (acc, S)
  | n + 1, v :: S, acc => sv_av n S (v :: acc)
  | _ + 1, [], _ => none
theorem sv_av_of : ∀ (n : Nat) (S acc av rest : List sv_AV), sv_av n S acc = some (av, rest) → acc.reverse ++ S = av.reverse ++ rest ∧ av.length = acc.length + n
  | 0, S, acc, av, rest, h => by
    cases h
    exact ⟨rfl, rfl⟩
  | n + 1, [], acc, av, rest, h => by cases h
  | n + 1, v :: S, acc, av, rest, h => by
    obtain ⟨h1, h2⟩ := sv_av_of n S (v :: acc) av rest h
    refine ⟨?_, by rw [h2, List.length_cons]; omega⟩
    rw [← h1, List.reverse_cons, List.append_assoc]
    rfl
def sv_rc (g : Nat) (av : List sv_AV) : Bool := match av with
  | .inr (.inr (g', i)) :: _ => Nat.beq g' g && Nat.beq i 0
  | _ => false
theorem sv_rc_of {g : Nat} {av : List sv_AV} (h : sv_rc g av = true) : ∃ as, av = .inr (.inr (g, 0)) :: as := by
  unfold sv_rc at h
  split at h
  · rename_i g' i as
    simp only [Bool.and_eq_true] at h
    rw [Nat.eq_of_beq_eq_true h.1, Nat.eq_of_beq_eq_true h.2]
    exact ⟨as, rfl⟩
  · cases h
abbrev sv_T : Type := List (Nat × (Nat × Nat)) × List (Nat × Nat) × List (Nat × Int32) × List (Nat × Int64) × List (Nat × (Nat × Nat × sv_P))
def sv_lc (L : List (Option sv_AV)) (i : Nat) (k : List (Option sv_AV) → Prop) (v : sv_AV) : Prop := match Nat.blt i L.length with
  | true => k (L.set i (some v))
  | false => False
def sv_ldI (L : List (Option sv_AV)) (i : Nat) (k : Int32 → Prop) : Prop := match sv_lo L i with
  | some (.inl x) => k x
  | _ => False
def sv_ldR (L : List (Option sv_AV)) (i : Nat) (k : Nat × Nat → Prop) : Prop := match sv_lo L i with
  | some (.inr (.inr q)) => k q
  | _ => False
def sv_ex {α : Type} (o : Option α) (k : α → Prop) : Prop := match o with
  | some a => k a
  | none => False
def sv_ch (b : Bool) (k : Prop) : Prop := match b with
  | true => k
  | false => False
def sv_al (S : List sv_AV) (k : Prop) : Prop := match S with
  | [] => k
  | _ => False
def sv_rt (ret : Option FieldType) (v : Int32) (k : Prop) : Prop := match ret with
  | some .int => k
  | some .boolean => narrow .boolean (.int v) = .int v ∧ k
  | _ => False
def sv_pf (g k : Nat) (v : Int32) (q : Prop) : Prop := match sv_fk g k with
  | 0 => q
  | 2 => (narrow .boolean (.int v) = .int v ∧ fits .boolean (.int v) = true) ∧ q
  | _ => False
def sv_arr (g : Nat) (o a r st : Prop) : Prop := match sv_kd g with
  | 0 => o
  | 1 => a
  | 2 => r
  | 3 => st
  | _ => False
/-- what is to be shown at an instruction: K of the state behind it -/
def sv_ins (T : sv_T) (gs : List Nat) (ret : Option FieldType) (Kr : Option sv_AV → sv_S → Prop) (K : sv_K) (pc : Nat) (i : Instr) (L : List (Option sv_AV)) (S : List sv_AV) (σ : sv_S) : Prop := match i with
  | .iconst v => K (pc + 1) L (.inl (Int32.ofInt v) :: S) σ
  | .bipush v => K (pc + 2) L (.inl (Int8.ofInt v).toInt32 :: S) σ
  | .sipush v => K (pc + 3) L (.inl (Int16.ofInt v).toInt32 :: S) σ
  | .lconst v => K (pc + 1) L (.inr (.inl (Int64.ofNat v)) :: S) σ
  | .ldc q => sv_ex (sv_l3 T.2.2.1 q) fun v => K (pc + 2) L (.inl v :: S) σ
  | .ldc_w q => sv_ex (sv_l3 T.2.2.1 q) fun v => K (pc + 3) L (.inl v :: S) σ
  | .ldc2_w q => sv_ex (sv_l3 T.2.2.2.1 q) fun v => K (pc + 3) L (.inr (.inl v) :: S) σ
  | .iload n => sv_ldI L n fun x => K (pc + 2) L (.inl x :: S) σ
  | .iload_n n => sv_ldI L n fun x => K (pc + 1) L (.inl x :: S) σ
  | .aload n => sv_ldR L n fun q => K (pc + 2) L (.inr (.inr q) :: S) σ
  | .aload_n n => sv_ldR L n fun q => K (pc + 1) L (.inr (.inr q) :: S) σ
  | .istore n => sv_pI S fun x S => sv_lc L n (fun L => K (pc + 2) L S σ) (.inl x)
  | .istore_n n => sv_pI S fun x S => sv_lc L n (fun L => K (pc + 1) L S σ) (.inl x)
  | .astore n => sv_pR S fun g i S => sv_lc L n (fun L => K (pc + 2) L S σ) (.inr (.inr (g, i)))
  | .astore_n n => sv_pR S fun g i S => sv_lc L n (fun L => K (pc + 1) L S σ) (.inr (.inr (g, i)))
  | .iinc n v => sv_ldI L n fun x => K (pc + 3) (L.set n (some (.inl (x + Int32.ofInt v)))) S σ
  | .iadd => sv_pI S fun y S => sv_pI S fun x S => K (pc + 1) L (.inl (x + y) :: S) σ
  | .isub => sv_pI S fun y S => sv_pI S fun x S => K (pc + 1) L (.inl (x - y) :: S) σ
  | .imul => sv_pI S fun y S => sv_pI S fun x S => K (pc + 1) L (.inl (x * y) :: S) σ
  | .iand => sv_pI S fun y S => sv_pI S fun x S => K (pc + 1) L (.inl (x &&& y) :: S) σ
  | .ior => sv_pI S fun y S => sv_pI S fun x S => K (pc + 1) L (.inl (x ||| y) :: S) σ
  | .ixor => sv_pI S fun y S => sv_pI S fun x S => K (pc + 1) L (.inl (x ^^^ y) :: S) σ
  | .idiv => sv_pI S fun y S => sv_pI S fun x S => ¬ y = 0 ∧ K (pc + 1) L (.inl (x / y) :: S) σ
  | .irem => sv_pI S fun y S => sv_pI S fun x S => ¬ y = 0 ∧ K (pc + 1) L (.inl (x - x / y * y) :: S) σ
  | .ishl => sv_pI S fun y S => sv_pI S fun x S => K (pc + 1) L (.inl (x <<< (y &&& 31)) :: S) σ
  | .ishr => sv_pI S fun y S => sv_pI S fun x S => K (pc + 1) L (.inl (x >>> (y &&& 31)) :: S) σ
  | .iushr => sv_pI S fun y S => sv_pI S fun x S => K (pc + 1) L (.inl (x.toUInt32 >>> (y.toUInt32 &&& Int32.toUInt32 31)).toInt32 :: S) σ
  | .lsub => sv_pL S fun y S => sv_pL S fun x S => K (pc + 1) L (.inr (.inl (x - y)) :: S) σ
  | .land => sv_pL S fun y S => sv_pL S fun x S => K (pc + 1) L (.inr (.inl (x &&& y)) :: S) σ
  | .lor => sv_pL S fun y S => sv_pL S fun x S => K (pc + 1) L (.inr (.inl (x ||| y)) :: S) σ
  | .lxor => sv_pL S fun y S => sv_pL S fun x S => K (pc + 1) L (.inr (.inl (x ^^^ y)) :: S) σ
  | .lshl => sv_pI S fun y S => sv_pL S fun x S => K (pc + 1) L (.inr (.inl (x <<< (y.toInt64 &&& 63))) :: S) σ
  | .lcmp => sv_pL S fun y S => sv_pL S fun x S => K (pc + 1) L (.inl (lg_cmp x y) :: S) σ
  | .dup => match S with
    | v :: S' => sv_ch (Nat.beq (sv_cat v) 1) (K (pc + 1) L (v :: v :: S') σ)
    | [] => False
  | .pop => match S with
    | v :: S' => sv_ch (Nat.beq (sv_cat v) 1) (K (pc + 1) L S' σ)
    | [] => False
  | .ifCond c o => sv_pI S fun x S => sv_jp pc o fun t => sv_br c x 0 (K t L S σ) (K (pc + 3) L S σ)
  | .if_icmp c o => sv_pI S fun y S => sv_pI S fun x S => sv_jp pc o fun t => sv_br c x y (K t L S σ) (K (pc + 3) L S σ)
  | .goto o => sv_jp pc o fun t => K t L S σ
  | .tableswitch d lo hi os => sv_pI S fun x S => ((x.toInt < lo ∨ hi < x.toInt) → sv_jp pc d fun t => K t L S σ) ∧ (hi - lo + 1 = os.toList.length ∧ sv_sw pc (fun t => K t L S σ) x.toInt lo os.toList)
  | .getfield q => sv_pR S fun g j S => sv_ex (sv_l3 T.1 q) fun f => sv_ch (Nat.beq f.1 g && Nat.beq j 0 && sv_in gs g) (K (pc + 3) L (sv_fa σ g f.2 :: S) σ)
  | .putfield q => match S with
    | .inl v :: S => sv_pR S fun g j S => sv_ex (sv_l3 T.1 q) fun f => sv_ch (Nat.beq f.1 g && Nat.beq j 0 && sv_in gs g) (sv_pf g f.2 v (K (pc + 3) L S (sv_sA σ g 0 f.2 v)))
    | .inr (.inl v) :: S => sv_pR S fun g j S => sv_ex (sv_l3 T.1 q) fun f => sv_ch (Nat.beq f.1 g && Nat.beq j 0 && sv_in gs g && Nat.beq (sv_fk g f.2) 1) (K (pc + 3) L S (sv_sJ σ g f.2 v))
    | _ => False
  | .getstatic q => sv_ex (sv_l3 T.2.1 q) fun g => K (pc + 3) L (.inr (.inr (g, 0)) :: S) σ
  | .arraylength => sv_pR S fun g _ S => sv_ch (Nat.beq (sv_kd g) 1 && sv_in gs g) (K (pc + 1) L (.inl (Int32.ofNat (sv_ln g)) :: S) σ)
  | .iaload => sv_pI S fun j S => sv_pR S fun g i S => sv_arr g False (sv_ch (sv_in gs g) (vp_in j (sv_ln g) ∧ K (pc + 1) L (.inl (sv_gA σ g i j.toNatClampNeg) :: S) σ)) False (sv_ch (Nat.beq i 0) (vp_in j (sv_ln g) ∧ K (pc + 1) L (.inl (sv_tab g j.toNatClampNeg) :: S) σ))
  | .iastore => sv_pI S fun v S => sv_pI S fun j S => sv_pR S fun g i S => sv_arr g False (sv_ch (sv_in gs g) (vp_in j (sv_ln g) ∧ K (pc + 1) L S (sv_sA σ g i j.toNatClampNeg v))) False False
  | .aaload => sv_pI S fun j S => sv_pR S fun g _ S => sv_arr g False False (sv_ch (sv_in gs g && Nat.beq (sv_ln g) (sv_ct (sv_rw g))) (vp_in j (sv_ln g) ∧ K (pc + 1) L (.inr (.inr (sv_rw g, j.toNatClampNeg)) :: S) σ)) False
  | .invokevirtual q => sv_ex (sv_l3 T.2.2.2.2 q) fun f => sv_ex (sv_av f.1 S []) fun z => sv_ch (sv_rc f.2.1 z.1 && Nat.ble (sv_cs z.2) 8 && sv_in gs f.2.1 && Nat.blt f.2.1 90) (f.2.2 z.1 σ fun r σ => K (pc + 3) L (sv_psh r z.2) σ)
  | .invokestatic q => sv_ex (sv_l3 T.2.2.2.2 q) fun f => sv_ex (sv_av f.1 S []) fun z => sv_ch (Nat.ble (sv_cs z.2) 8 && Nat.ble 90 f.2.1) (f.2.2 z.1 σ fun r σ => K (pc + 3) L (sv_psh r z.2) σ)
  | .ireturn => sv_pI S fun v S => sv_al S (sv_rt ret v (Kr (some (.inl v)) σ))
  | .lreturn => sv_pL S fun v S => sv_al S (ret = some .long ∧ Kr (some (.inr (.inl v))) σ)
  | .return_ => sv_al S (ret = none ∧ Kr none σ)
  | _ => False
def sv_ex2 (o : Option (Instr × Nat)) (k : Instr → Prop) : Prop := match o with
  | some (i, _) => k i
  | none => False
def sv_vc (tb : List (Nat × (Instr × Nat))) (T : sv_T) (gs : List Nat) (ret : Option FieldType) (Kr : Option sv_AV → sv_S → Prop) (stops : List (Nat × List Bool)) (K : sv_K) : Nat → sv_K
  | 0, pc, L, S, σ => K pc L S σ
  | n + 1, pc, L, S, σ => sv_ex2 (sv_l3 tb pc) fun i => sv_ins T gs ret Kr (fun pc L S σ => match sv_l3 stops pc with
    | some bs => K pc (sv_mk bs L) S σ
    | none => sv_vc tb T gs ret Kr stops K n pc L S σ) pc i L S σ
def sv_len (i : Instr) (n : Nat) : Bool := match i with
  | .bipush _ => n == 2
  | .sipush _ => n == 3
  | .ldc _ => n == 2
  | .ldc_w _ => n == 3
  | .ldc2_w _ => n == 3
  | .iload _ => n == 2
  | .aload _ => n == 2
  | .istore _ => n == 2
  | .astore _ => n == 2
  | .iinc _ _ => n == 3
  | .ifCond _ _ => n == 3
  | .if_icmp _ _ => n == 3
  | .goto _ => n == 3
  | .tableswitch _ _ _ _ => true
  | .getfield _ => n == 3
  | .putfield _ => n == 3
  | .getstatic _ => n == 3
  | .invokevirtual _ => n == 3
  | .invokestatic _ => n == 3
  | .invokespecial _ => n == 3
  | .new _ => n == 3
  | .newarray _ => n == 2
  | .multianewarray _ _ => n == 4
  | _ => n == 1
def sv_tbok (cc : ByteArray) (tb : List (Nat × (Instr × Nat))) : Bool := tb.all fun q => decide (decode cc q.1 = .ok q.2) && sv_len q.2.1 q.2.2
theorem sv_tbok_at {cc : ByteArray} {tb : List (Nat × (Instr × Nat))} (h : sv_tbok cc tb = true) {pc : Nat} {i : Instr} {n : Nat} (hl : sv_l3 tb pc = some (i, n)) : decode cc pc = .ok (i, n) ∧ sv_len i n = true := by
  have h1 := List.all_eq_true.mp h (pc, (i, n)) (sv_l3_mem tb pc (i, n) hl)
  simp only [Bool.and_eq_true, decide_eq_true_eq] at h1
  exact h1
