-- ==== X5_within
def sp_X5_within : sv_P := fun av σ K => match av with
  | [.inl v, .inl least, .inl most] => ((least ≤ v ∧ v ≤ most → K (some (.inl (1 : Int32))) σ) ∧ (¬ (least ≤ v ∧ v ≤ most) → K (some (.inl (0 : Int32))) σ))
  | _ => False
def tb_X5_within : List (Nat × (Instr × Nat)) := [(0, (.iload_n 0, 1)), (1, (.iload_n 1, 1)), (2, (.if_icmp .lt 12, 3)), (5, (.iload_n 0, 1)), (6, (.iload_n 2, 1)), (7, (.if_icmp .gt 7, 3)), (10, (.iconst 1, 1)), (11, (.goto 4, 3)), (14, (.iconst 0, 1)), (15, (.ireturn, 1))]
set_option maxRecDepth 100000 in
theorem tbk_X5_within : sv_tbok cX5_within tb_X5_within = true := by decide +kernel
def cal_X5_within : List (Nat × (Nat × Nat × sv_P)) := []
def T_X5_within : sv_T := (flX5, sfX5, kcX5, klX5, cal_X5_within)
set_option maxRecDepth 100000 in
theorem Tok_X5_within (l : Launch) : sv_Tok l RX5 [] 0 0 T_X5_within := ⟨flokX5, sfokX5, kcokX5, klokX5, fun _ h => absurd h List.not_mem_nil⟩
theorem kw_X5_within : Cond.static yX5_within ∈ sv_tb ∧ Cond.initialized yX5_within.cls ∈ sv_tb ∧ Cond.code yX5_within cX5_within 3 (some .boolean) ∈ sv_tb := ⟨sv_mem 624 (by decide +kernel) rfl, sv_mem 56 (by decide +kernel) rfl, sv_mem 625 (by decide +kernel) rfl⟩
theorem kd_X5_within : yX5_within.cls ≠ "java/lang/invoke/MethodHandle" ∧ yX5_within.cls ≠ "java/lang/invoke/VarHandle" ∧ (parseMethodDescriptor yX5_within.desc).map (fun d => d.parameters.length) = some 3 := by decide +kernel
def F_X5_within_0 (Wk : sv_K) (Kr : Option sv_AV → sv_S → Prop) (v : Int32) (least : Int32) (most : Int32) (σ : sv_S) : Prop := ((v < least → Kr (some (.inl (0 : Int32))) σ) ∧ (¬ v < least → ((most < v → Kr (some (.inl (0 : Int32))) σ) ∧ (¬ most < v → Kr (some (.inl (1 : Int32))) σ))))
set_option maxRecDepth 100000 in
theorem bk_X5_within_0 (Wk : sv_K) (Kr : Option sv_AV → sv_S → Prop) (v : Int32) (least : Int32) (most : Int32) (σ : sv_S) (h : F_X5_within_0 Wk Kr v least most σ) : sv_vc tb_X5_within T_X5_within [] (some .boolean) Kr [] Wk 500 0 [some (.inl v), some (.inl least), some (.inl most)] [] σ := ⟨fun z2 => ⟨rfl, ((h).1 z2)⟩, fun z2 => ⟨fun z1 => ⟨rfl, ((((h).2 z2)).1 z1)⟩, fun z1 => ⟨rfl, ((((h).2 z2)).2 z1)⟩⟩⟩
set_option maxRecDepth 100000 in
theorem m_X5_within (l : Launch) (hb : ∀ (Wk : sv_K) (Kr : Option sv_AV → sv_S → Prop), (∀ (v : Int32) (least : Int32) (most : Int32) (σ : sv_S), F_X5_within_0 Wk Kr v least most σ → Wk 0 [some (.inl v), some (.inl least), some (.inl most)] [] σ) → (∀ (v : Int32) (least : Int32) (most : Int32) (σ : sv_S), (((least ≤ v ∧ v ≤ most → Kr (some (.inl (1 : Int32))) σ) ∧ (¬ (least ≤ v ∧ v ≤ most) → Kr (some (.inl (0 : Int32))) σ))) → Wk 0 [some (.inl v), some (.inl least), some (.inl most)] [] σ)) : sv_C l yX5_within cX5_within 3 (some .boolean) [] 0 0 sp_X5_within := by
  refine sv_meth sv_clok_all tb_X5_within T_X5_within (by decide) tbk_X5_within (Tok_X5_within l) ?_
  intro Wk Kr hc av σ hsp
  have hB := hb Wk Kr (fun v least most σ h => hc [] 500 0 _ _ _ (bk_X5_within_0 Wk Kr v least most σ h))
  unfold sp_X5_within at hsp
  split at hsp
  · exact ⟨⟨by simp, by simp [sv_cat]⟩, hB _ _ _ _ hsp⟩
  · exact hsp.elim
set_option maxHeartbeats 4000000 in
set_option maxRecDepth 100000 in
theorem c_X5_within (l : Launch) : sv_C l yX5_within cX5_within 3 (some .boolean) [] 0 0 sp_X5_within := by
  refine m_X5_within l ?_
  intro Wk Kr e0 v least most σ ⟨h1, h0⟩
  apply e0
  exact ⟨fun z => h0 (fun q => absurd q.1 (Int32.not_le.mpr z)), fun z => ⟨fun y => h0 (fun q => absurd q.2 (Int32.not_le.mpr y)), fun y => h1 ⟨Int32.not_lt.mp z, Int32.not_lt.mp y⟩⟩⟩
-- ==== X5_has
def sp_X5_has : sv_P := fun av σ K => match av with
  | [.inl set, .inl t] => (((set >>> (t &&& 31)) &&& 1 = 1 → K (some (.inl (1 : Int32))) σ) ∧ (¬ (set >>> (t &&& 31)) &&& 1 = 1 → K (some (.inl (0 : Int32))) σ))
  | _ => False
def tb_X5_has : List (Nat × (Instr × Nat)) := [(0, (.iload_n 0, 1)), (1, (.iload_n 1, 1)), (2, (.ishr, 1)), (3, (.iconst 1, 1)), (4, (.iand, 1)), (5, (.iconst 1, 1)), (6, (.if_icmp .ne 7, 3)), (9, (.iconst 1, 1)), (10, (.goto 4, 3)), (13, (.iconst 0, 1)), (14, (.ireturn, 1))]
set_option maxRecDepth 100000 in
theorem tbk_X5_has : sv_tbok cX5_has tb_X5_has = true := by decide +kernel
def cal_X5_has : List (Nat × (Nat × Nat × sv_P)) := []
def T_X5_has : sv_T := (flX5, sfX5, kcX5, klX5, cal_X5_has)
set_option maxRecDepth 100000 in
theorem Tok_X5_has (l : Launch) : sv_Tok l RX5 [] 0 0 T_X5_has := ⟨flokX5, sfokX5, kcokX5, klokX5, fun _ h => absurd h List.not_mem_nil⟩
theorem kw_X5_has : Cond.static yX5_has ∈ sv_tb ∧ Cond.initialized yX5_has.cls ∈ sv_tb ∧ Cond.code yX5_has cX5_has 2 (some .boolean) ∈ sv_tb := ⟨sv_mem 702 (by decide +kernel) rfl, sv_mem 56 (by decide +kernel) rfl, sv_mem 703 (by decide +kernel) rfl⟩
theorem kd_X5_has : yX5_has.cls ≠ "java/lang/invoke/MethodHandle" ∧ yX5_has.cls ≠ "java/lang/invoke/VarHandle" ∧ (parseMethodDescriptor yX5_has.desc).map (fun d => d.parameters.length) = some 2 := by decide +kernel
def F_X5_has_0 (Wk : sv_K) (Kr : Option sv_AV → sv_S → Prop) (set : Int32) (t : Int32) (σ : sv_S) : Prop := ((¬ ((set >>> (t &&& 31)) &&& (1 : Int32)) = (1 : Int32) → Kr (some (.inl (0 : Int32))) σ) ∧ (((set >>> (t &&& 31)) &&& (1 : Int32)) = (1 : Int32) → Kr (some (.inl (1 : Int32))) σ))
set_option maxRecDepth 100000 in
theorem bk_X5_has_0 (Wk : sv_K) (Kr : Option sv_AV → sv_S → Prop) (set : Int32) (t : Int32) (σ : sv_S) (h : F_X5_has_0 Wk Kr set t σ) : sv_vc tb_X5_has T_X5_has [] (some .boolean) Kr [] Wk 500 0 [some (.inl set), some (.inl t)] [] σ := ⟨fun z1 => ⟨rfl, ((h).1 z1)⟩, fun z1 => ⟨rfl, ((h).2 z1)⟩⟩
set_option maxRecDepth 100000 in
theorem m_X5_has (l : Launch) (hb : ∀ (Wk : sv_K) (Kr : Option sv_AV → sv_S → Prop), (∀ (set : Int32) (t : Int32) (σ : sv_S), F_X5_has_0 Wk Kr set t σ → Wk 0 [some (.inl set), some (.inl t)] [] σ) → (∀ (set : Int32) (t : Int32) (σ : sv_S), ((((set >>> (t &&& 31)) &&& 1 = 1 → Kr (some (.inl (1 : Int32))) σ) ∧ (¬ (set >>> (t &&& 31)) &&& 1 = 1 → Kr (some (.inl (0 : Int32))) σ))) → Wk 0 [some (.inl set), some (.inl t)] [] σ)) : sv_C l yX5_has cX5_has 2 (some .boolean) [] 0 0 sp_X5_has := by
  refine sv_meth sv_clok_all tb_X5_has T_X5_has (by decide) tbk_X5_has (Tok_X5_has l) ?_
  intro Wk Kr hc av σ hsp
  have hB := hb Wk Kr (fun set t σ h => hc [] 500 0 _ _ _ (bk_X5_has_0 Wk Kr set t σ h))
  unfold sp_X5_has at hsp
  split at hsp
  · exact ⟨⟨by simp, by simp [sv_cat]⟩, hB _ _ _ hsp⟩
  · exact hsp.elim
set_option maxHeartbeats 4000000 in
set_option maxRecDepth 100000 in
theorem c_X5_has (l : Launch) : sv_C l yX5_has cX5_has 2 (some .boolean) [] 0 0 sp_X5_has := by
  refine m_X5_has l ?_
  intro Wk Kr e0 set t σ ⟨h1, h0⟩
  apply e0
  exact ⟨h0, h1⟩
-- ==== X5_areRuns
def sp_X5_areRuns : sv_P := fun av σ K => match av with
  | [.inl runs, .inl worst] => ((okR runs worst → K (some (.inl (1 : Int32))) σ) ∧ (¬ okR runs worst → K (some (.inl (0 : Int32))) σ))
  | _ => False
def tb_X5_areRuns : List (Nat × (Instr × Nat)) := [(0, (.iload_n 0, 1)), (1, (.iconst 1, 1)), (2, (.bipush 99, 2)), (4, (.invokestatic 50, 3)), (7, (.ifCond .eq 17, 3)), (10, (.iload_n 1, 1)), (11, (.iload_n 0, 1)), (12, (.bipush 99, 2)), (14, (.invokestatic 50, 3)), (17, (.ifCond .eq 7, 3)), (20, (.iconst 1, 1)), (21, (.goto 4, 3)), (24, (.iconst 0, 1)), (25, (.ireturn, 1))]
set_option maxRecDepth 100000 in
theorem tbk_X5_areRuns : sv_tbok cX5_areRuns tb_X5_areRuns = true := by decide +kernel
def cal_X5_areRuns : List (Nat × (Nat × Nat × sv_P)) := [(50, (3, 90, sp_X5_within))]
def T_X5_areRuns : sv_T := (flX5, sfX5, kcX5, klX5, cal_X5_areRuns)
set_option maxRecDepth 100000 in
theorem Tok_X5_areRuns (l : Launch) : sv_Tok l RX5 [] 1 22 T_X5_areRuns := ⟨flokX5, sfokX5, kcokX5, klokX5, List.forall_mem_cons.mpr ⟨⟨fun h => absurd h (by decide), fun _ => sv_COs_gen (c_X5_within l) (Or.inl (sv_mem 623 (by decide +kernel) rfl)) kw_X5_within.1 kw_X5_within.2.1 kw_X5_within.2.2 kd_X5_within rfl (by decide) (by decide +kernel)⟩, fun _ h => absurd h List.not_mem_nil⟩⟩
theorem kw_X5_areRuns : Cond.static yX5_areRuns ∈ sv_tb ∧ Cond.initialized yX5_areRuns.cls ∈ sv_tb ∧ Cond.code yX5_areRuns cX5_areRuns 2 (some .boolean) ∈ sv_tb := ⟨sv_mem 621 (by decide +kernel) rfl, sv_mem 56 (by decide +kernel) rfl, sv_mem 622 (by decide +kernel) rfl⟩
theorem kd_X5_areRuns : yX5_areRuns.cls ≠ "java/lang/invoke/MethodHandle" ∧ yX5_areRuns.cls ≠ "java/lang/invoke/VarHandle" ∧ (parseMethodDescriptor yX5_areRuns.desc).map (fun d => d.parameters.length) = some 2 := by decide +kernel
def F_X5_areRuns_0 (Wk : sv_K) (Kr : Option sv_AV → sv_S → Prop) (runs : Int32) (worst : Int32) (σ : sv_S) : Prop := ((((1 : Int32) ≤ runs ∧ runs ≤ (99 : Int32) → (((runs ≤ worst ∧ worst ≤ (99 : Int32) → Kr (some (.inl (1 : Int32))) σ) ∧ (¬ (runs ≤ worst ∧ worst ≤ (99 : Int32)) → Kr (some (.inl (0 : Int32))) σ)))) ∧ (¬ ((1 : Int32) ≤ runs ∧ runs ≤ (99 : Int32)) → Kr (some (.inl (0 : Int32))) σ)))
set_option maxRecDepth 100000 in
theorem bk_X5_areRuns_0 (Wk : sv_K) (Kr : Option sv_AV → sv_S → Prop) (runs : Int32) (worst : Int32) (σ : sv_S) (h : F_X5_areRuns_0 Wk Kr runs worst σ) : sv_vc tb_X5_areRuns T_X5_areRuns [] (some .boolean) Kr [] Wk 500 0 [some (.inl runs), some (.inl worst)] [] σ := (match h with | ⟨z2a, z2b⟩ => ⟨fun z2y => br_f (by decide) ((match (z2a z2y) with | ⟨z1a, z1b⟩ => ⟨fun z1y => br_f (by decide) (⟨rfl, (z1a z1y)⟩), fun z1y => br_t (by decide) (⟨rfl, (z1b z1y)⟩)⟩)), fun z2y => br_t (by decide) (⟨rfl, (z2b z2y)⟩)⟩)
set_option maxRecDepth 100000 in
theorem m_X5_areRuns (l : Launch) (hb : ∀ (Wk : sv_K) (Kr : Option sv_AV → sv_S → Prop), (∀ (runs : Int32) (worst : Int32) (σ : sv_S), F_X5_areRuns_0 Wk Kr runs worst σ → Wk 0 [some (.inl runs), some (.inl worst)] [] σ) → (∀ (runs : Int32) (worst : Int32) (σ : sv_S), (((okR runs worst → Kr (some (.inl (1 : Int32))) σ) ∧ (¬ okR runs worst → Kr (some (.inl (0 : Int32))) σ))) → Wk 0 [some (.inl runs), some (.inl worst)] [] σ)) : sv_C l yX5_areRuns cX5_areRuns 2 (some .boolean) [] 1 22 sp_X5_areRuns := by
  refine sv_meth sv_clok_all tb_X5_areRuns T_X5_areRuns (by decide) tbk_X5_areRuns (Tok_X5_areRuns l) ?_
  intro Wk Kr hc av σ hsp
  have hB := hb Wk Kr (fun runs worst σ h => hc [] 500 0 _ _ _ (bk_X5_areRuns_0 Wk Kr runs worst σ h))
  unfold sp_X5_areRuns at hsp
  split at hsp
  · exact ⟨⟨by simp, by simp [sv_cat]⟩, hB _ _ _ hsp⟩
  · exact hsp.elim
set_option maxHeartbeats 4000000 in
set_option maxRecDepth 100000 in
theorem c_X5_areRuns (l : Launch) : sv_C l yX5_areRuns cX5_areRuns 2 (some .boolean) [] 1 22 sp_X5_areRuns := by
  refine m_X5_areRuns l ?_
  intro Wk Kr e0 runs worst σ ⟨h1, h0⟩
  apply e0
  exact ⟨fun a => ⟨fun b => h1 ⟨a, b⟩, fun b => h0 (fun q => b q.2)⟩, fun a => h0 (fun q => a q.1)⟩
-- ==== X5_isKind
def sp_X5_isKind : sv_P := fun av σ K => match av with
  | [.inl kind] => ((ok2 kind → K (some (.inl (1 : Int32))) σ) ∧ (¬ ok2 kind → K (some (.inl (0 : Int32))) σ))
  | _ => False
def tb_X5_isKind : List (Nat × (Instr × Nat)) := [(0, (.iload_n 0, 1)), (1, (.iconst 0, 1)), (2, (.iconst 1, 1)), (3, (.invokestatic 50, 3)), (6, (.ireturn, 1))]
set_option maxRecDepth 100000 in
theorem tbk_X5_isKind : sv_tbok cX5_isKind tb_X5_isKind = true := by decide +kernel
def cal_X5_isKind : List (Nat × (Nat × Nat × sv_P)) := [(50, (3, 90, sp_X5_within))]
def T_X5_isKind : sv_T := (flX5, sfX5, kcX5, klX5, cal_X5_isKind)
set_option maxRecDepth 100000 in
theorem Tok_X5_isKind (l : Launch) : sv_Tok l RX5 [] 1 22 T_X5_isKind := ⟨flokX5, sfokX5, kcokX5, klokX5, List.forall_mem_cons.mpr ⟨⟨fun h => absurd h (by decide), fun _ => sv_COs_gen (c_X5_within l) (Or.inl (sv_mem 623 (by decide +kernel) rfl)) kw_X5_within.1 kw_X5_within.2.1 kw_X5_within.2.2 kd_X5_within rfl (by decide) (by decide +kernel)⟩, fun _ h => absurd h List.not_mem_nil⟩⟩
theorem kw_X5_isKind : Cond.static yX5_isKind ∈ sv_tb ∧ Cond.initialized yX5_isKind.cls ∈ sv_tb ∧ Cond.code yX5_isKind cX5_isKind 1 (some .boolean) ∈ sv_tb := ⟨sv_mem 683 (by decide +kernel) rfl, sv_mem 56 (by decide +kernel) rfl, sv_mem 684 (by decide +kernel) rfl⟩
theorem kd_X5_isKind : yX5_isKind.cls ≠ "java/lang/invoke/MethodHandle" ∧ yX5_isKind.cls ≠ "java/lang/invoke/VarHandle" ∧ (parseMethodDescriptor yX5_isKind.desc).map (fun d => d.parameters.length) = some 1 := by decide +kernel
def F_X5_isKind_0 (Wk : sv_K) (Kr : Option sv_AV → sv_S → Prop) (kind : Int32) (σ : sv_S) : Prop := ((((0 : Int32) ≤ kind ∧ kind ≤ (1 : Int32) → Kr (some (.inl (1 : Int32))) σ) ∧ (¬ ((0 : Int32) ≤ kind ∧ kind ≤ (1 : Int32)) → Kr (some (.inl (0 : Int32))) σ)))
set_option maxRecDepth 100000 in
theorem bk_X5_isKind_0 (Wk : sv_K) (Kr : Option sv_AV → sv_S → Prop) (kind : Int32) (σ : sv_S) (h : F_X5_isKind_0 Wk Kr kind σ) : sv_vc tb_X5_isKind T_X5_isKind [] (some .boolean) Kr [] Wk 500 0 [some (.inl kind)] [] σ := (match h with | ⟨z1a, z1b⟩ => ⟨fun z1y => ⟨rfl, (z1a z1y)⟩, fun z1y => ⟨rfl, (z1b z1y)⟩⟩)
set_option maxRecDepth 100000 in
theorem m_X5_isKind (l : Launch) (hb : ∀ (Wk : sv_K) (Kr : Option sv_AV → sv_S → Prop), (∀ (kind : Int32) (σ : sv_S), F_X5_isKind_0 Wk Kr kind σ → Wk 0 [some (.inl kind)] [] σ) → (∀ (kind : Int32) (σ : sv_S), (((ok2 kind → Kr (some (.inl (1 : Int32))) σ) ∧ (¬ ok2 kind → Kr (some (.inl (0 : Int32))) σ))) → Wk 0 [some (.inl kind)] [] σ)) : sv_C l yX5_isKind cX5_isKind 1 (some .boolean) [] 1 22 sp_X5_isKind := by
  refine sv_meth sv_clok_all tb_X5_isKind T_X5_isKind (by decide) tbk_X5_isKind (Tok_X5_isKind l) ?_
  intro Wk Kr hc av σ hsp
  have hB := hb Wk Kr (fun kind σ h => hc [] 500 0 _ _ _ (bk_X5_isKind_0 Wk Kr kind σ h))
  unfold sp_X5_isKind at hsp
  split at hsp
  · exact ⟨⟨by simp, by simp [sv_cat]⟩, hB _ _ hsp⟩
  · exact hsp.elim
set_option maxHeartbeats 4000000 in
set_option maxRecDepth 100000 in
theorem c_X5_isKind (l : Launch) : sv_C l yX5_isKind cX5_isKind 1 (some .boolean) [] 1 22 sp_X5_isKind := by
  refine m_X5_isKind l ?_
  intro Wk Kr e0 kind σ ⟨h1, h0⟩
  apply e0
  exact ⟨fun a => h1 ((ok2_le _).mpr a), fun a => h0 (fun b => a ((ok2_le _).mp b))⟩
-- ==== X5_stateAt
def sp_X5_stateAt : sv_P := fun av σ K => match av with
  | [.inl state, .inl t] => ∃ z : Nat, ∃ e : Nat, ((z < 243 ∧ state = nI z) ∧ (e < 5 ∧ t = nI e)) ∧ (∀ v : Int32, v = nI (dg e z) → K (some (.inl v)) σ)
  | _ => False
def tb_X5_stateAt : List (Nat × (Instr × Nat)) := [(0, (.iload_n 0, 1)), (1, (.istore_n 2, 1)), (2, (.iconst 0, 1)), (3, (.istore_n 3, 1)), (4, (.iload_n 3, 1)), (5, (.iload_n 1, 1)), (6, (.if_icmp .ge 13, 3)), (9, (.iload_n 2, 1)), (10, (.iconst 3, 1)), (11, (.idiv, 1)), (12, (.istore_n 2, 1)), (13, (.iinc 3 1, 3)), (16, (.goto (-12), 3)), (19, (.iload_n 2, 1)), (20, (.iconst 3, 1)), (21, (.irem, 1)), (22, (.ireturn, 1))]
set_option maxRecDepth 100000 in
theorem tbk_X5_stateAt : sv_tbok cX5_stateAt tb_X5_stateAt = true := by decide +kernel
def cal_X5_stateAt : List (Nat × (Nat × Nat × sv_P)) := []
def T_X5_stateAt : sv_T := (flX5, sfX5, kcX5, klX5, cal_X5_stateAt)
set_option maxRecDepth 100000 in
theorem Tok_X5_stateAt (l : Launch) : sv_Tok l RX5 [] 0 0 T_X5_stateAt := ⟨flokX5, sfokX5, kcokX5, klokX5, fun _ h => absurd h List.not_mem_nil⟩
theorem kw_X5_stateAt : Cond.static yX5_stateAt ∈ sv_tb ∧ Cond.initialized yX5_stateAt.cls ∈ sv_tb ∧ Cond.code yX5_stateAt cX5_stateAt 4 (some .int) ∈ sv_tb := ⟨sv_mem 705 (by decide +kernel) rfl, sv_mem 56 (by decide +kernel) rfl, sv_mem 706 (by decide +kernel) rfl⟩
theorem kd_X5_stateAt : yX5_stateAt.cls ≠ "java/lang/invoke/MethodHandle" ∧ yX5_stateAt.cls ≠ "java/lang/invoke/VarHandle" ∧ (parseMethodDescriptor yX5_stateAt.desc).map (fun d => d.parameters.length) = some 2 := by decide +kernel
def F_X5_stateAt_0 (Wk : sv_K) (Kr : Option sv_AV → sv_S → Prop) (state : Int32) (t : Int32) (σ : sv_S) : Prop := Wk 4 [none, some (.inl t), some (.inl state), some (.inl (0 : Int32))] [] σ
set_option maxRecDepth 100000 in
theorem bk_X5_stateAt_0 (Wk : sv_K) (Kr : Option sv_AV → sv_S → Prop) (state : Int32) (t : Int32) (σ : sv_S) (h : F_X5_stateAt_0 Wk Kr state t σ) : sv_vc tb_X5_stateAt T_X5_stateAt [] (some .int) Kr [(4, [false, true, true, true])] Wk 500 0 [some (.inl state), some (.inl t), none, none] [] σ := h
def F_X5_stateAt_4 (Wk : sv_K) (Kr : Option sv_AV → sv_S → Prop) (x1 : Int32) (x2 : Int32) (x3 : Int32) (σ : sv_S) : Prop := ((x1 ≤ x3 → Kr (some (.inl (x2 - x2 / (3 : Int32) * (3 : Int32)))) σ) ∧ (¬ x1 ≤ x3 → Wk 4 [none, some (.inl x1), some (.inl (x2 / (3 : Int32))), some (.inl (x3 + (1 : Int32)))] [] σ))
set_option maxRecDepth 100000 in
theorem bk_X5_stateAt_4 (Wk : sv_K) (Kr : Option sv_AV → sv_S → Prop) (x1 : Int32) (x2 : Int32) (x3 : Int32) (σ : sv_S) (h : F_X5_stateAt_4 Wk Kr x1 x2 x3 σ) : sv_vc tb_X5_stateAt T_X5_stateAt [] (some .int) Kr [(4, [false, true, true, true])] Wk 500 4 [none, some (.inl x1), some (.inl x2), some (.inl x3)] [] σ := ⟨fun z1 => ⟨by decide, ((h).1 z1)⟩, fun z1 => ⟨by decide, ((h).2 z1)⟩⟩
set_option maxRecDepth 100000 in
theorem m_X5_stateAt (l : Launch) (hb : ∀ (Wk : sv_K) (Kr : Option sv_AV → sv_S → Prop), (∀ (state : Int32) (t : Int32) (σ : sv_S), F_X5_stateAt_0 Wk Kr state t σ → Wk 0 [some (.inl state), some (.inl t), none, none] [] σ) → (∀ (x1 : Int32) (x2 : Int32) (x3 : Int32) (σ : sv_S), F_X5_stateAt_4 Wk Kr x1 x2 x3 σ → Wk 4 [none, some (.inl x1), some (.inl x2), some (.inl x3)] [] σ) → (∀ (state : Int32) (t : Int32) (σ : sv_S), (∃ z : Nat, ∃ e : Nat, ((z < 243 ∧ state = nI z) ∧ (e < 5 ∧ t = nI e)) ∧ (∀ v : Int32, v = nI (dg e z) → Kr (some (.inl v)) σ)) → Wk 0 [some (.inl state), some (.inl t), none, none] [] σ)) : sv_C l yX5_stateAt cX5_stateAt 4 (some .int) [] 0 0 sp_X5_stateAt := by
  refine sv_meth sv_clok_all tb_X5_stateAt T_X5_stateAt (by decide) tbk_X5_stateAt (Tok_X5_stateAt l) ?_
  intro Wk Kr hc av σ hsp
  have hB := hb Wk Kr (fun state t σ h => hc [(4, [false, true, true, true])] 500 0 _ _ _ (bk_X5_stateAt_0 Wk Kr state t σ h)) (fun x1 x2 x3 σ h => hc [(4, [false, true, true, true])] 500 4 _ _ _ (bk_X5_stateAt_4 Wk Kr x1 x2 x3 σ h))
  unfold sp_X5_stateAt at hsp
  split at hsp
  · exact ⟨⟨by simp, by simp [sv_cat]⟩, hB _ _ _ hsp⟩
  · exact hsp.elim
set_option maxHeartbeats 4000000 in
set_option maxRecDepth 100000 in
theorem c_X5_stateAt (l : Launch) : sv_C l yX5_stateAt cX5_stateAt 4 (some .int) [] 0 0 sp_X5_stateAt := by
  refine m_X5_stateAt l ?_
  intro Wk Kr e0 e4 state t σ ⟨z, e, ⟨⟨hz, hs⟩, he, ht⟩, h⟩
  subst hs
  subst ht
  apply e0
  suffices key : ∀ n, n ≤ e → Wk 4 [none, some (.inl (nI e)), some (.inl (nI (z / 3 ^ n))), some (.inl (nI n))] [] σ by
    have := key 0 (by omega)
    rw [Nat.pow_zero, Nat.div_one] at this
    exact this
  refine lpN (fun n hn ih => ?_)
  apply e4
  have hb : n < 5 := by omega
  have hd := dg_dv z hz n hb
  refine pk_le e n (fun y => h _ ?_) (fun y => ?_)
  · rw [show (3 : Int32) = nI 3 from rfl, pk_rem (by omega) (by omega) (by omega), show n = e by omega]
    rfl
  · rw [show (3 : Int32) = nI 3 from rfl, pk_div (by omega) (by omega) (by omega), nI_1, Nat.div_div_eq_div_mul, ← Nat.pow_succ]
    exact ih y
-- ==== X5_factorial
def sp_X5_factorial : sv_P := fun av σ K => match av with
  | [.inl n] => ∃ e : Nat, (e ≤ 5 ∧ n = nI e) ∧ (∀ v : Int32, v = nI (fct e) → K (some (.inl v)) σ)
  | _ => False
def tb_X5_factorial : List (Nat × (Instr × Nat)) := [(0, (.iconst 1, 1)), (1, (.istore_n 1, 1)), (2, (.iconst 2, 1)), (3, (.istore_n 2, 1)), (4, (.iload_n 2, 1)), (5, (.iload_n 0, 1)), (6, (.if_icmp .gt 13, 3)), (9, (.iload_n 1, 1)), (10, (.iload_n 2, 1)), (11, (.imul, 1)), (12, (.istore_n 1, 1)), (13, (.iinc 2 1, 3)), (16, (.goto (-12), 3)), (19, (.iload_n 1, 1)), (20, (.ireturn, 1))]
set_option maxRecDepth 100000 in
theorem tbk_X5_factorial : sv_tbok cX5_factorial tb_X5_factorial = true := by decide +kernel
def cal_X5_factorial : List (Nat × (Nat × Nat × sv_P)) := []
def T_X5_factorial : sv_T := (flX5, sfX5, kcX5, klX5, cal_X5_factorial)
set_option maxRecDepth 100000 in
theorem Tok_X5_factorial (l : Launch) : sv_Tok l RX5 [] 0 0 T_X5_factorial := ⟨flokX5, sfokX5, kcokX5, klokX5, fun _ h => absurd h List.not_mem_nil⟩
theorem kw_X5_factorial : Cond.static yX5_factorial ∈ sv_tb ∧ Cond.initialized yX5_factorial.cls ∈ sv_tb ∧ Cond.code yX5_factorial cX5_factorial 3 (some .int) ∈ sv_tb := ⟨sv_mem 818 (by decide +kernel) rfl, sv_mem 56 (by decide +kernel) rfl, sv_mem 819 (by decide +kernel) rfl⟩
theorem kd_X5_factorial : yX5_factorial.cls ≠ "java/lang/invoke/MethodHandle" ∧ yX5_factorial.cls ≠ "java/lang/invoke/VarHandle" ∧ (parseMethodDescriptor yX5_factorial.desc).map (fun d => d.parameters.length) = some 1 := by decide +kernel
def F_X5_factorial_0 (Wk : sv_K) (Kr : Option sv_AV → sv_S → Prop) (n : Int32) (σ : sv_S) : Prop := Wk 4 [some (.inl n), some (.inl (1 : Int32)), some (.inl (2 : Int32))] [] σ
set_option maxRecDepth 100000 in
theorem bk_X5_factorial_0 (Wk : sv_K) (Kr : Option sv_AV → sv_S → Prop) (n : Int32) (σ : sv_S) (h : F_X5_factorial_0 Wk Kr n σ) : sv_vc tb_X5_factorial T_X5_factorial [] (some .int) Kr [(4, [true, true, true])] Wk 500 0 [some (.inl n), none, none] [] σ := h
def F_X5_factorial_4 (Wk : sv_K) (Kr : Option sv_AV → sv_S → Prop) (x0 : Int32) (x1 : Int32) (x2 : Int32) (σ : sv_S) : Prop := ((x0 < x2 → Kr (some (.inl x1)) σ) ∧ (¬ x0 < x2 → Wk 4 [some (.inl x0), some (.inl (x1 * x2)), some (.inl (x2 + (1 : Int32)))] [] σ))
set_option maxRecDepth 100000 in
theorem bk_X5_factorial_4 (Wk : sv_K) (Kr : Option sv_AV → sv_S → Prop) (x0 : Int32) (x1 : Int32) (x2 : Int32) (σ : sv_S) (h : F_X5_factorial_4 Wk Kr x0 x1 x2 σ) : sv_vc tb_X5_factorial T_X5_factorial [] (some .int) Kr [(4, [true, true, true])] Wk 500 4 [some (.inl x0), some (.inl x1), some (.inl x2)] [] σ := h
set_option maxRecDepth 100000 in
theorem m_X5_factorial (l : Launch) (hb : ∀ (Wk : sv_K) (Kr : Option sv_AV → sv_S → Prop), (∀ (n : Int32) (σ : sv_S), F_X5_factorial_0 Wk Kr n σ → Wk 0 [some (.inl n), none, none] [] σ) → (∀ (x0 : Int32) (x1 : Int32) (x2 : Int32) (σ : sv_S), F_X5_factorial_4 Wk Kr x0 x1 x2 σ → Wk 4 [some (.inl x0), some (.inl x1), some (.inl x2)] [] σ) → (∀ (n : Int32) (σ : sv_S), (∃ e : Nat, (e ≤ 5 ∧ n = nI e) ∧ (∀ v : Int32, v = nI (fct e) → Kr (some (.inl v)) σ)) → Wk 0 [some (.inl n), none, none] [] σ)) : sv_C l yX5_factorial cX5_factorial 3 (some .int) [] 0 0 sp_X5_factorial := by
  refine sv_meth sv_clok_all tb_X5_factorial T_X5_factorial (by decide) tbk_X5_factorial (Tok_X5_factorial l) ?_
  intro Wk Kr hc av σ hsp
  have hB := hb Wk Kr (fun n σ h => hc [(4, [true, true, true])] 500 0 _ _ _ (bk_X5_factorial_0 Wk Kr n σ h)) (fun x0 x1 x2 σ h => hc [(4, [true, true, true])] 500 4 _ _ _ (bk_X5_factorial_4 Wk Kr x0 x1 x2 σ h))
  unfold sp_X5_factorial at hsp
  split at hsp
  · exact ⟨⟨by simp, by simp [sv_cat]⟩, hB _ _ hsp⟩
  · exact hsp.elim
set_option maxHeartbeats 4000000 in
set_option maxRecDepth 100000 in
theorem c_X5_factorial (l : Launch) : sv_C l yX5_factorial cX5_factorial 3 (some .int) [] 0 0 sp_X5_factorial := by
  refine m_X5_factorial l ?_
  intro Wk Kr e0 e4 n σ ⟨e, ⟨he, hn⟩, h⟩
  subst hn
  apply e0
  have key : ∀ i, i ≤ e → Wk 4 [some (.inl (nI e)), some (.inl (nI (fct (i + 1 - 1)))), some (.inl (nI (i + 1)))] [] σ := by
    refine lpN (fun n hn ih => ?_)
    apply e4
    refine pk_lt e (n + 1) (fun y => h _ (by rw [show n + 1 - 1 = e by omega])) (fun y => ?_)
    rw [pk_mul, nI_1]
    have := ih (by omega)
    rw [show n + 1 + 1 - 1 = n + 1 by omega] at this
    rw [show n + 1 - 1 = n by omega, Nat.mul_comm]
    exact this
  by_cases c : e = 0
  · subst c
    apply e4
    exact pk_lt 0 2 (fun y => h _ rfl) (fun y => by omega)
  · exact key 1 (by omega)
-- ==== X5_isPart
def sp_X5_isPart : sv_P := fun av σ K => match av with
  | [.inr (.inr (5, 0)), .inl p] => ∃ d : dD, (RM d σ) ∧ ((isN (dP d) p → K (some (.inl (1 : Int32))) σ) ∧ (¬ isN (dP d) p → K (some (.inl (0 : Int32))) σ))
  | _ => False
def tb_X5_isPart : List (Nat × (Instr × Nat)) := [(0, (.iload_n 1, 1)), (1, (.iconst 0, 1)), (2, (.aload_n 0, 1)), (3, (.getfield 46, 3)), (6, (.iconst 1, 1)), (7, (.isub, 1)), (8, (.invokestatic 50, 3)), (11, (.ireturn, 1))]
set_option maxRecDepth 100000 in
theorem tbk_X5_isPart : sv_tbok cX5_isPart tb_X5_isPart = true := by decide +kernel
def cal_X5_isPart : List (Nat × (Nat × Nat × sv_P)) := [(50, (3, 90, sp_X5_within))]
def T_X5_isPart : sv_T := (flX5, sfX5, kcX5, klX5, cal_X5_isPart)
set_option maxRecDepth 100000 in
theorem Tok_X5_isPart (l : Launch) : sv_Tok l RX5 sv_all 1 22 T_X5_isPart := ⟨flokX5, sfokX5, kcokX5, klokX5, List.forall_mem_cons.mpr ⟨⟨fun h => absurd h (by decide), fun _ => sv_COs_gen (c_X5_within l) (Or.inl (sv_mem 623 (by decide +kernel) rfl)) kw_X5_within.1 kw_X5_within.2.1 kw_X5_within.2.2 kd_X5_within rfl (by decide) (by decide +kernel)⟩, fun _ h => absurd h List.not_mem_nil⟩⟩
theorem kw_X5_isPart : Cond.instanceMethod yX5_isPart ∈ sv_tb ∧ Cond.selects yX5_isPart.cls yX5_isPart yX5_isPart ∈ sv_tb ∧ Cond.initialized yX5_isPart.cls ∈ sv_tb ∧ Cond.code yX5_isPart cX5_isPart 2 (some .boolean) ∈ sv_tb := ⟨sv_mem 632 (by decide +kernel) rfl, sv_mem 16 (by decide +kernel) rfl, sv_mem 56 (by decide +kernel) rfl, sv_mem 633 (by decide +kernel) rfl⟩
theorem kd_X5_isPart : yX5_isPart.cls ≠ "java/lang/invoke/MethodHandle" ∧ yX5_isPart.cls ≠ "java/lang/invoke/VarHandle" ∧ (parseMethodDescriptor yX5_isPart.desc).map (fun d => d.parameters.length) = some 1 := by decide +kernel
def F_X5_isPart_0 (Wk : sv_K) (Kr : Option sv_AV → sv_S → Prop) (p : Int32) (σ : sv_S) : Prop := ((((0 : Int32) ≤ p ∧ p ≤ ((sv_gA σ 5 0 0) - (1 : Int32)) → Kr (some (.inl (1 : Int32))) σ) ∧ (¬ ((0 : Int32) ≤ p ∧ p ≤ ((sv_gA σ 5 0 0) - (1 : Int32))) → Kr (some (.inl (0 : Int32))) σ)))
set_option maxRecDepth 100000 in
theorem bk_X5_isPart_0 (Wk : sv_K) (Kr : Option sv_AV → sv_S → Prop) (p : Int32) (σ : sv_S) (h : F_X5_isPart_0 Wk Kr p σ) : sv_vc tb_X5_isPart T_X5_isPart sv_all (some .boolean) Kr [] Wk 500 0 [some (.inr (.inr (5, 0))), some (.inl p)] [] σ := (match h with | ⟨z1a, z1b⟩ => ⟨fun z1y => ⟨rfl, (z1a z1y)⟩, fun z1y => ⟨rfl, (z1b z1y)⟩⟩)
set_option maxRecDepth 100000 in
theorem m_X5_isPart (l : Launch) (hb : ∀ (Wk : sv_K) (Kr : Option sv_AV → sv_S → Prop), (∀ (p : Int32) (σ : sv_S), F_X5_isPart_0 Wk Kr p σ → Wk 0 [some (.inr (.inr (5, 0))), some (.inl p)] [] σ) → (∀ (p : Int32) (σ : sv_S), (∃ d : dD, (RM d σ) ∧ ((isN (dP d) p → Kr (some (.inl (1 : Int32))) σ) ∧ (¬ isN (dP d) p → Kr (some (.inl (0 : Int32))) σ))) → Wk 0 [some (.inr (.inr (5, 0))), some (.inl p)] [] σ)) : sv_C l yX5_isPart cX5_isPart 2 (some .boolean) sv_all 1 22 sp_X5_isPart := by
  refine sv_meth sv_clok_all tb_X5_isPart T_X5_isPart (by decide) tbk_X5_isPart (Tok_X5_isPart l) ?_
  intro Wk Kr hc av σ hsp
  have hB := hb Wk Kr (fun p σ h => hc [] 500 0 _ _ _ (bk_X5_isPart_0 Wk Kr p σ h))
  unfold sp_X5_isPart at hsp
  split at hsp
  · exact ⟨⟨by simp, by simp [sv_cat]⟩, hB _ _ hsp⟩
  · exact hsp.elim
set_option maxHeartbeats 4000000 in
set_option maxRecDepth 100000 in
theorem c_X5_isPart (l : Launch) : sv_C l yX5_isPart cX5_isPart 2 (some .boolean) sv_all 1 22 sp_X5_isPart := by
  refine m_X5_isPart l ?_
  intro Wk Kr e0 p σ ⟨d, hR, h1, h0⟩
  apply e0
  have hP := hR.2.2.1
  have hb := hR.1.1
  refine ⟨fun z => h1 ?_, fun z => h0 ?_⟩
  · rw [isN_le (by omega), ← hP]; exact z
  · rw [isN_le (by omega), ← hP]; exact z
-- ==== X5_isThing
def sp_X5_isThing : sv_P := fun av σ K => match av with
  | [.inr (.inr (5, 0)), .inl t] => ∃ d : dD, (RM d σ) ∧ ((isN (dT d) t → K (some (.inl (1 : Int32))) σ) ∧ (¬ isN (dT d) t → K (some (.inl (0 : Int32))) σ))
  | _ => False
def tb_X5_isThing : List (Nat × (Instr × Nat)) := [(0, (.iload_n 1, 1)), (1, (.iconst 0, 1)), (2, (.aload_n 0, 1)), (3, (.getfield 54, 3)), (6, (.iconst 1, 1)), (7, (.isub, 1)), (8, (.invokestatic 50, 3)), (11, (.ireturn, 1))]
set_option maxRecDepth 100000 in
theorem tbk_X5_isThing : sv_tbok cX5_isThing tb_X5_isThing = true := by decide +kernel
def cal_X5_isThing : List (Nat × (Nat × Nat × sv_P)) := [(50, (3, 90, sp_X5_within))]
def T_X5_isThing : sv_T := (flX5, sfX5, kcX5, klX5, cal_X5_isThing)
set_option maxRecDepth 100000 in
theorem Tok_X5_isThing (l : Launch) : sv_Tok l RX5 sv_all 1 22 T_X5_isThing := ⟨flokX5, sfokX5, kcokX5, klokX5, List.forall_mem_cons.mpr ⟨⟨fun h => absurd h (by decide), fun _ => sv_COs_gen (c_X5_within l) (Or.inl (sv_mem 623 (by decide +kernel) rfl)) kw_X5_within.1 kw_X5_within.2.1 kw_X5_within.2.2 kd_X5_within rfl (by decide) (by decide +kernel)⟩, fun _ h => absurd h List.not_mem_nil⟩⟩
theorem kw_X5_isThing : Cond.instanceMethod yX5_isThing ∈ sv_tb ∧ Cond.selects yX5_isThing.cls yX5_isThing yX5_isThing ∈ sv_tb ∧ Cond.initialized yX5_isThing.cls ∈ sv_tb ∧ Cond.code yX5_isThing cX5_isThing 2 (some .boolean) ∈ sv_tb := ⟨sv_mem 648 (by decide +kernel) rfl, sv_mem 17 (by decide +kernel) rfl, sv_mem 56 (by decide +kernel) rfl, sv_mem 649 (by decide +kernel) rfl⟩
theorem kd_X5_isThing : yX5_isThing.cls ≠ "java/lang/invoke/MethodHandle" ∧ yX5_isThing.cls ≠ "java/lang/invoke/VarHandle" ∧ (parseMethodDescriptor yX5_isThing.desc).map (fun d => d.parameters.length) = some 1 := by decide +kernel
def F_X5_isThing_0 (Wk : sv_K) (Kr : Option sv_AV → sv_S → Prop) (t : Int32) (σ : sv_S) : Prop := ((((0 : Int32) ≤ t ∧ t ≤ ((sv_gA σ 5 0 1) - (1 : Int32)) → Kr (some (.inl (1 : Int32))) σ) ∧ (¬ ((0 : Int32) ≤ t ∧ t ≤ ((sv_gA σ 5 0 1) - (1 : Int32))) → Kr (some (.inl (0 : Int32))) σ)))
set_option maxRecDepth 100000 in
theorem bk_X5_isThing_0 (Wk : sv_K) (Kr : Option sv_AV → sv_S → Prop) (t : Int32) (σ : sv_S) (h : F_X5_isThing_0 Wk Kr t σ) : sv_vc tb_X5_isThing T_X5_isThing sv_all (some .boolean) Kr [] Wk 500 0 [some (.inr (.inr (5, 0))), some (.inl t)] [] σ := (match h with | ⟨z1a, z1b⟩ => ⟨fun z1y => ⟨rfl, (z1a z1y)⟩, fun z1y => ⟨rfl, (z1b z1y)⟩⟩)
set_option maxRecDepth 100000 in
theorem m_X5_isThing (l : Launch) (hb : ∀ (Wk : sv_K) (Kr : Option sv_AV → sv_S → Prop), (∀ (t : Int32) (σ : sv_S), F_X5_isThing_0 Wk Kr t σ → Wk 0 [some (.inr (.inr (5, 0))), some (.inl t)] [] σ) → (∀ (t : Int32) (σ : sv_S), (∃ d : dD, (RM d σ) ∧ ((isN (dT d) t → Kr (some (.inl (1 : Int32))) σ) ∧ (¬ isN (dT d) t → Kr (some (.inl (0 : Int32))) σ))) → Wk 0 [some (.inr (.inr (5, 0))), some (.inl t)] [] σ)) : sv_C l yX5_isThing cX5_isThing 2 (some .boolean) sv_all 1 22 sp_X5_isThing := by
  refine sv_meth sv_clok_all tb_X5_isThing T_X5_isThing (by decide) tbk_X5_isThing (Tok_X5_isThing l) ?_
  intro Wk Kr hc av σ hsp
  have hB := hb Wk Kr (fun t σ h => hc [] 500 0 _ _ _ (bk_X5_isThing_0 Wk Kr t σ h))
  unfold sp_X5_isThing at hsp
  split at hsp
  · exact ⟨⟨by simp, by simp [sv_cat]⟩, hB _ _ hsp⟩
  · exact hsp.elim
set_option maxHeartbeats 4000000 in
set_option maxRecDepth 100000 in
theorem c_X5_isThing (l : Launch) : sv_C l yX5_isThing cX5_isThing 2 (some .boolean) sv_all 1 22 sp_X5_isThing := by
  refine m_X5_isThing l ?_
  intro Wk Kr e0 p σ ⟨d, hR, h1, h0⟩
  apply e0
  have hP := hR.2.2.2.1
  have hb := hR.1.2.1
  refine ⟨fun z => h1 ?_, fun z => h0 ?_⟩
  · rw [isN_le (by omega), ← hP]; exact z
  · rw [isN_le (by omega), ← hP]; exact z
-- ==== X5_isSet
def sp_X5_isSet : sv_P := fun av σ K => match av with
  | [.inr (.inr (5, 0)), .inl set] => ∃ d : dD, (RM d σ) ∧ ((isN (2 ^ dT d) set → K (some (.inl (1 : Int32))) σ) ∧ (¬ isN (2 ^ dT d) set → K (some (.inl (0 : Int32))) σ))
  | _ => False
def tb_X5_isSet : List (Nat × (Instr × Nat)) := [(0, (.iload_n 1, 1)), (1, (.iconst 0, 1)), (2, (.iconst 1, 1)), (3, (.aload_n 0, 1)), (4, (.getfield 54, 3)), (7, (.ishl, 1)), (8, (.iconst 1, 1)), (9, (.isub, 1)), (10, (.invokestatic 50, 3)), (13, (.ireturn, 1))]
set_option maxRecDepth 100000 in
theorem tbk_X5_isSet : sv_tbok cX5_isSet tb_X5_isSet = true := by decide +kernel
def cal_X5_isSet : List (Nat × (Nat × Nat × sv_P)) := [(50, (3, 90, sp_X5_within))]
def T_X5_isSet : sv_T := (flX5, sfX5, kcX5, klX5, cal_X5_isSet)
set_option maxRecDepth 100000 in
theorem Tok_X5_isSet (l : Launch) : sv_Tok l RX5 sv_all 1 22 T_X5_isSet := ⟨flokX5, sfokX5, kcokX5, klokX5, List.forall_mem_cons.mpr ⟨⟨fun h => absurd h (by decide), fun _ => sv_COs_gen (c_X5_within l) (Or.inl (sv_mem 623 (by decide +kernel) rfl)) kw_X5_within.1 kw_X5_within.2.1 kw_X5_within.2.2 kd_X5_within rfl (by decide) (by decide +kernel)⟩, fun _ h => absurd h List.not_mem_nil⟩⟩
theorem kw_X5_isSet : Cond.instanceMethod yX5_isSet ∈ sv_tb ∧ Cond.selects yX5_isSet.cls yX5_isSet yX5_isSet ∈ sv_tb ∧ Cond.initialized yX5_isSet.cls ∈ sv_tb ∧ Cond.code yX5_isSet cX5_isSet 2 (some .boolean) ∈ sv_tb := ⟨sv_mem 672 (by decide +kernel) rfl, sv_mem 19 (by decide +kernel) rfl, sv_mem 56 (by decide +kernel) rfl, sv_mem 673 (by decide +kernel) rfl⟩
theorem kd_X5_isSet : yX5_isSet.cls ≠ "java/lang/invoke/MethodHandle" ∧ yX5_isSet.cls ≠ "java/lang/invoke/VarHandle" ∧ (parseMethodDescriptor yX5_isSet.desc).map (fun d => d.parameters.length) = some 1 := by decide +kernel
def F_X5_isSet_0 (Wk : sv_K) (Kr : Option sv_AV → sv_S → Prop) (set : Int32) (σ : sv_S) : Prop := ((((0 : Int32) ≤ set ∧ set ≤ (((1 : Int32) <<< ((sv_gA σ 5 0 1) &&& 31)) - (1 : Int32)) → Kr (some (.inl (1 : Int32))) σ) ∧ (¬ ((0 : Int32) ≤ set ∧ set ≤ (((1 : Int32) <<< ((sv_gA σ 5 0 1) &&& 31)) - (1 : Int32))) → Kr (some (.inl (0 : Int32))) σ)))
set_option maxRecDepth 100000 in
theorem bk_X5_isSet_0 (Wk : sv_K) (Kr : Option sv_AV → sv_S → Prop) (set : Int32) (σ : sv_S) (h : F_X5_isSet_0 Wk Kr set σ) : sv_vc tb_X5_isSet T_X5_isSet sv_all (some .boolean) Kr [] Wk 500 0 [some (.inr (.inr (5, 0))), some (.inl set)] [] σ := (match h with | ⟨z1a, z1b⟩ => ⟨fun z1y => ⟨rfl, (z1a z1y)⟩, fun z1y => ⟨rfl, (z1b z1y)⟩⟩)
set_option maxRecDepth 100000 in
theorem m_X5_isSet (l : Launch) (hb : ∀ (Wk : sv_K) (Kr : Option sv_AV → sv_S → Prop), (∀ (set : Int32) (σ : sv_S), F_X5_isSet_0 Wk Kr set σ → Wk 0 [some (.inr (.inr (5, 0))), some (.inl set)] [] σ) → (∀ (set : Int32) (σ : sv_S), (∃ d : dD, (RM d σ) ∧ ((isN (2 ^ dT d) set → Kr (some (.inl (1 : Int32))) σ) ∧ (¬ isN (2 ^ dT d) set → Kr (some (.inl (0 : Int32))) σ))) → Wk 0 [some (.inr (.inr (5, 0))), some (.inl set)] [] σ)) : sv_C l yX5_isSet cX5_isSet 2 (some .boolean) sv_all 1 22 sp_X5_isSet := by
  refine sv_meth sv_clok_all tb_X5_isSet T_X5_isSet (by decide) tbk_X5_isSet (Tok_X5_isSet l) ?_
  intro Wk Kr hc av σ hsp
  have hB := hb Wk Kr (fun set σ h => hc [] 500 0 _ _ _ (bk_X5_isSet_0 Wk Kr set σ h))
  unfold sp_X5_isSet at hsp
  split at hsp
  · exact ⟨⟨by simp, by simp [sv_cat]⟩, hB _ _ hsp⟩
  · exact hsp.elim
set_option maxHeartbeats 4000000 in
set_option maxRecDepth 100000 in
theorem c_X5_isSet (l : Launch) : sv_C l yX5_isSet cX5_isSet 2 (some .boolean) sv_all 1 22 sp_X5_isSet := by
  refine m_X5_isSet l ?_
  intro Wk Kr e0 p σ ⟨d, hR, h1, h0⟩
  apply e0
  have hP := hR.2.2.2.1
  have hb := hR.1.2.1
  have h2 := two_pow_le hR.1
  unfold F_X5_isSet_0
  rw [hP, sh_pow hb]
  refine ⟨fun z => h1 ?_, fun z => h0 ?_⟩
  · rw [isN_le (by omega)]; exact z
  · rw [isN_le (by omega)]; exact z
-- ==== X5_maySet
def sp_X5_maySet : sv_P := fun av σ K => match av with
  | [.inr (.inr (5, 0)), .inl k, .inl nv] => ∃ d : dD, (RM d σ) ∧ ((okS d k nv → K (some (.inl (1 : Int32))) σ) ∧ (¬ okS d k nv → K (some (.inl (0 : Int32))) σ))
  | _ => False
def tb_X5_maySet : List (Nat × (Instr × Nat)) := [(0, (.iload_n 1, 1)), (1, (.tableswitch 85 0 3 #[31, 39, 65, 77], 31)), (32, (.iload_n 2, 1)), (33, (.iconst 0, 1)), (34, (.bipush 60, 2)), (36, (.invokestatic 50, 3)), (39, (.ireturn, 1)), (40, (.iload_n 2, 1)), (41, (.iconst 1, 1)), (42, (.bipush 20, 2)), (44, (.invokestatic 50, 3)), (47, (.ifCond .eq 17, 3)), (50, (.iload_n 2, 1)), (51, (.aload_n 0, 1)), (52, (.getfield 22, 3)), (55, (.iconst 2, 1)), (56, (.iaload, 1)), (57, (.if_icmp .lt 7, 3)), (60, (.iconst 1, 1)), (61, (.goto 4, 3)), (64, (.iconst 0, 1)), (65, (.ireturn, 1)), (66, (.iload_n 2, 1)), (67, (.iconst 0, 1)), (68, (.aload_n 0, 1)), (69, (.getfield 22, 3)), (72, (.iconst 1, 1)), (73, (.iaload, 1)), (74, (.invokestatic 50, 3)), (77, (.ireturn, 1)), (78, (.iload_n 2, 1)), (79, (.iconst 0, 1)), (80, (.bipush 20, 2)), (82, (.invokestatic 50, 3)), (85, (.ireturn, 1)), (86, (.iconst 0, 1)), (87, (.ireturn, 1))]
set_option maxRecDepth 100000 in
theorem tbk_X5_maySet : sv_tbok cX5_maySet tb_X5_maySet = true := by decide +kernel
def cal_X5_maySet : List (Nat × (Nat × Nat × sv_P)) := [(50, (3, 90, sp_X5_within))]
def T_X5_maySet : sv_T := (flX5, sfX5, kcX5, klX5, cal_X5_maySet)
set_option maxRecDepth 100000 in
theorem Tok_X5_maySet (l : Launch) : sv_Tok l RX5 sv_all 1 22 T_X5_maySet := ⟨flokX5, sfokX5, kcokX5, klokX5, List.forall_mem_cons.mpr ⟨⟨fun h => absurd h (by decide), fun _ => sv_COs_gen (c_X5_within l) (Or.inl (sv_mem 623 (by decide +kernel) rfl)) kw_X5_within.1 kw_X5_within.2.1 kw_X5_within.2.2 kd_X5_within rfl (by decide) (by decide +kernel)⟩, fun _ h => absurd h List.not_mem_nil⟩⟩
theorem kw_X5_maySet : Cond.instanceMethod yX5_maySet ∈ sv_tb ∧ Cond.selects yX5_maySet.cls yX5_maySet yX5_maySet ∈ sv_tb ∧ Cond.initialized yX5_maySet.cls ∈ sv_tb ∧ Cond.code yX5_maySet cX5_maySet 3 (some .boolean) ∈ sv_tb := ⟨sv_mem 660 (by decide +kernel) rfl, sv_mem 18 (by decide +kernel) rfl, sv_mem 56 (by decide +kernel) rfl, sv_mem 661 (by decide +kernel) rfl⟩
theorem kd_X5_maySet : yX5_maySet.cls ≠ "java/lang/invoke/MethodHandle" ∧ yX5_maySet.cls ≠ "java/lang/invoke/VarHandle" ∧ (parseMethodDescriptor yX5_maySet.desc).map (fun d => d.parameters.length) = some 2 := by decide +kernel
def F_X5_maySet_0 (Wk : sv_K) (Kr : Option sv_AV → sv_S → Prop) (k : Int32) (nv : Int32) (σ : sv_S) : Prop := (((k.toInt < 0 ∨ 3 < k.toInt) → Kr (some (.inl (0 : Int32))) σ) ∧ ((k.toInt = 0 → ((((0 : Int32) ≤ nv ∧ nv ≤ (60 : Int32) → Kr (some (.inl (1 : Int32))) σ) ∧ (¬ ((0 : Int32) ≤ nv ∧ nv ≤ (60 : Int32)) → Kr (some (.inl (0 : Int32))) σ)))) ∧ ((k.toInt = 1 → ((((1 : Int32) ≤ nv ∧ nv ≤ (20 : Int32) → ((nv < (sv_gA σ 35 0 2) → Kr (some (.inl (0 : Int32))) σ) ∧ (¬ nv < (sv_gA σ 35 0 2) → Kr (some (.inl (1 : Int32))) σ))) ∧ (¬ ((1 : Int32) ≤ nv ∧ nv ≤ (20 : Int32)) → Kr (some (.inl (0 : Int32))) σ)))) ∧ ((k.toInt = 2 → ((((0 : Int32) ≤ nv ∧ nv ≤ (sv_gA σ 35 0 1) → Kr (some (.inl (1 : Int32))) σ) ∧ (¬ ((0 : Int32) ≤ nv ∧ nv ≤ (sv_gA σ 35 0 1)) → Kr (some (.inl (0 : Int32))) σ)))) ∧ ((k.toInt = 3 → ((((0 : Int32) ≤ nv ∧ nv ≤ (20 : Int32) → Kr (some (.inl (1 : Int32))) σ) ∧ (¬ ((0 : Int32) ≤ nv ∧ nv ≤ (20 : Int32)) → Kr (some (.inl (0 : Int32))) σ)))) ∧ True)))))
set_option maxRecDepth 100000 in
theorem bk_X5_maySet_0 (Wk : sv_K) (Kr : Option sv_AV → sv_S → Prop) (k : Int32) (nv : Int32) (σ : sv_S) (h : F_X5_maySet_0 Wk Kr k nv σ) : sv_vc tb_X5_maySet T_X5_maySet sv_all (some .boolean) Kr [] Wk 500 0 [some (.inr (.inr (5, 0))), some (.inl k), some (.inl nv)] [] σ := ⟨fun z6 => ⟨rfl, ((h).1 z6)⟩, rfl, ⟨fun z6 => (match (((h).2).1 z6) with | ⟨z1a, z1b⟩ => ⟨fun z1y => ⟨rfl, (z1a z1y)⟩, fun z1y => ⟨rfl, (z1b z1y)⟩⟩), ⟨fun z6 => (match ((((h).2).2).1 z6) with | ⟨z3a, z3b⟩ => ⟨fun z3y => br_f (by decide) (⟨sb_vin (by decide), ⟨fun z2 => ⟨rfl, (((z3a z3y)).1 z2)⟩, fun z2 => ⟨rfl, (((z3a z3y)).2 z2)⟩⟩⟩), fun z3y => br_t (by decide) (⟨rfl, (z3b z3y)⟩)⟩), ⟨fun z6 => ⟨sb_vin (by decide), (match (((((h).2).2).2).1 z6) with | ⟨z4a, z4b⟩ => ⟨fun z4y => ⟨rfl, (z4a z4y)⟩, fun z4y => ⟨rfl, (z4b z4y)⟩⟩)⟩, ⟨fun z6 => (match ((((((h).2).2).2).2).1 z6) with | ⟨z5a, z5b⟩ => ⟨fun z5y => ⟨rfl, (z5a z5y)⟩, fun z5y => ⟨rfl, (z5b z5y)⟩⟩), trivial⟩⟩⟩⟩⟩
set_option maxRecDepth 100000 in
theorem m_X5_maySet (l : Launch) (hb : ∀ (Wk : sv_K) (Kr : Option sv_AV → sv_S → Prop), (∀ (k : Int32) (nv : Int32) (σ : sv_S), F_X5_maySet_0 Wk Kr k nv σ → Wk 0 [some (.inr (.inr (5, 0))), some (.inl k), some (.inl nv)] [] σ) → (∀ (k : Int32) (nv : Int32) (σ : sv_S), (∃ d : dD, (RM d σ) ∧ ((okS d k nv → Kr (some (.inl (1 : Int32))) σ) ∧ (¬ okS d k nv → Kr (some (.inl (0 : Int32))) σ))) → Wk 0 [some (.inr (.inr (5, 0))), some (.inl k), some (.inl nv)] [] σ)) : sv_C l yX5_maySet cX5_maySet 3 (some .boolean) sv_all 1 22 sp_X5_maySet := by
  refine sv_meth sv_clok_all tb_X5_maySet T_X5_maySet (by decide) tbk_X5_maySet (Tok_X5_maySet l) ?_
  intro Wk Kr hc av σ hsp
  have hB := hb Wk Kr (fun k nv σ h => hc [] 500 0 _ _ _ (bk_X5_maySet_0 Wk Kr k nv σ h))
  unfold sp_X5_maySet at hsp
  split at hsp
  · exact ⟨⟨by simp, by simp [sv_cat]⟩, hB _ _ _ hsp⟩
  · exact hsp.elim
set_option maxHeartbeats 4000000 in
set_option maxRecDepth 100000 in
theorem c_X5_maySet (l : Launch) : sv_C l yX5_maySet cX5_maySet 3 (some .boolean) sv_all 1 22 sp_X5_maySet := by
  refine m_X5_maySet l ?_
  intro Wk Kr e0 k v σ ⟨d, hR, h1, h0⟩
  apply e0
  unfold F_X5_maySet_0
  have hS := hR.2.2.2.2.2.2.2.2.1
  rw [hS 1 (by omega), hS 2 (by omega)]
  refine ⟨fun a => h0 ?_, fun a => ?_, fun a => ?_, fun a => ?_, fun a => ?_, trivial⟩
  · rintro (⟨rfl, _⟩ | ⟨rfl, _⟩ | ⟨rfl, _⟩ | ⟨rfl, _⟩)
    · exact absurd a (by decide)
    · exact absurd a (by decide)
    · exact absurd a (by decide)
    · exact absurd a (by decide)
  · obtain rfl := toI (m := 0) a rfl
    exact ⟨fun y => h1 (okS_0.mpr y), fun y => h0 (fun z => y (okS_0.mp z))⟩
  · obtain rfl := toI (m := 1) a rfl
    exact ⟨fun y => ⟨fun z => h0 (fun x => absurd (okS_1.mp x).1.2 (Int32.not_le.mpr z)), fun z => h1 (okS_1.mpr ⟨⟨y.1, Int32.not_lt.mp z⟩, y.2⟩)⟩, fun y => h0 (fun z => y ⟨(okS_1.mp z).1.1, (okS_1.mp z).2⟩)⟩
  · obtain rfl := toI (m := 2) a rfl
    exact ⟨fun y => h1 (okS_2.mpr y), fun y => h0 (fun z => y (okS_2.mp z))⟩
  · obtain rfl := toI (m := 3) a rfl
    exact ⟨fun y => h1 (okS_3.mpr y), fun y => h0 (fun z => y (okS_3.mp z))⟩
-- ==== X5_isOrder
def sp_X5_isOrder : sv_P := fun av σ K => match av with
  | [.inr (.inr (5, 0)), .inl order] => ∃ d : dD, (RM d σ) ∧ ((isN (fct (dT d)) order → K (some (.inl (1 : Int32))) σ) ∧ (¬ isN (fct (dT d)) order → K (some (.inl (0 : Int32))) σ))
  | _ => False
def tb_X5_isOrder : List (Nat × (Instr × Nat)) := [(0, (.iload_n 1, 1)), (1, (.iconst 0, 1)), (2, (.aload_n 0, 1)), (3, (.getfield 54, 3)), (6, (.invokestatic 162, 3)), (9, (.iconst 1, 1)), (10, (.isub, 1)), (11, (.invokestatic 50, 3)), (14, (.ireturn, 1))]
set_option maxRecDepth 100000 in
theorem tbk_X5_isOrder : sv_tbok cX5_isOrder tb_X5_isOrder = true := by decide +kernel
def cal_X5_isOrder : List (Nat × (Nat × Nat × sv_P)) := [(162, (1, 90, sp_X5_factorial)), (50, (3, 90, sp_X5_within))]
def T_X5_isOrder : sv_T := (flX5, sfX5, kcX5, klX5, cal_X5_isOrder)
set_option maxRecDepth 100000 in
theorem Tok_X5_isOrder (l : Launch) : sv_Tok l RX5 sv_all 1 22 T_X5_isOrder := ⟨flokX5, sfokX5, kcokX5, klokX5, List.forall_mem_cons.mpr ⟨⟨fun h => absurd h (by decide), fun _ => sv_COs_gen (c_X5_factorial l) (Or.inl (sv_mem 817 (by decide +kernel) rfl)) kw_X5_factorial.1 kw_X5_factorial.2.1 kw_X5_factorial.2.2 kd_X5_factorial rfl (by decide) (by decide +kernel)⟩, List.forall_mem_cons.mpr ⟨⟨fun h => absurd h (by decide), fun _ => sv_COs_gen (c_X5_within l) (Or.inl (sv_mem 623 (by decide +kernel) rfl)) kw_X5_within.1 kw_X5_within.2.1 kw_X5_within.2.2 kd_X5_within rfl (by decide) (by decide +kernel)⟩, fun _ h => absurd h List.not_mem_nil⟩⟩⟩
theorem kw_X5_isOrder : Cond.instanceMethod yX5_isOrder ∈ sv_tb ∧ Cond.selects yX5_isOrder.cls yX5_isOrder yX5_isOrder ∈ sv_tb ∧ Cond.initialized yX5_isOrder.cls ∈ sv_tb ∧ Cond.code yX5_isOrder cX5_isOrder 2 (some .boolean) ∈ sv_tb := ⟨sv_mem 815 (by decide +kernel) rfl, sv_mem 42 (by decide +kernel) rfl, sv_mem 56 (by decide +kernel) rfl, sv_mem 816 (by decide +kernel) rfl⟩
theorem kd_X5_isOrder : yX5_isOrder.cls ≠ "java/lang/invoke/MethodHandle" ∧ yX5_isOrder.cls ≠ "java/lang/invoke/VarHandle" ∧ (parseMethodDescriptor yX5_isOrder.desc).map (fun d => d.parameters.length) = some 1 := by decide +kernel
def F_X5_isOrder_0 (Wk : sv_K) (Kr : Option sv_AV → sv_S → Prop) (order : Int32) (σ : sv_S) : Prop := (∃ e1 : Nat, (e1 ≤ 5 ∧ (sv_gA σ 5 0 1) = nI e1) ∧ (∀ v2 : Int32, v2 = nI (fct e1) → ((((0 : Int32) ≤ order ∧ order ≤ (v2 - (1 : Int32)) → Kr (some (.inl (1 : Int32))) σ) ∧ (¬ ((0 : Int32) ≤ order ∧ order ≤ (v2 - (1 : Int32))) → Kr (some (.inl (0 : Int32))) σ)))))
set_option maxRecDepth 100000 in
theorem bk_X5_isOrder_0 (Wk : sv_K) (Kr : Option sv_AV → sv_S → Prop) (order : Int32) (σ : sv_S) (h : F_X5_isOrder_0 Wk Kr order σ) : sv_vc tb_X5_isOrder T_X5_isOrder sv_all (some .boolean) Kr [] Wk 500 0 [some (.inr (.inr (5, 0))), some (.inl order)] [] σ := (match h with | ⟨e1, z4p, z4k⟩ => ⟨e1, z4p, fun v2 z4y => (match (z4k v2 z4y) with | ⟨z3a, z3b⟩ => ⟨fun z3y => ⟨rfl, (z3a z3y)⟩, fun z3y => ⟨rfl, (z3b z3y)⟩⟩)⟩)
set_option maxRecDepth 100000 in
theorem m_X5_isOrder (l : Launch) (hb : ∀ (Wk : sv_K) (Kr : Option sv_AV → sv_S → Prop), (∀ (order : Int32) (σ : sv_S), F_X5_isOrder_0 Wk Kr order σ → Wk 0 [some (.inr (.inr (5, 0))), some (.inl order)] [] σ) → (∀ (order : Int32) (σ : sv_S), (∃ d : dD, (RM d σ) ∧ ((isN (fct (dT d)) order → Kr (some (.inl (1 : Int32))) σ) ∧ (¬ isN (fct (dT d)) order → Kr (some (.inl (0 : Int32))) σ))) → Wk 0 [some (.inr (.inr (5, 0))), some (.inl order)] [] σ)) : sv_C l yX5_isOrder cX5_isOrder 2 (some .boolean) sv_all 1 22 sp_X5_isOrder := by
  refine sv_meth sv_clok_all tb_X5_isOrder T_X5_isOrder (by decide) tbk_X5_isOrder (Tok_X5_isOrder l) ?_
  intro Wk Kr hc av σ hsp
  have hB := hb Wk Kr (fun order σ h => hc [] 500 0 _ _ _ (bk_X5_isOrder_0 Wk Kr order σ h))
  unfold sp_X5_isOrder at hsp
  split at hsp
  · exact ⟨⟨by simp, by simp [sv_cat]⟩, hB _ _ hsp⟩
  · exact hsp.elim
set_option maxHeartbeats 4000000 in
set_option maxRecDepth 100000 in
theorem c_X5_isOrder (l : Launch) : sv_C l yX5_isOrder cX5_isOrder 2 (some .boolean) sv_all 1 22 sp_X5_isOrder := by
  refine m_X5_isOrder l ?_
  intro Wk Kr e0 p σ ⟨d, hR, h1, h0⟩
  apply e0
  have hb := hR.1.2.1
  have hf := fct_lt (dT d) (by omega)
  refine ⟨dT d, ⟨hb, hR.2.2.2.1⟩, fun v2 h2 => ?_⟩
  subst h2
  refine ⟨fun z => h1 ?_, fun z => h0 ?_⟩
  · rw [isN_le (by omega)]; exact z
  · rw [isN_le (by omega)]; exact z
