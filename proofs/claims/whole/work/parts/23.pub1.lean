-- ==== X4_isSetting
def sp_X4_isSetting : sv_P := fun av σ K => match av with
  | [.inr (.inr (4, 0)), .inl k, .inl nv] => ∃ d : dD, (RP d σ) ∧ ((okS d k nv → K (some (.inl (1 : Int32))) σ) ∧ (¬ okS d k nv → K (some (.inl (0 : Int32))) σ))
  | _ => False
def tb_X4_isSetting : List (Nat × (Instr × Nat)) := [(0, (.iload_n 1, 1)), (1, (.ifCond .ne 11, 3)), (4, (.iload_n 2, 1)), (5, (.iconst 0, 1)), (6, (.bipush 60, 2)), (8, (.invokestatic 68, 3)), (11, (.ireturn, 1)), (12, (.iload_n 1, 1)), (13, (.iconst 1, 1)), (14, (.if_icmp .ne 23, 3)), (17, (.iload_n 2, 1)), (18, (.iconst 1, 1)), (19, (.aload_n 0, 1)), (20, (.getfield 10, 3)), (23, (.getfield 99, 3)), (26, (.iconst 2, 1)), (27, (.iaload, 1)), (28, (.invokestatic 197, 3)), (31, (.bipush 20, 2)), (33, (.invokestatic 68, 3)), (36, (.ireturn, 1)), (37, (.iload_n 1, 1)), (38, (.iconst 2, 1)), (39, (.if_icmp .ne 18, 3)), (42, (.iload_n 2, 1)), (43, (.iconst 0, 1)), (44, (.aload_n 0, 1)), (45, (.getfield 10, 3)), (48, (.getfield 99, 3)), (51, (.iconst 1, 1)), (52, (.iaload, 1)), (53, (.invokestatic 68, 3)), (56, (.ireturn, 1)), (57, (.iload_n 1, 1)), (58, (.iconst 3, 1)), (59, (.if_icmp .ne 17, 3)), (62, (.iload_n 2, 1)), (63, (.iconst 0, 1)), (64, (.bipush 20, 2)), (66, (.invokestatic 68, 3)), (69, (.ifCond .eq 7, 3)), (72, (.iconst 1, 1)), (73, (.goto 4, 3)), (76, (.iconst 0, 1)), (77, (.ireturn, 1))]
set_option maxRecDepth 100000 in
theorem tbk_X4_isSetting : sv_tbok cX4_isSetting tb_X4_isSetting = true := by decide +kernel
def cal_X4_isSetting : List (Nat × (Nat × Nat × sv_P)) := [(68, (3, 90, sp_X4_within)), (197, (2, 90, sp_J9_max_7cf53))]
def T_X4_isSetting : sv_T := (flX4, sfX4, kcX4, klX4, cal_X4_isSetting)
set_option maxRecDepth 100000 in
theorem Tok_X4_isSetting (l : Launch) : sv_Tok l RX4 sv_all 1 22 T_X4_isSetting := ⟨flokX4, sfokX4, kcokX4, klokX4, List.forall_mem_cons.mpr ⟨⟨fun h => absurd h (by decide), fun _ => sv_COs_gen (c_X4_within l) (Or.inl (sv_mem 235 (by decide +kernel) rfl)) kw_X4_within.1 kw_X4_within.2.1 kw_X4_within.2.2 kd_X4_within rfl (by decide) (by decide +kernel)⟩, List.forall_mem_cons.mpr ⟨⟨fun h => absurd h (by decide), fun _ => sv_COs_max (sv_mem 306 (by decide +kernel) rfl) (by decide) (by decide)⟩, fun _ h => absurd h List.not_mem_nil⟩⟩⟩
theorem kw_X4_isSetting : Cond.instanceMethod yX4_isSetting ∈ sv_tb ∧ Cond.selects yX4_isSetting.cls yX4_isSetting yX4_isSetting ∈ sv_tb ∧ Cond.initialized yX4_isSetting.cls ∈ sv_tb ∧ Cond.code yX4_isSetting cX4_isSetting 3 (some .boolean) ∈ sv_tb := ⟨sv_mem 304 (by decide +kernel) rfl, sv_mem 1 (by decide +kernel) rfl, sv_mem 51 (by decide +kernel) rfl, sv_mem 305 (by decide +kernel) rfl⟩
theorem kd_X4_isSetting : yX4_isSetting.cls ≠ "java/lang/invoke/MethodHandle" ∧ yX4_isSetting.cls ≠ "java/lang/invoke/VarHandle" ∧ (parseMethodDescriptor yX4_isSetting.desc).map (fun d => d.parameters.length) = some 2 := by decide +kernel
def F_X4_isSetting_0 (Wk : sv_K) (Kr : Option sv_AV → sv_S → Prop) (k : Int32) (nv : Int32) (σ : sv_S) : Prop := ((¬ k = (0 : Int32) → ((¬ k = (1 : Int32) → ((¬ k = (2 : Int32) → ((¬ k = (3 : Int32) → Kr (some (.inl (0 : Int32))) σ) ∧ (k = (3 : Int32) → ((((0 : Int32) ≤ nv ∧ nv ≤ (20 : Int32) → Kr (some (.inl (1 : Int32))) σ) ∧ (¬ ((0 : Int32) ≤ nv ∧ nv ≤ (20 : Int32)) → Kr (some (.inl (0 : Int32))) σ)))))) ∧ (k = (2 : Int32) → ((((0 : Int32) ≤ nv ∧ nv ≤ (sv_gA σ 20 0 1) → Kr (some (.inl (1 : Int32))) σ) ∧ (¬ ((0 : Int32) ≤ nv ∧ nv ≤ (sv_gA σ 20 0 1)) → Kr (some (.inl (0 : Int32))) σ)))))) ∧ (k = (1 : Int32) → ((((if (1 : Int32) < (sv_gA σ 20 0 2) then (sv_gA σ 20 0 2) else (1 : Int32)) ≤ nv ∧ nv ≤ (20 : Int32) → Kr (some (.inl (1 : Int32))) σ) ∧ (¬ ((if (1 : Int32) < (sv_gA σ 20 0 2) then (sv_gA σ 20 0 2) else (1 : Int32)) ≤ nv ∧ nv ≤ (20 : Int32)) → Kr (some (.inl (0 : Int32))) σ)))))) ∧ (k = (0 : Int32) → ((((0 : Int32) ≤ nv ∧ nv ≤ (60 : Int32) → Kr (some (.inl (1 : Int32))) σ) ∧ (¬ ((0 : Int32) ≤ nv ∧ nv ≤ (60 : Int32)) → Kr (some (.inl (0 : Int32))) σ)))))
set_option maxRecDepth 100000 in
theorem bk_X4_isSetting_0 (Wk : sv_K) (Kr : Option sv_AV → sv_S → Prop) (k : Int32) (nv : Int32) (σ : sv_S) (h : F_X4_isSetting_0 Wk Kr k nv σ) : sv_vc tb_X4_isSetting T_X4_isSetting sv_all (some .boolean) Kr [] Wk 500 0 [some (.inr (.inr (4, 0))), some (.inl k), some (.inl nv)] [] σ := ⟨fun z8 => ⟨fun z6 => ⟨fun z4 => ⟨fun z2 => ⟨rfl, ((((((((h).1 z8)).1 z6)).1 z4)).1 z2)⟩, fun z2 => (match ((((((((h).1 z8)).1 z6)).1 z4)).2 z2) with | ⟨z1a, z1b⟩ => ⟨fun z1y => br_f (by decide) (⟨rfl, (z1a z1y)⟩), fun z1y => br_t (by decide) (⟨rfl, (z1b z1y)⟩)⟩)⟩, fun z4 => ⟨sb_vin (by decide), (match ((((((h).1 z8)).1 z6)).2 z4) with | ⟨z3a, z3b⟩ => ⟨fun z3y => ⟨rfl, (z3a z3y)⟩, fun z3y => ⟨rfl, (z3b z3y)⟩⟩)⟩⟩, fun z6 => ⟨sb_vin (by decide), (match ((((h).1 z8)).2 z6) with | ⟨z5a, z5b⟩ => ⟨fun z5y => ⟨rfl, (z5a z5y)⟩, fun z5y => ⟨rfl, (z5b z5y)⟩⟩)⟩⟩, fun z8 => (match ((h).2 z8) with | ⟨z7a, z7b⟩ => ⟨fun z7y => ⟨rfl, (z7a z7y)⟩, fun z7y => ⟨rfl, (z7b z7y)⟩⟩)⟩
set_option maxRecDepth 100000 in
theorem m_X4_isSetting (l : Launch) (hb : ∀ (Wk : sv_K) (Kr : Option sv_AV → sv_S → Prop), (∀ (k : Int32) (nv : Int32) (σ : sv_S), F_X4_isSetting_0 Wk Kr k nv σ → Wk 0 [some (.inr (.inr (4, 0))), some (.inl k), some (.inl nv)] [] σ) → (∀ (k : Int32) (nv : Int32) (σ : sv_S), (∃ d : dD, (RP d σ) ∧ ((okS d k nv → Kr (some (.inl (1 : Int32))) σ) ∧ (¬ okS d k nv → Kr (some (.inl (0 : Int32))) σ))) → Wk 0 [some (.inr (.inr (4, 0))), some (.inl k), some (.inl nv)] [] σ)) : sv_C l yX4_isSetting cX4_isSetting 3 (some .boolean) sv_all 1 22 sp_X4_isSetting := by
  refine sv_meth sv_clok_all tb_X4_isSetting T_X4_isSetting (by decide) tbk_X4_isSetting (Tok_X4_isSetting l) ?_
  intro Wk Kr hc av σ hsp
  have hB := hb Wk Kr (fun k nv σ h => hc [] 500 0 _ _ _ (bk_X4_isSetting_0 Wk Kr k nv σ h))
  unfold sp_X4_isSetting at hsp
  split at hsp
  · exact ⟨⟨by simp, by simp [sv_cat]⟩, hB _ _ _ hsp⟩
  · exact hsp.elim
theorem okS_0 {d : dD} {v : Int32} : okS d 0 v ↔ ((0 : Int32) ≤ v ∧ v ≤ 60) := ⟨fun h => by
  rcases h with ⟨_, h⟩ | ⟨h, _⟩ | ⟨h, _⟩ | ⟨h, _⟩
  · exact h
  all_goals exact absurd h (by decide), fun h => Or.inl ⟨rfl, h⟩⟩
theorem okS_1 {d : dD} {v : Int32} : okS d 1 v ↔ (((1 : Int32) ≤ v ∧ nI (dS d 2) ≤ v) ∧ v ≤ 20) := ⟨fun h => by
  rcases h with ⟨h, _⟩ | ⟨_, h⟩ | ⟨h, _⟩ | ⟨h, _⟩
  · exact absurd h (by decide)
  · exact h
  all_goals exact absurd h (by decide), fun h => Or.inr (Or.inl ⟨rfl, h⟩)⟩
theorem okS_2 {d : dD} {v : Int32} : okS d 2 v ↔ ((0 : Int32) ≤ v ∧ v ≤ nI (dS d 1)) := ⟨fun h => by
  rcases h with ⟨h, _⟩ | ⟨h, _⟩ | ⟨_, h⟩ | ⟨h, _⟩
  · exact absurd h (by decide)
  · exact absurd h (by decide)
  · exact h
  · exact absurd h (by decide), fun h => Or.inr (Or.inr (Or.inl ⟨rfl, h⟩))⟩
theorem okS_3 {d : dD} {v : Int32} : okS d 3 v ↔ ((0 : Int32) ≤ v ∧ v ≤ 20) := ⟨fun h => by
  rcases h with ⟨h, _⟩ | ⟨h, _⟩ | ⟨h, _⟩ | ⟨_, h⟩
  · exact absurd h (by decide)
  · exact absurd h (by decide)
  · exact absurd h (by decide)
  · exact h, fun h => Or.inr (Or.inr (Or.inr ⟨rfl, h⟩))⟩
theorem max_le {a b v : Int32} : (if a < b then b else a) ≤ v ↔ a ≤ v ∧ b ≤ v := by
  simp only [Int32.le_iff_toInt_le, Int32.lt_iff_toInt_lt]
  split <;> omega
set_option maxHeartbeats 4000000 in
set_option maxRecDepth 100000 in
theorem c_X4_isSetting (l : Launch) : sv_C l yX4_isSetting cX4_isSetting 3 (some .boolean) sv_all 1 22 sp_X4_isSetting := by
  refine m_X4_isSetting l ?_
  intro Wk Kr e0 k v σ ⟨d, hR, h1, h0⟩
  apply e0
  unfold F_X4_isSetting_0
  rw [hR.2.2.2.1 1 (by omega), hR.2.2.2.1 2 (by omega)]
  refine ⟨fun a => ⟨fun b => ⟨fun c => ⟨fun e => h0 ?_, fun e => ?_⟩, fun c => ?_⟩, fun b => ?_⟩, fun a => ?_⟩
  · rintro (⟨x, _⟩ | ⟨x, _⟩ | ⟨x, _⟩ | ⟨x, _⟩)
    · exact a x
    · exact b x
    · exact c x
    · exact e x
  · subst e
    exact ⟨fun y => h1 (okS_3.mpr y), fun y => h0 (fun z => y (okS_3.mp z))⟩
  · subst c
    exact ⟨fun y => h1 (okS_2.mpr y), fun y => h0 (fun z => y (okS_2.mp z))⟩
  · subst b
    exact ⟨fun y => h1 (okS_1.mpr ⟨max_le.mp y.1, y.2⟩), fun y => h0 (fun z => y ⟨max_le.mpr (okS_1.mp z).1, (okS_1.mp z).2⟩)⟩
  · subst a
    exact ⟨fun y => h1 (okS_0.mpr y), fun y => h0 (fun z => y (okS_0.mp z))⟩
-- ==== X4_isOfThing
def sp_X4_isOfThing : sv_P := fun av σ K => match av with
  | [.inr (.inr (4, 0)), .inl what, .inl first] => ∃ d : dD, ∃ f : Nat, (RP d σ ∧ (f ≤ 20 ∧ first = nI f)) ∧ ((inT d f what → K (some (.inl (1 : Int32))) σ) ∧ (¬ inT d f what → K (some (.inl (0 : Int32))) σ))
  | _ => False
def tb_X4_isOfThing : List (Nat × (Instr × Nat)) := [(0, (.iload_n 1, 1)), (1, (.iload_n 2, 1)), (2, (.iload_n 2, 1)), (3, (.aload_n 0, 1)), (4, (.getfield 10, 3)), (7, (.getfield 72, 3)), (10, (.iadd, 1)), (11, (.iconst 1, 1)), (12, (.isub, 1)), (13, (.invokestatic 68, 3)), (16, (.ireturn, 1))]
set_option maxRecDepth 100000 in
theorem tbk_X4_isOfThing : sv_tbok cX4_isOfThing tb_X4_isOfThing = true := by decide +kernel
def cal_X4_isOfThing : List (Nat × (Nat × Nat × sv_P)) := [(68, (3, 90, sp_X4_within))]
def T_X4_isOfThing : sv_T := (flX4, sfX4, kcX4, klX4, cal_X4_isOfThing)
set_option maxRecDepth 100000 in
theorem Tok_X4_isOfThing (l : Launch) : sv_Tok l RX4 sv_all 1 22 T_X4_isOfThing := ⟨flokX4, sfokX4, kcokX4, klokX4, List.forall_mem_cons.mpr ⟨⟨fun h => absurd h (by decide), fun _ => sv_COs_gen (c_X4_within l) (Or.inl (sv_mem 235 (by decide +kernel) rfl)) kw_X4_within.1 kw_X4_within.2.1 kw_X4_within.2.2 kd_X4_within rfl (by decide) (by decide +kernel)⟩, fun _ h => absurd h List.not_mem_nil⟩⟩
theorem kw_X4_isOfThing : Cond.instanceMethod yX4_isOfThing ∈ sv_tb ∧ Cond.selects yX4_isOfThing.cls yX4_isOfThing yX4_isOfThing ∈ sv_tb ∧ Cond.initialized yX4_isOfThing.cls ∈ sv_tb ∧ Cond.code yX4_isOfThing cX4_isOfThing 3 (some .boolean) ∈ sv_tb := ⟨sv_mem 319 (by decide +kernel) rfl, sv_mem 2 (by decide +kernel) rfl, sv_mem 51 (by decide +kernel) rfl, sv_mem 320 (by decide +kernel) rfl⟩
theorem kd_X4_isOfThing : yX4_isOfThing.cls ≠ "java/lang/invoke/MethodHandle" ∧ yX4_isOfThing.cls ≠ "java/lang/invoke/VarHandle" ∧ (parseMethodDescriptor yX4_isOfThing.desc).map (fun d => d.parameters.length) = some 2 := by decide +kernel
def F_X4_isOfThing_0 (Wk : sv_K) (Kr : Option sv_AV → sv_S → Prop) (what : Int32) (first : Int32) (σ : sv_S) : Prop := (((first ≤ what ∧ what ≤ ((first + (sv_gA σ 2 0 1)) - (1 : Int32)) → Kr (some (.inl (1 : Int32))) σ) ∧ (¬ (first ≤ what ∧ what ≤ ((first + (sv_gA σ 2 0 1)) - (1 : Int32))) → Kr (some (.inl (0 : Int32))) σ)))
set_option maxRecDepth 100000 in
theorem bk_X4_isOfThing_0 (Wk : sv_K) (Kr : Option sv_AV → sv_S → Prop) (what : Int32) (first : Int32) (σ : sv_S) (h : F_X4_isOfThing_0 Wk Kr what first σ) : sv_vc tb_X4_isOfThing T_X4_isOfThing sv_all (some .boolean) Kr [] Wk 500 0 [some (.inr (.inr (4, 0))), some (.inl what), some (.inl first)] [] σ := (match h with | ⟨z1a, z1b⟩ => ⟨fun z1y => ⟨rfl, (z1a z1y)⟩, fun z1y => ⟨rfl, (z1b z1y)⟩⟩)
set_option maxRecDepth 100000 in
theorem m_X4_isOfThing (l : Launch) (hb : ∀ (Wk : sv_K) (Kr : Option sv_AV → sv_S → Prop), (∀ (what : Int32) (first : Int32) (σ : sv_S), F_X4_isOfThing_0 Wk Kr what first σ → Wk 0 [some (.inr (.inr (4, 0))), some (.inl what), some (.inl first)] [] σ) → (∀ (what : Int32) (first : Int32) (σ : sv_S), (∃ d : dD, ∃ f : Nat, (RP d σ ∧ (f ≤ 20 ∧ first = nI f)) ∧ ((inT d f what → Kr (some (.inl (1 : Int32))) σ) ∧ (¬ inT d f what → Kr (some (.inl (0 : Int32))) σ))) → Wk 0 [some (.inr (.inr (4, 0))), some (.inl what), some (.inl first)] [] σ)) : sv_C l yX4_isOfThing cX4_isOfThing 3 (some .boolean) sv_all 1 22 sp_X4_isOfThing := by
  refine sv_meth sv_clok_all tb_X4_isOfThing T_X4_isOfThing (by decide) tbk_X4_isOfThing (Tok_X4_isOfThing l) ?_
  intro Wk Kr hc av σ hsp
  have hB := hb Wk Kr (fun what first σ h => hc [] 500 0 _ _ _ (bk_X4_isOfThing_0 Wk Kr what first σ h))
  unfold sp_X4_isOfThing at hsp
  split at hsp
  · exact ⟨⟨by simp, by simp [sv_cat]⟩, hB _ _ _ hsp⟩
  · exact hsp.elim
theorem inT_iff {d : dD} (h : dT d ≤ 5) {f : Nat} (hf : f ≤ 20) (x : Int32) : inT d f x ↔ nI f ≤ x ∧ x ≤ nI f + nI (dT d) - 1 := by
  rw [nI_add, Int32.le_iff_toInt_le, Int32.le_iff_toInt_le, show (1 : Int32) = nI 1 from rfl, pk_sub_toInt (by omega) (by omega), nI_toInt (by omega)]
  constructor
  · rintro ⟨t, ht, rfl⟩
    rw [nI_toInt (by omega)]
    omega
  · rintro ⟨h1, h2⟩
    obtain ⟨n, hn, rfl⟩ := nI_of (x := x) (by rw [Int32.lt_iff_toInt_lt]; show ¬ _ < (0 : Int); omega)
    rw [nI_toInt hn] at h1 h2
    exact ⟨n - f, by omega, by rw [show f + (n - f) = n by omega]⟩
set_option maxHeartbeats 4000000 in
set_option maxRecDepth 100000 in
theorem c_X4_isOfThing (l : Launch) : sv_C l yX4_isOfThing cX4_isOfThing 3 (some .boolean) sv_all 1 22 sp_X4_isOfThing := by
  refine m_X4_isOfThing l ?_
  intro Wk Kr e0 what first σ ⟨d, f, ⟨hR, hf, hfi⟩, h1, h0⟩
  subst hfi
  apply e0
  unfold F_X4_isOfThing_0
  rw [hR.2.2.1, ← inT_iff hR.1.2.1 hf]
  exact ⟨h1, h0⟩
-- ==== X4_isOrder
def sp_X4_isOrder : sv_P := fun av σ K => match av with
  | [.inr (.inr (4, 0)), .inl order] => ∃ d : dD, (RP d σ) ∧ ((isN (fct (dT d)) order → K (some (.inl (1 : Int32))) σ) ∧ (¬ isN (fct (dT d)) order → K (some (.inl (0 : Int32))) σ))
  | _ => False
def tb_X4_isOrder : List (Nat × (Instr × Nat)) := [(0, (.iload_n 1, 1)), (1, (.iconst 0, 1)), (2, (.aload_n 0, 1)), (3, (.getfield 10, 3)), (6, (.invokevirtual 176, 3)), (9, (.iconst 1, 1)), (10, (.isub, 1)), (11, (.invokestatic 68, 3)), (14, (.ireturn, 1))]
set_option maxRecDepth 100000 in
theorem tbk_X4_isOrder : sv_tbok cX4_isOrder tb_X4_isOrder = true := by decide +kernel
def cal_X4_isOrder : List (Nat × (Nat × Nat × sv_P)) := [(176, (1, 2, sp_X2_countOrders)), (68, (3, 90, sp_X4_within))]
def T_X4_isOrder : sv_T := (flX4, sfX4, kcX4, klX4, cal_X4_isOrder)
set_option maxRecDepth 100000 in
theorem Tok_X4_isOrder (l : Launch) : sv_Tok l RX4 sv_all 1 22 T_X4_isOrder := ⟨flokX4, sfokX4, kcokX4, klokX4, List.forall_mem_cons.mpr ⟨⟨fun _ => sv_COv_of (c_X2_countOrders l) sv_clok_all (sv_mem 482 (by decide +kernel) rfl) kw_X2_countOrders.1 kw_X2_countOrders.2.1 kw_X2_countOrders.2.2.1 kw_X2_countOrders.2.2.2 kd_X2_countOrders rfl (by decide) (by decide +kernel) rfl (by decide), fun h => absurd h (by decide)⟩, List.forall_mem_cons.mpr ⟨⟨fun h => absurd h (by decide), fun _ => sv_COs_gen (c_X4_within l) (Or.inl (sv_mem 235 (by decide +kernel) rfl)) kw_X4_within.1 kw_X4_within.2.1 kw_X4_within.2.2 kd_X4_within rfl (by decide) (by decide +kernel)⟩, fun _ h => absurd h List.not_mem_nil⟩⟩⟩
theorem kw_X4_isOrder : Cond.instanceMethod yX4_isOrder ∈ sv_tb ∧ Cond.selects yX4_isOrder.cls yX4_isOrder yX4_isOrder ∈ sv_tb ∧ Cond.initialized yX4_isOrder.cls ∈ sv_tb ∧ Cond.code yX4_isOrder cX4_isOrder 2 (some .boolean) ∈ sv_tb := ⟨sv_mem 480 (by decide +kernel) rfl, sv_mem 10 (by decide +kernel) rfl, sv_mem 51 (by decide +kernel) rfl, sv_mem 481 (by decide +kernel) rfl⟩
theorem kd_X4_isOrder : yX4_isOrder.cls ≠ "java/lang/invoke/MethodHandle" ∧ yX4_isOrder.cls ≠ "java/lang/invoke/VarHandle" ∧ (parseMethodDescriptor yX4_isOrder.desc).map (fun d => d.parameters.length) = some 1 := by decide +kernel
def F_X4_isOrder_0 (Wk : sv_K) (Kr : Option sv_AV → sv_S → Prop) (order : Int32) (σ : sv_S) : Prop := (∃ d1 : dD, (RP d1 σ) ∧ (∀ v2 : Int32, v2 = nI (fct (dT d1)) → ((((0 : Int32) ≤ order ∧ order ≤ (v2 - (1 : Int32)) → Kr (some (.inl (1 : Int32))) σ) ∧ (¬ ((0 : Int32) ≤ order ∧ order ≤ (v2 - (1 : Int32))) → Kr (some (.inl (0 : Int32))) σ)))))
set_option maxRecDepth 100000 in
theorem bk_X4_isOrder_0 (Wk : sv_K) (Kr : Option sv_AV → sv_S → Prop) (order : Int32) (σ : sv_S) (h : F_X4_isOrder_0 Wk Kr order σ) : sv_vc tb_X4_isOrder T_X4_isOrder sv_all (some .boolean) Kr [] Wk 500 0 [some (.inr (.inr (4, 0))), some (.inl order)] [] σ := (match h with | ⟨d1, z4p, z4k⟩ => ⟨d1, z4p, fun v2 z4y => (match (z4k v2 z4y) with | ⟨z3a, z3b⟩ => ⟨fun z3y => ⟨rfl, (z3a z3y)⟩, fun z3y => ⟨rfl, (z3b z3y)⟩⟩)⟩)
set_option maxRecDepth 100000 in
theorem m_X4_isOrder (l : Launch) (hb : ∀ (Wk : sv_K) (Kr : Option sv_AV → sv_S → Prop), (∀ (order : Int32) (σ : sv_S), F_X4_isOrder_0 Wk Kr order σ → Wk 0 [some (.inr (.inr (4, 0))), some (.inl order)] [] σ) → (∀ (order : Int32) (σ : sv_S), (∃ d : dD, (RP d σ) ∧ ((isN (fct (dT d)) order → Kr (some (.inl (1 : Int32))) σ) ∧ (¬ isN (fct (dT d)) order → Kr (some (.inl (0 : Int32))) σ))) → Wk 0 [some (.inr (.inr (4, 0))), some (.inl order)] [] σ)) : sv_C l yX4_isOrder cX4_isOrder 2 (some .boolean) sv_all 1 22 sp_X4_isOrder := by
  refine sv_meth sv_clok_all tb_X4_isOrder T_X4_isOrder (by decide) tbk_X4_isOrder (Tok_X4_isOrder l) ?_
  intro Wk Kr hc av σ hsp
  have hB := hb Wk Kr (fun order σ h => hc [] 500 0 _ _ _ (bk_X4_isOrder_0 Wk Kr order σ h))
  unfold sp_X4_isOrder at hsp
  split at hsp
  · exact ⟨⟨by simp, by simp [sv_cat]⟩, hB _ _ hsp⟩
  · exact hsp.elim
theorem fct_le : ∀ n, n < 6 → fct n ≤ 120 ∧ 1 ≤ fct n := by decide +kernel
set_option maxHeartbeats 4000000 in
set_option maxRecDepth 100000 in
theorem c_X4_isOrder (l : Launch) : sv_C l yX4_isOrder cX4_isOrder 2 (some .boolean) sv_all 1 22 sp_X4_isOrder := by
  refine m_X4_isOrder l ?_
  intro Wk Kr e0 order σ ⟨d, hR, h1, h0⟩
  apply e0
  refine ⟨d, hR, fun v2 h2 => ?_⟩
  rw [h2, ← isN_le (by have := fct_le (dT d) (by have := hR.1.2.1; omega); omega)]
  exact ⟨h1, h0⟩
-- ==== X4_part
def sp_X4_part : sv_P := fun av σ K => match av with
  | [.inr (.inr (4, 0)), .inl runs, .inl worst] => ∃ c : Nat, ∃ d : dD, (CI c d σ ∧ c < 900000) ∧ (∀ v : Int32, ∀ σ2 : sv_S, v = A_part d runs worst ∧ CI (c + 6) (U_part d runs worst) σ2 ∧ sq xg σ σ2 → K (some (.inl v)) σ2)
  | _ => False
def tb_X4_part : List (Nat × (Instr × Nat)) := [(0, (.iload_n 1, 1)), (1, (.iload_n 2, 1)), (2, (.invokestatic 41, 3)), (5, (.ifCond .ne 6, 3)), (8, (.bipush (-2), 2)), (10, (.ireturn, 1)), (11, (.aload_n 0, 1)), (12, (.getfield 10, 3)), (15, (.getfield 45, 3)), (18, (.bipush 10, 2)), (20, (.if_icmp .lt 6, 3)), (23, (.bipush (-4), 2)), (25, (.ireturn, 1)), (26, (.aload_n 0, 1)), (27, (.getfield 10, 3)), (30, (.iload_n 1, 1)), (31, (.iload_n 2, 1)), (32, (.invokevirtual 49, 3)), (35, (.istore_n 3, 1)), (36, (.aload_n 0, 1)), (37, (.getfield 21, 3)), (40, (.getfield 53, 3)), (43, (.iload_n 3, 1)), (44, (.iconst 0, 1)), (45, (.iastore, 1)), (46, (.iload_n 3, 1)), (47, (.ireturn, 1))]
set_option maxRecDepth 100000 in
theorem tbk_X4_part : sv_tbok cX4_part tb_X4_part = true := by decide +kernel
def cal_X4_part : List (Nat × (Nat × Nat × sv_P)) := [(41, (2, 90, sp_X4_areRuns)), (49, (3, 2, sp_X2_addPart))]
def T_X4_part : sv_T := (flX4, sfX4, kcX4, klX4, cal_X4_part)
set_option maxRecDepth 100000 in
theorem Tok_X4_part (l : Launch) : sv_Tok l RX4 sv_all 2 49 T_X4_part := ⟨flokX4, sfokX4, kcokX4, klokX4, List.forall_mem_cons.mpr ⟨⟨fun h => absurd h (by decide), fun _ => sv_COs_gen (c_X4_areRuns l) (Or.inl (sv_mem 232 (by decide +kernel) rfl)) kw_X4_areRuns.1 kw_X4_areRuns.2.1 kw_X4_areRuns.2.2 kd_X4_areRuns rfl (by decide) (by decide +kernel)⟩, List.forall_mem_cons.mpr ⟨⟨fun _ => sv_COv_of (c_X2_addPart l) sv_clok_all (sv_mem 238 (by decide +kernel) rfl) kw_X2_addPart.1 kw_X2_addPart.2.1 kw_X2_addPart.2.2.1 kw_X2_addPart.2.2.2 kd_X2_addPart rfl (by decide) (by decide +kernel) rfl (by decide), fun h => absurd h (by decide)⟩, fun _ h => absurd h List.not_mem_nil⟩⟩⟩
theorem kw_X4_part : Cond.instanceMethod yX4_part ∈ sv_tb ∧ Cond.selects yX4_part.cls yX4_part yX4_part ∈ sv_tb ∧ Cond.initialized yX4_part.cls ∈ sv_tb ∧ Cond.code yX4_part cX4_part 4 (some .int) ∈ sv_tb := ⟨sv_mem 229 (by decide +kernel) rfl, sv_mem 230 (by decide +kernel) rfl, sv_mem 51 (by decide +kernel) rfl, sv_mem 231 (by decide +kernel) rfl⟩
theorem kd_X4_part : yX4_part.cls ≠ "java/lang/invoke/MethodHandle" ∧ yX4_part.cls ≠ "java/lang/invoke/VarHandle" ∧ (parseMethodDescriptor yX4_part.desc).map (fun d => d.parameters.length) = some 2 := by decide +kernel
def F_X4_part_0 (Wk : sv_K) (Kr : Option sv_AV → sv_S → Prop) (runs : Int32) (worst : Int32) (σ : sv_S) : Prop := (((((1 : Int32) ≤ runs ∧ runs ≤ 99) ∧ (runs ≤ worst ∧ worst ≤ 99) → (((sv_gA σ 2 0 0) < (10 : Int32) → (∃ q1 : Nat, (q1 < 10 ∧ sv_gA σ 2 0 0 = nI q1) ∧ (∀ v2 : Int32, ∀ σ3 : sv_S, v2 = nI q1 ∧ σ3 = sd_addPart σ q1 runs worst → (vp_in v2 10 ∧ Kr (some (.inl v2)) (sv_sA σ3 17 0 v2.toNatClampNeg (0 : Int32)))))) ∧ (¬ (sv_gA σ 2 0 0) < (10 : Int32) → Kr (some (.inl (-4 : Int32))) σ))) ∧ (¬ (((1 : Int32) ≤ runs ∧ runs ≤ 99) ∧ (runs ≤ worst ∧ worst ≤ 99)) → Kr (some (.inl (-2 : Int32))) σ)))
set_option maxRecDepth 100000 in
theorem bk_X4_part_0 (Wk : sv_K) (Kr : Option sv_AV → sv_S → Prop) (runs : Int32) (worst : Int32) (σ : sv_S) (h : F_X4_part_0 Wk Kr runs worst σ) : sv_vc tb_X4_part T_X4_part sv_all (some .int) Kr [] Wk 500 0 [some (.inr (.inr (4, 0))), some (.inl runs), some (.inl worst), none] [] σ := (match h with | ⟨z4a, z4b⟩ => ⟨fun z4y => sb_nt (by decide) ((z4a z4y)), fun z4y => sb_nf (by decide) ((z4b z4y))⟩)
set_option maxRecDepth 100000 in
theorem m_X4_part (l : Launch) (hb : ∀ (Wk : sv_K) (Kr : Option sv_AV → sv_S → Prop), (∀ (runs : Int32) (worst : Int32) (σ : sv_S), F_X4_part_0 Wk Kr runs worst σ → Wk 0 [some (.inr (.inr (4, 0))), some (.inl runs), some (.inl worst), none] [] σ) → (∀ (runs : Int32) (worst : Int32) (σ : sv_S), (∃ c : Nat, ∃ d : dD, (CI c d σ ∧ c < 900000) ∧ (∀ v : Int32, ∀ σ2 : sv_S, v = A_part d runs worst ∧ CI (c + 6) (U_part d runs worst) σ2 ∧ sq xg σ σ2 → Kr (some (.inl v)) σ2)) → Wk 0 [some (.inr (.inr (4, 0))), some (.inl runs), some (.inl worst), none] [] σ)) : sv_C l yX4_part cX4_part 4 (some .int) sv_all 2 49 sp_X4_part := by
  refine sv_meth sv_clok_all tb_X4_part T_X4_part (by decide) tbk_X4_part (Tok_X4_part l) ?_
  intro Wk Kr hc av σ hsp
  have hB := hb Wk Kr (fun runs worst σ h => hc [] 500 0 _ _ _ (bk_X4_part_0 Wk Kr runs worst σ h))
  unfold sp_X4_part at hsp
  split at hsp
  · exact ⟨⟨by simp, by simp [sv_cat]⟩, hB _ _ _ hsp⟩
  · exact hsp.elim
set_option maxHeartbeats 4000000 in
set_option maxRecDepth 100000 in
theorem c_X4_part (l : Launch) : sv_C l yX4_part cX4_part 4 (some .int) sv_all 2 49 sp_X4_part := by
  refine m_X4_part l ?_
  intro Wk Kr e0 runs worst σ ⟨c, d, ⟨hC, hc⟩, h⟩
  have hP := hC.1.1.1
  apply e0
  unfold F_X4_part_0
  rw [hC.1.2.1]
  refine ⟨fun ho => ?_, fun ho => h _ _ ⟨(ch_f ho _ _).symm, ?_, sq_rf _ _⟩⟩
  · obtain ⟨a, b, hab, rfl, rfl⟩ := okR_of ho
    refine pk_lt (dP d) 10 (fun z => ⟨dP d, ⟨z, rfl⟩, fun v2 σ3 ⟨h2, h3⟩ => ?_⟩) (fun z => h _ _ ⟨?_, ?_, sq_rf _ _⟩)
    · subst h2
      subst h3
      rw [nI_clamp (by omega)]
      refine ⟨pk_in (dP d) 10 z, h _ _ ⟨?_, ?_, sq_mono (sq_part σ (dP d) a b) (by decide)⟩⟩
      · unfold A_part
        rw [ch_t (show okR (nI a) (nI b) from ho), ch_f (by omega)]
      · unfold U_part
        rw [ch_t ⟨(show okR (nI a) (nI b) from ho), z⟩, xn_nI (by omega), xn_nI (by omega)]
        exact CI_part hC hab z
    · unfold A_part
      rw [ch_t (show okR (nI a) (nI b) from ho), ch_t (by omega)]
    · unfold U_part
      rw [ch_f (fun y => by omega)]
      exact CI_mono hC
  · unfold U_part
    rw [ch_f (fun y => ho y.1)]
    exact CI_mono hC
-- ==== X4_runs
def sp_X4_runs : sv_P := fun av σ K => match av with
  | [.inr (.inr (4, 0)), .inl p, .inl runs, .inl worst] => ∃ c : Nat, ∃ d : dD, (CI c d σ ∧ c < 900000) ∧ (∀ v : Int32, ∀ σ2 : sv_S, v = A_runs d p runs worst ∧ CI (c + 6) (U_runs d p runs worst) σ2 ∧ sq xg σ σ2 → K (some (.inl v)) σ2)
  | _ => False
def tb_X4_runs : List (Nat × (Instr × Nat)) := [(0, (.aload_n 0, 1)), (1, (.getfield 10, 3)), (4, (.iload_n 1, 1)), (5, (.invokevirtual 57, 3)), (8, (.ifCond .ne 5, 3)), (11, (.iconst (-1), 1)), (12, (.ireturn, 1)), (13, (.iload_n 2, 1)), (14, (.iload_n 3, 1)), (15, (.invokestatic 41, 3)), (18, (.ifCond .ne 6, 3)), (21, (.bipush (-2), 2)), (23, (.ireturn, 1)), (24, (.aload_n 0, 1)), (25, (.getfield 10, 3)), (28, (.iload_n 1, 1)), (29, (.iload_n 2, 1)), (30, (.iload_n 3, 1)), (31, (.invokevirtual 61, 3)), (34, (.iconst 1, 1)), (35, (.ireturn, 1))]
set_option maxRecDepth 100000 in
theorem tbk_X4_runs : sv_tbok cX4_runs tb_X4_runs = true := by decide +kernel
def cal_X4_runs : List (Nat × (Nat × Nat × sv_P)) := [(57, (2, 2, sp_X2_hasPart)), (41, (2, 90, sp_X4_areRuns)), (61, (4, 2, sp_X2_setRuns))]
def T_X4_runs : sv_T := (flX4, sfX4, kcX4, klX4, cal_X4_runs)
set_option maxRecDepth 100000 in
theorem Tok_X4_runs (l : Launch) : sv_Tok l RX4 sv_all 2 43 T_X4_runs := ⟨flokX4, sfokX4, kcokX4, klokX4, List.forall_mem_cons.mpr ⟨⟨fun _ => sv_COv_of (c_X2_hasPart l) sv_clok_all (sv_mem 254 (by decide +kernel) rfl) kw_X2_hasPart.1 kw_X2_hasPart.2.1 kw_X2_hasPart.2.2.1 kw_X2_hasPart.2.2.2 kd_X2_hasPart rfl (by decide) (by decide +kernel) rfl (by decide), fun h => absurd h (by decide)⟩, List.forall_mem_cons.mpr ⟨⟨fun h => absurd h (by decide), fun _ => sv_COs_gen (c_X4_areRuns l) (Or.inl (sv_mem 232 (by decide +kernel) rfl)) kw_X4_areRuns.1 kw_X4_areRuns.2.1 kw_X4_areRuns.2.2 kd_X4_areRuns rfl (by decide) (by decide +kernel)⟩, List.forall_mem_cons.mpr ⟨⟨fun _ => sv_COv_of (c_X2_setRuns l) sv_clok_all (sv_mem 259 (by decide +kernel) rfl) kw_X2_setRuns.1 kw_X2_setRuns.2.1 kw_X2_setRuns.2.2.1 kw_X2_setRuns.2.2.2 kd_X2_setRuns rfl (by decide) (by decide +kernel) rfl (by decide), fun h => absurd h (by decide)⟩, fun _ h => absurd h List.not_mem_nil⟩⟩⟩⟩
theorem kw_X4_runs : Cond.instanceMethod yX4_runs ∈ sv_tb ∧ Cond.selects yX4_runs.cls yX4_runs yX4_runs ∈ sv_tb ∧ Cond.initialized yX4_runs.cls ∈ sv_tb ∧ Cond.code yX4_runs cX4_runs 4 (some .int) ∈ sv_tb := ⟨sv_mem 251 (by decide +kernel) rfl, sv_mem 252 (by decide +kernel) rfl, sv_mem 51 (by decide +kernel) rfl, sv_mem 253 (by decide +kernel) rfl⟩
theorem kd_X4_runs : yX4_runs.cls ≠ "java/lang/invoke/MethodHandle" ∧ yX4_runs.cls ≠ "java/lang/invoke/VarHandle" ∧ (parseMethodDescriptor yX4_runs.desc).map (fun d => d.parameters.length) = some 3 := by decide +kernel
def F_X4_runs_0 (Wk : sv_K) (Kr : Option sv_AV → sv_S → Prop) (p : Int32) (runs : Int32) (worst : Int32) (σ : sv_S) : Prop := (∃ d1 : dD, (RP d1 σ) ∧ ((isN (dP d1) p → (((((1 : Int32) ≤ runs ∧ runs ≤ 99) ∧ (runs ≤ worst ∧ worst ≤ 99) → (∃ q2 : Nat, (q2 < 10 ∧ p = nI q2) ∧ (∀ σ4 : sv_S, σ4 = sd_setRuns σ q2 runs worst → Kr (some (.inl (1 : Int32))) σ4))) ∧ (¬ (((1 : Int32) ≤ runs ∧ runs ≤ 99) ∧ (runs ≤ worst ∧ worst ≤ 99)) → Kr (some (.inl (-2 : Int32))) σ)))) ∧ (¬ isN (dP d1) p → Kr (some (.inl (-1 : Int32))) σ)))
set_option maxRecDepth 100000 in
theorem bk_X4_runs_0 (Wk : sv_K) (Kr : Option sv_AV → sv_S → Prop) (p : Int32) (runs : Int32) (worst : Int32) (σ : sv_S) (h : F_X4_runs_0 Wk Kr p runs worst σ) : sv_vc tb_X4_runs T_X4_runs sv_all (some .int) Kr [] Wk 500 0 [some (.inr (.inr (4, 0))), some (.inl p), some (.inl runs), some (.inl worst)] [] σ := (match h with | ⟨d1, z6p, z6a, z6b⟩ => ⟨d1, z6p, fun z6y => sb_nt (by decide) ((match (z6a z6y) with | ⟨z5a, z5b⟩ => ⟨fun z5y => sb_nt (by decide) ((z5a z5y)), fun z5y => sb_nf (by decide) ((z5b z5y))⟩)), fun z6y => sb_nf (by decide) ((z6b z6y))⟩)
set_option maxRecDepth 100000 in
theorem m_X4_runs (l : Launch) (hb : ∀ (Wk : sv_K) (Kr : Option sv_AV → sv_S → Prop), (∀ (p : Int32) (runs : Int32) (worst : Int32) (σ : sv_S), F_X4_runs_0 Wk Kr p runs worst σ → Wk 0 [some (.inr (.inr (4, 0))), some (.inl p), some (.inl runs), some (.inl worst)] [] σ) → (∀ (p : Int32) (runs : Int32) (worst : Int32) (σ : sv_S), (∃ c : Nat, ∃ d : dD, (CI c d σ ∧ c < 900000) ∧ (∀ v : Int32, ∀ σ2 : sv_S, v = A_runs d p runs worst ∧ CI (c + 6) (U_runs d p runs worst) σ2 ∧ sq xg σ σ2 → Kr (some (.inl v)) σ2)) → Wk 0 [some (.inr (.inr (4, 0))), some (.inl p), some (.inl runs), some (.inl worst)] [] σ)) : sv_C l yX4_runs cX4_runs 4 (some .int) sv_all 2 43 sp_X4_runs := by
  refine sv_meth sv_clok_all tb_X4_runs T_X4_runs (by decide) tbk_X4_runs (Tok_X4_runs l) ?_
  intro Wk Kr hc av σ hsp
  have hB := hb Wk Kr (fun p runs worst σ h => hc [] 500 0 _ _ _ (bk_X4_runs_0 Wk Kr p runs worst σ h))
  unfold sp_X4_runs at hsp
  split at hsp
  · exact ⟨⟨by simp, by simp [sv_cat]⟩, hB _ _ _ _ hsp⟩
  · exact hsp.elim
set_option maxHeartbeats 4000000 in
set_option maxRecDepth 100000 in
theorem c_X4_runs (l : Launch) : sv_C l yX4_runs cX4_runs 4 (some .int) sv_all 2 43 sp_X4_runs := by
  refine m_X4_runs l ?_
  intro Wk Kr e0 p runs worst σ ⟨c, d, ⟨hC, hc⟩, h⟩
  have hP := hC.1.1.1
  apply e0
  refine ⟨d, hC.1, fun hp => ⟨fun ho => ?_, fun ho => h _ _ ⟨?_, ?_, sq_rf _ _⟩⟩, fun hp => h _ _ ⟨?_, ?_, sq_rf _ _⟩⟩
  · obtain ⟨a, b, hab, rfl, rfl⟩ := okR_of ho
    have hp0 := hp
    obtain ⟨q, hq, rfl⟩ := hp
    refine ⟨q, ⟨by omega, rfl⟩, fun σ4 h4 => h _ _ ⟨?_, ?_, ?_⟩⟩
    · unfold A_runs
      rw [ch_t hp0, ch_t (show okR (nI a) (nI b) from ho)]
    · unfold U_runs
      rw [ch_t ⟨hp0, (show okR (nI a) (nI b) from ho)⟩, xn_nI (by omega), xn_nI (by omega), xn_nI (by omega), h4]
      exact CI_runs hC hq hab
    · rw [h4]
      exact sq_tr (sq_tr (sq_sA _ _ _ _ (by decide)) (sq_sA _ _ _ _ (by decide))) (sq_sA _ _ _ _ (by decide))
  · unfold A_runs
    rw [ch_t hp, ch_f (show ¬ okR runs worst from ho)]
  · unfold U_runs
    rw [ch_f (fun y => ho y.2)]
    exact CI_mono hC
  · unfold A_runs
    rw [ch_f hp]
  · unfold U_runs
    rw [ch_f (fun y => hp y.1)]
    exact CI_mono hC
-- ==== X4_cut
def sp_X4_cut : sv_P := fun av σ K => match av with
  | [.inr (.inr (4, 0))] => ∃ c : Nat, ∃ d : dD, (CI c d σ ∧ c < 900000) ∧ (∀ v : Int32, ∀ σ2 : sv_S, v = A_cut d  ∧ CI (c + 6) (U_cut d ) σ2 ∧ sq xg σ σ2 → K (some (.inl v)) σ2)
  | _ => False
def tb_X4_cut : List (Nat × (Instr × Nat)) := [(0, (.aload_n 0, 1)), (1, (.getfield 10, 3)), (4, (.getfield 45, 3)), (7, (.ifCond .ne 6, 3)), (10, (.bipush (-3), 2)), (12, (.ireturn, 1)), (13, (.aload_n 0, 1)), (14, (.getfield 10, 3)), (17, (.invokevirtual 65, 3)), (20, (.aload_n 0, 1)), (21, (.getfield 10, 3)), (24, (.getfield 45, 3)), (27, (.ireturn, 1))]
set_option maxRecDepth 100000 in
theorem tbk_X4_cut : sv_tbok cX4_cut tb_X4_cut = true := by decide +kernel
def cal_X4_cut : List (Nat × (Nat × Nat × sv_P)) := [(65, (1, 2, sp_X2_removeLastPart))]
def T_X4_cut : sv_T := (flX4, sfX4, kcX4, klX4, cal_X4_cut)
set_option maxRecDepth 100000 in
theorem Tok_X4_cut (l : Launch) : sv_Tok l RX4 sv_all 1 20 T_X4_cut := ⟨flokX4, sfokX4, kcokX4, klokX4, List.forall_mem_cons.mpr ⟨⟨fun _ => sv_COv_of (c_X2_removeLastPart l) sv_clok_all (sv_mem 264 (by decide +kernel) rfl) kw_X2_removeLastPart.1 kw_X2_removeLastPart.2.1 kw_X2_removeLastPart.2.2.1 kw_X2_removeLastPart.2.2.2 kd_X2_removeLastPart rfl (by decide) (by decide +kernel) rfl (by decide), fun h => absurd h (by decide)⟩, fun _ h => absurd h List.not_mem_nil⟩⟩
theorem kw_X4_cut : Cond.instanceMethod yX4_cut ∈ sv_tb ∧ Cond.selects yX4_cut.cls yX4_cut yX4_cut ∈ sv_tb ∧ Cond.initialized yX4_cut.cls ∈ sv_tb ∧ Cond.code yX4_cut cX4_cut 1 (some .int) ∈ sv_tb := ⟨sv_mem 261 (by decide +kernel) rfl, sv_mem 262 (by decide +kernel) rfl, sv_mem 51 (by decide +kernel) rfl, sv_mem 263 (by decide +kernel) rfl⟩
theorem kd_X4_cut : yX4_cut.cls ≠ "java/lang/invoke/MethodHandle" ∧ yX4_cut.cls ≠ "java/lang/invoke/VarHandle" ∧ (parseMethodDescriptor yX4_cut.desc).map (fun d => d.parameters.length) = some 0 := by decide +kernel
def F_X4_cut_0 (Wk : sv_K) (Kr : Option sv_AV → sv_S → Prop)  (σ : sv_S) : Prop := ((¬ (sv_gA σ 2 0 0) = (0 : Int32) → ((∀ σ2 : sv_S, σ2 = sv_sA (sv_sA σ 2 0 0 (sv_gA σ 2 0 0 - 1)) 2 0 2 (sv_gA σ 2 0 2 + 1) → Kr (some (.inl (sv_gA σ2 2 0 0))) σ2))) ∧ ((sv_gA σ 2 0 0) = (0 : Int32) → Kr (some (.inl (-3 : Int32))) σ))
set_option maxRecDepth 100000 in
theorem bk_X4_cut_0 (Wk : sv_K) (Kr : Option sv_AV → sv_S → Prop)  (σ : sv_S) (h : F_X4_cut_0 Wk Kr  σ) : sv_vc tb_X4_cut T_X4_cut sv_all (some .int) Kr [] Wk 500 0 [some (.inr (.inr (4, 0)))] [] σ := h
set_option maxRecDepth 100000 in
theorem m_X4_cut (l : Launch) (hb : ∀ (Wk : sv_K) (Kr : Option sv_AV → sv_S → Prop), (∀  (σ : sv_S), F_X4_cut_0 Wk Kr  σ → Wk 0 [some (.inr (.inr (4, 0)))] [] σ) → (∀  (σ : sv_S), (∃ c : Nat, ∃ d : dD, (CI c d σ ∧ c < 900000) ∧ (∀ v : Int32, ∀ σ2 : sv_S, v = A_cut d  ∧ CI (c + 6) (U_cut d ) σ2 ∧ sq xg σ σ2 → Kr (some (.inl v)) σ2)) → Wk 0 [some (.inr (.inr (4, 0)))] [] σ)) : sv_C l yX4_cut cX4_cut 1 (some .int) sv_all 1 20 sp_X4_cut := by
  refine sv_meth sv_clok_all tb_X4_cut T_X4_cut (by decide) tbk_X4_cut (Tok_X4_cut l) ?_
  intro Wk Kr hc av σ hsp
  have hB := hb Wk Kr (fun  σ h => hc [] 500 0 _ _ _ (bk_X4_cut_0 Wk Kr  σ h))
  unfold sp_X4_cut at hsp
  split at hsp
  · exact ⟨⟨by simp, by simp [sv_cat]⟩, hB  _ hsp⟩
  · exact hsp.elim
set_option maxHeartbeats 4000000 in
set_option maxRecDepth 100000 in
theorem c_X4_cut (l : Launch) : sv_C l yX4_cut cX4_cut 1 (some .int) sv_all 1 20 sp_X4_cut := by
  refine m_X4_cut l ?_
  intro Wk Kr e0 σ ⟨c, d, ⟨hC, hc⟩, h⟩
  have hP := hC.1.1.1
  apply e0
  unfold F_X4_cut_0
  rw [hC.1.2.1]
  refine ⟨fun z => fun σ2 h2 => ?_, fun z => h _ _ ⟨?_, ?_, sq_rf _ _⟩⟩
  · have hp0 : dP d ≠ 0 := fun y => z (by rw [y]; rfl)
    have ep : nI (dP d) - 1 = nI (dP d - 1) := by
      have := nI_pred (dP d - 1)
      rwa [show dP d - 1 + 1 = dP d by omega] at this
    rw [ep] at h2
    subst h2
    refine h _ _ ⟨?_, ?_, sq_tr (sq_sA _ _ _ _ (by decide)) (sq_sA _ _ _ _ (by decide))⟩
    · unfold A_cut
      rw [ch_f hp0, gA_nj _ (by decide), gA_same]
    · unfold U_cut
      rw [ch_f hp0]
      exact CI_cut hC hp0
  · have hp0 : dP d = 0 := (nI_eq (by omega) (by omega)).mp (show nI (dP d) = nI 0 from z)
    unfold A_cut
    rw [ch_t hp0]
  · have hp0 : dP d = 0 := (nI_eq (by omega) (by omega)).mp (show nI (dP d) = nI 0 from z)
    unfold U_cut
    rw [ch_t hp0]
    exact CI_mono hC
-- ==== X4_thing
def sp_X4_thing : sv_P := fun av σ K => match av with
  | [.inr (.inr (4, 0)), .inl size] => ∃ c : Nat, ∃ d : dD, (CI c d σ ∧ c < 900000) ∧ (∀ v : Int32, ∀ σ2 : sv_S, v = A_thing d size ∧ CI (c + 6) (U_thing d size) σ2 ∧ sq xg σ σ2 → K (some (.inl v)) σ2)
  | _ => False
def tb_X4_thing : List (Nat × (Instr × Nat)) := [(0, (.iload_n 1, 1)), (1, (.iconst 1, 1)), (2, (.bipush 20, 2)), (4, (.invokestatic 68, 3)), (7, (.ifCond .ne 6, 3)), (10, (.bipush (-2), 2)), (12, (.ireturn, 1)), (13, (.aload_n 0, 1)), (14, (.getfield 10, 3)), (17, (.getfield 72, 3)), (20, (.iconst 5, 1)), (21, (.if_icmp .lt 6, 3)), (24, (.bipush (-4), 2)), (26, (.ireturn, 1)), (27, (.aload_n 0, 1)), (28, (.getfield 10, 3)), (31, (.iload_n 1, 1)), (32, (.invokevirtual 75, 3)), (35, (.ireturn, 1))]
set_option maxRecDepth 100000 in
theorem tbk_X4_thing : sv_tbok cX4_thing tb_X4_thing = true := by decide +kernel
def cal_X4_thing : List (Nat × (Nat × Nat × sv_P)) := [(68, (3, 90, sp_X4_within)), (75, (2, 2, sp_X2_addThing))]
def T_X4_thing : sv_T := (flX4, sfX4, kcX4, klX4, cal_X4_thing)
set_option maxRecDepth 100000 in
theorem Tok_X4_thing (l : Launch) : sv_Tok l RX4 sv_all 2 44 T_X4_thing := ⟨flokX4, sfokX4, kcokX4, klokX4, List.forall_mem_cons.mpr ⟨⟨fun h => absurd h (by decide), fun _ => sv_COs_gen (c_X4_within l) (Or.inl (sv_mem 235 (by decide +kernel) rfl)) kw_X4_within.1 kw_X4_within.2.1 kw_X4_within.2.2 kd_X4_within rfl (by decide) (by decide +kernel)⟩, List.forall_mem_cons.mpr ⟨⟨fun _ => sv_COv_of (c_X2_addThing l) sv_clok_all (sv_mem 272 (by decide +kernel) rfl) kw_X2_addThing.1 kw_X2_addThing.2.1 kw_X2_addThing.2.2.1 kw_X2_addThing.2.2.2 kd_X2_addThing rfl (by decide) (by decide +kernel) rfl (by decide), fun h => absurd h (by decide)⟩, fun _ h => absurd h List.not_mem_nil⟩⟩⟩
theorem kw_X4_thing : Cond.instanceMethod yX4_thing ∈ sv_tb ∧ Cond.selects yX4_thing.cls yX4_thing yX4_thing ∈ sv_tb ∧ Cond.initialized yX4_thing.cls ∈ sv_tb ∧ Cond.code yX4_thing cX4_thing 2 (some .int) ∈ sv_tb := ⟨sv_mem 269 (by decide +kernel) rfl, sv_mem 270 (by decide +kernel) rfl, sv_mem 51 (by decide +kernel) rfl, sv_mem 271 (by decide +kernel) rfl⟩
theorem kd_X4_thing : yX4_thing.cls ≠ "java/lang/invoke/MethodHandle" ∧ yX4_thing.cls ≠ "java/lang/invoke/VarHandle" ∧ (parseMethodDescriptor yX4_thing.desc).map (fun d => d.parameters.length) = some 1 := by decide +kernel
def F_X4_thing_0 (Wk : sv_K) (Kr : Option sv_AV → sv_S → Prop) (size : Int32) (σ : sv_S) : Prop := ((((1 : Int32) ≤ size ∧ size ≤ (20 : Int32) → (((sv_gA σ 2 0 1) < (5 : Int32) → (∃ q1 : Nat, (q1 < 5 ∧ sv_gA σ 2 0 1 = nI q1) ∧ (∀ v2 : Int32, ∀ σ3 : sv_S, v2 = nI q1 ∧ σ3 = sv_sA (sv_sA (sv_sA σ 2 0 1 (nI (q1 + 1))) 23 0 q1 size) 2 0 2 (sv_gA σ 2 0 2 + 1) → Kr (some (.inl v2)) σ3))) ∧ (¬ (sv_gA σ 2 0 1) < (5 : Int32) → Kr (some (.inl (-4 : Int32))) σ))) ∧ (¬ ((1 : Int32) ≤ size ∧ size ≤ (20 : Int32)) → Kr (some (.inl (-2 : Int32))) σ)))
set_option maxRecDepth 100000 in
theorem bk_X4_thing_0 (Wk : sv_K) (Kr : Option sv_AV → sv_S → Prop) (size : Int32) (σ : sv_S) (h : F_X4_thing_0 Wk Kr size σ) : sv_vc tb_X4_thing T_X4_thing sv_all (some .int) Kr [] Wk 500 0 [some (.inr (.inr (4, 0))), some (.inl size)] [] σ := (match h with | ⟨z4a, z4b⟩ => ⟨fun z4y => sb_nt (by decide) ((z4a z4y)), fun z4y => sb_nf (by decide) ((z4b z4y))⟩)
set_option maxRecDepth 100000 in
theorem m_X4_thing (l : Launch) (hb : ∀ (Wk : sv_K) (Kr : Option sv_AV → sv_S → Prop), (∀ (size : Int32) (σ : sv_S), F_X4_thing_0 Wk Kr size σ → Wk 0 [some (.inr (.inr (4, 0))), some (.inl size)] [] σ) → (∀ (size : Int32) (σ : sv_S), (∃ c : Nat, ∃ d : dD, (CI c d σ ∧ c < 900000) ∧ (∀ v : Int32, ∀ σ2 : sv_S, v = A_thing d size ∧ CI (c + 6) (U_thing d size) σ2 ∧ sq xg σ σ2 → Kr (some (.inl v)) σ2)) → Wk 0 [some (.inr (.inr (4, 0))), some (.inl size)] [] σ)) : sv_C l yX4_thing cX4_thing 2 (some .int) sv_all 2 44 sp_X4_thing := by
  refine sv_meth sv_clok_all tb_X4_thing T_X4_thing (by decide) tbk_X4_thing (Tok_X4_thing l) ?_
  intro Wk Kr hc av σ hsp
  have hB := hb Wk Kr (fun size σ h => hc [] 500 0 _ _ _ (bk_X4_thing_0 Wk Kr size σ h))
  unfold sp_X4_thing at hsp
  split at hsp
  · exact ⟨⟨by simp, by simp [sv_cat]⟩, hB _ _ hsp⟩
  · exact hsp.elim
set_option maxHeartbeats 4000000 in
set_option maxRecDepth 100000 in
theorem c_X4_thing (l : Launch) : sv_C l yX4_thing cX4_thing 2 (some .int) sv_all 2 44 sp_X4_thing := by
  refine m_X4_thing l ?_
  intro Wk Kr e0 size σ ⟨c, d, ⟨hC, hc⟩, h⟩
  have hT := hC.1.1.2.1
  apply e0
  unfold F_X4_thing_0
  rw [hC.1.2.2.1]
  refine ⟨fun ho => ?_, fun ho => h _ _ ⟨(ch_f ho _ _).symm, ?_, sq_rf _ _⟩⟩
  · have ho0 := ho
    obtain ⟨a, ha1, ha2, rfl⟩ := lit_in (a := 1) (b := 20) (by omega) ho (by omega)
    refine pk_lt (dT d) 5 (fun z => ⟨dT d, ⟨z, rfl⟩, fun v2 σ3 ⟨h2, h3⟩ => h _ _ ⟨?_, ?_, ?_⟩⟩) (fun z => h _ _ ⟨?_, ?_, sq_rf _ _⟩)
    · unfold A_thing
      rw [ch_t ho0, ch_f (by omega)]
      exact h2
    · unfold U_thing
      rw [ch_t ⟨ho0, z⟩, xn_nI (by omega), h3]
      exact CI_thing hC z ⟨ha1, ha2⟩
    · rw [h3]
      exact sq_tr (sq_tr (sq_sA _ _ _ _ (by decide)) (sq_sA _ _ _ _ (by decide))) (sq_sA _ _ _ _ (by decide))
    · unfold A_thing
      rw [ch_t ho0, ch_t (by omega)]
    · unfold U_thing
      rw [ch_f (fun y => by omega)]
      exact CI_mono hC
  · unfold U_thing
    rw [ch_f (fun y => ho y.1)]
    exact CI_mono hC
-- ==== X4_uses
def sp_X4_uses : sv_P := fun av σ K => match av with
  | [.inr (.inr (4, 0)), .inl t, .inl p, .inl reads, .inl writes] => ∃ c : Nat, ∃ d : dD, (CI c d σ ∧ c < 900000) ∧ (∀ v : Int32, ∀ σ2 : sv_S, v = A_uses d t p reads writes ∧ CI (c + 6) (U_uses d t p reads writes) σ2 ∧ sq xg σ σ2 → K (some (.inl v)) σ2)
  | _ => False
def tb_X4_uses : List (Nat × (Instr × Nat)) := [(0, (.aload_n 0, 1)), (1, (.getfield 10, 3)), (4, (.iload_n 1, 1)), (5, (.invokevirtual 79, 3)), (8, (.ifCond .eq 14, 3)), (11, (.aload_n 0, 1)), (12, (.getfield 10, 3)), (15, (.iload_n 2, 1)), (16, (.invokevirtual 57, 3)), (19, (.ifCond .ne 5, 3)), (22, (.iconst (-1), 1)), (23, (.ireturn, 1)), (24, (.iload_n 3, 1)), (25, (.iconst 0, 1)), (26, (.bipush 9, 2)), (28, (.invokestatic 68, 3)), (31, (.ifCond .eq 14, 3)), (34, (.iload 4, 2)), (36, (.iconst 0, 1)), (37, (.bipush 9, 2)), (39, (.invokestatic 68, 3)), (42, (.ifCond .ne 6, 3)), (45, (.bipush (-2), 2)), (47, (.ireturn, 1)), (48, (.aload_n 0, 1)), (49, (.getfield 10, 3)), (52, (.iload_n 1, 1)), (53, (.iload_n 2, 1)), (54, (.invokevirtual 82, 3)), (57, (.istore 5, 2)), (59, (.aload_n 0, 1)), (60, (.getfield 10, 3)), (63, (.iload_n 1, 1)), (64, (.iload_n 2, 1)), (65, (.iload_n 3, 1)), (66, (.iload 4, 2)), (68, (.invokevirtual 85, 3)), (71, (.iload 5, 2)), (73, (.ireturn, 1))]
set_option maxRecDepth 100000 in
theorem tbk_X4_uses : sv_tbok cX4_uses tb_X4_uses = true := by decide +kernel
def cal_X4_uses : List (Nat × (Nat × Nat × sv_P)) := [(79, (2, 2, sp_X2_hasThing)), (57, (2, 2, sp_X2_hasPart)), (68, (3, 90, sp_X4_within)), (82, (3, 2, sp_X2_usesOf)), (85, (5, 2, sp_X2_setUses))]
def T_X4_uses : sv_T := (flX4, sfX4, kcX4, klX4, cal_X4_uses)
set_option maxRecDepth 100000 in
theorem Tok_X4_uses (l : Launch) : sv_Tok l RX4 sv_all 2 43 T_X4_uses := ⟨flokX4, sfokX4, kcokX4, klokX4, List.forall_mem_cons.mpr ⟨⟨fun _ => sv_COv_of (c_X2_hasThing l) sv_clok_all (sv_mem 284 (by decide +kernel) rfl) kw_X2_hasThing.1 kw_X2_hasThing.2.1 kw_X2_hasThing.2.2.1 kw_X2_hasThing.2.2.2 kd_X2_hasThing rfl (by decide) (by decide +kernel) rfl (by decide), fun h => absurd h (by decide)⟩, List.forall_mem_cons.mpr ⟨⟨fun _ => sv_COv_of (c_X2_hasPart l) sv_clok_all (sv_mem 254 (by decide +kernel) rfl) kw_X2_hasPart.1 kw_X2_hasPart.2.1 kw_X2_hasPart.2.2.1 kw_X2_hasPart.2.2.2 kd_X2_hasPart rfl (by decide) (by decide +kernel) rfl (by decide), fun h => absurd h (by decide)⟩, List.forall_mem_cons.mpr ⟨⟨fun h => absurd h (by decide), fun _ => sv_COs_gen (c_X4_within l) (Or.inl (sv_mem 235 (by decide +kernel) rfl)) kw_X4_within.1 kw_X4_within.2.1 kw_X4_within.2.2 kd_X4_within rfl (by decide) (by decide +kernel)⟩, List.forall_mem_cons.mpr ⟨⟨fun _ => sv_COv_of (c_X2_usesOf l) sv_clok_all (sv_mem 288 (by decide +kernel) rfl) kw_X2_usesOf.1 kw_X2_usesOf.2.1 kw_X2_usesOf.2.2.1 kw_X2_usesOf.2.2.2 kd_X2_usesOf rfl (by decide) (by decide +kernel) rfl (by decide), fun h => absurd h (by decide)⟩, List.forall_mem_cons.mpr ⟨⟨fun _ => sv_COv_of (c_X2_setUses l) sv_clok_all (sv_mem 292 (by decide +kernel) rfl) kw_X2_setUses.1 kw_X2_setUses.2.1 kw_X2_setUses.2.2.1 kw_X2_setUses.2.2.2 kd_X2_setUses rfl (by decide) (by decide +kernel) rfl (by decide), fun h => absurd h (by decide)⟩, fun _ h => absurd h List.not_mem_nil⟩⟩⟩⟩⟩⟩
theorem kw_X4_uses : Cond.instanceMethod yX4_uses ∈ sv_tb ∧ Cond.selects yX4_uses.cls yX4_uses yX4_uses ∈ sv_tb ∧ Cond.initialized yX4_uses.cls ∈ sv_tb ∧ Cond.code yX4_uses cX4_uses 6 (some .int) ∈ sv_tb := ⟨sv_mem 281 (by decide +kernel) rfl, sv_mem 282 (by decide +kernel) rfl, sv_mem 51 (by decide +kernel) rfl, sv_mem 283 (by decide +kernel) rfl⟩
theorem kd_X4_uses : yX4_uses.cls ≠ "java/lang/invoke/MethodHandle" ∧ yX4_uses.cls ≠ "java/lang/invoke/VarHandle" ∧ (parseMethodDescriptor yX4_uses.desc).map (fun d => d.parameters.length) = some 4 := by decide +kernel
def F_X4_uses_0 (Wk : sv_K) (Kr : Option sv_AV → sv_S → Prop) (t : Int32) (p : Int32) (reads : Int32) (writes : Int32) (σ : sv_S) : Prop := (∃ d1 : dD, (RP d1 σ) ∧ ((isN (dT d1) t → (∃ d2 : dD, (RP d2 σ) ∧ ((isN (dP d2) p → ((((0 : Int32) ≤ reads ∧ reads ≤ (9 : Int32) → ((((0 : Int32) ≤ writes ∧ writes ≤ (9 : Int32) → (∃ d3 : dD, ∃ k4 : Nat, ∃ q5 : Nat, (RP d3 σ ∧ (k4 < 5 ∧ t = nI k4) ∧ (q5 < dP d3 ∧ p = nI q5)) ∧ (∀ v6 : Int32, v6 = nI (dr d3 k4 q5 + dw d3 k4 q5) → (∃ k7 : Nat, ∃ q8 : Nat, ((k7 < 5 ∧ t = nI k7) ∧ (q8 < 10 ∧ p = nI q8)) ∧ (∀ σ10 : sv_S, σ10 = sd_setUses σ k7 q8 reads writes → Kr (some (.inl v6)) σ10))))) ∧ (¬ ((0 : Int32) ≤ writes ∧ writes ≤ (9 : Int32)) → Kr (some (.inl (-2 : Int32))) σ)))) ∧ (¬ ((0 : Int32) ≤ reads ∧ reads ≤ (9 : Int32)) → Kr (some (.inl (-2 : Int32))) σ)))) ∧ (¬ isN (dP d2) p → Kr (some (.inl (-1 : Int32))) σ)))) ∧ (¬ isN (dT d1) t → Kr (some (.inl (-1 : Int32))) σ)))
set_option maxRecDepth 100000 in
theorem bk_X4_uses_0 (Wk : sv_K) (Kr : Option sv_AV → sv_S → Prop) (t : Int32) (p : Int32) (reads : Int32) (writes : Int32) (σ : sv_S) (h : F_X4_uses_0 Wk Kr t p reads writes σ) : sv_vc tb_X4_uses T_X4_uses sv_all (some .int) Kr [] Wk 500 0 [some (.inr (.inr (4, 0))), some (.inl t), some (.inl p), some (.inl reads), some (.inl writes), none] [] σ := (match h with | ⟨d1, z14p, z14a, z14b⟩ => ⟨d1, z14p, fun z14y => br_f (by decide) ((match (z14a z14y) with | ⟨d2, z13p, z13a, z13b⟩ => ⟨d2, z13p, fun z13y => sb_nt (by decide) ((match (z13a z13y) with | ⟨z12a, z12b⟩ => ⟨fun z12y => br_f (by decide) ((match (z12a z12y) with | ⟨z11a, z11b⟩ => ⟨fun z11y => sb_nt (by decide) ((z11a z11y)), fun z11y => sb_nf (by decide) ((z11b z11y))⟩)), fun z12y => br_t (by decide) ((z12b z12y))⟩)), fun z13y => sb_nf (by decide) ((z13b z13y))⟩)), fun z14y => br_t (by decide) ((z14b z14y))⟩)
set_option maxRecDepth 100000 in
theorem m_X4_uses (l : Launch) (hb : ∀ (Wk : sv_K) (Kr : Option sv_AV → sv_S → Prop), (∀ (t : Int32) (p : Int32) (reads : Int32) (writes : Int32) (σ : sv_S), F_X4_uses_0 Wk Kr t p reads writes σ → Wk 0 [some (.inr (.inr (4, 0))), some (.inl t), some (.inl p), some (.inl reads), some (.inl writes), none] [] σ) → (∀ (t : Int32) (p : Int32) (reads : Int32) (writes : Int32) (σ : sv_S), (∃ c : Nat, ∃ d : dD, (CI c d σ ∧ c < 900000) ∧ (∀ v : Int32, ∀ σ2 : sv_S, v = A_uses d t p reads writes ∧ CI (c + 6) (U_uses d t p reads writes) σ2 ∧ sq xg σ σ2 → Kr (some (.inl v)) σ2)) → Wk 0 [some (.inr (.inr (4, 0))), some (.inl t), some (.inl p), some (.inl reads), some (.inl writes), none] [] σ)) : sv_C l yX4_uses cX4_uses 6 (some .int) sv_all 2 43 sp_X4_uses := by
  refine sv_meth sv_clok_all tb_X4_uses T_X4_uses (by decide) tbk_X4_uses (Tok_X4_uses l) ?_
  intro Wk Kr hc av σ hsp
  have hB := hb Wk Kr (fun t p reads writes σ h => hc [] 500 0 _ _ _ (bk_X4_uses_0 Wk Kr t p reads writes σ h))
  unfold sp_X4_uses at hsp
  split at hsp
  · exact ⟨⟨by simp, by simp [sv_cat]⟩, hB _ _ _ _ _ hsp⟩
  · exact hsp.elim
set_option maxHeartbeats 4000000 in
set_option maxRecDepth 100000 in
theorem c_X4_uses (l : Launch) : sv_C l yX4_uses cX4_uses 6 (some .int) sv_all 2 43 sp_X4_uses := by
  refine m_X4_uses l ?_
  intro Wk Kr e0 t p reads writes σ ⟨c, d, ⟨hC, hc⟩, h⟩
  have hP := hC.1.1.1
  have hT := hC.1.1.2.1
  have bad : ¬ (isN (dT d) t ∧ isN (dP d) p) → Kr (some (.inl (-1 : Int32))) σ := fun hb => h _ _ ⟨(ch_f hb _ _).symm, by unfold U_uses; rw [ch_f (fun y => hb y.1)]; exact CI_mono hC, sq_rf _ _⟩
  have bad2 : (isN (dT d) t ∧ isN (dP d) p) → ¬ okU reads writes → Kr (some (.inl (-2 : Int32))) σ := fun hg hb => h _ _ ⟨by unfold A_uses; rw [ch_t hg, ch_f hb], by unfold U_uses; rw [ch_f (fun y => hb y.2)]; exact CI_mono hC, sq_rf _ _⟩
  apply e0
  refine ⟨d, hC.1, fun ht => ⟨d, hC.1, fun hp => ⟨fun hr => ⟨fun hw => ?_, fun hw => bad2 ⟨ht, hp⟩ (fun y => hw y.2)⟩, fun hr => bad2 ⟨ht, hp⟩ (fun y => hr y.1)⟩, fun hp => bad (fun y => hp y.2)⟩, fun ht => bad (fun y => ht y.1)⟩
  have g1 := ht
  have g2 := hp
  have g3 : okU reads writes := ⟨hr, hw⟩
  obtain ⟨k, hk, rfl⟩ := ht
  obtain ⟨q, hq, rfl⟩ := hp
  obtain ⟨a, -, ha, rfl⟩ := lit_in (a := 0) (b := 9) (by omega) hr (by omega)
  obtain ⟨b, -, hb, rfl⟩ := lit_in (a := 0) (b := 9) (by omega) hw (by omega)
  refine ⟨d, k, q, ⟨hC.1, ⟨by omega, rfl⟩, hq, rfl⟩, fun v6 h6 => ⟨k, q, ⟨⟨by omega, rfl⟩, by omega, rfl⟩, fun σ10 h10 => h _ _ ⟨?_, ?_, ?_⟩⟩⟩
  · unfold A_uses
    rw [ch_t ⟨g1, g2⟩, ch_t g3, xn_nI (by omega), xn_nI (by omega)]
    exact h6
  · unfold U_uses
    rw [ch_t ⟨⟨g1, g2⟩, g3⟩, xn_nI (by omega), xn_nI (by omega), xn_nI (by omega), xn_nI (by omega), h10]
    exact CI_uses hC hk hq ⟨ha, hb⟩
  · rw [h10]
    exact sq_sU _ _ _ _ _ (by decide)
-- ==== X4_size
def sp_X4_size : sv_P := fun av σ K => match av with
  | [.inr (.inr (4, 0)), .inl t, .inl nv] => ∃ c : Nat, ∃ d : dD, (CI c d σ ∧ c < 900000) ∧ (∀ v : Int32, ∀ σ2 : sv_S, v = A_size d t nv ∧ CI (c + 6) (U_size d t nv) σ2 ∧ sq xg σ σ2 → K (some (.inl v)) σ2)
  | _ => False
def tb_X4_size : List (Nat × (Instr × Nat)) := [(0, (.aload_n 0, 1)), (1, (.getfield 10, 3)), (4, (.iload_n 1, 1)), (5, (.invokevirtual 79, 3)), (8, (.ifCond .ne 5, 3)), (11, (.iconst (-1), 1)), (12, (.ireturn, 1)), (13, (.iload_n 2, 1)), (14, (.iconst 1, 1)), (15, (.bipush 20, 2)), (17, (.invokestatic 68, 3)), (20, (.ifCond .ne 6, 3)), (23, (.bipush (-2), 2)), (25, (.ireturn, 1)), (26, (.aload_n 0, 1)), (27, (.getfield 10, 3)), (30, (.getfield 89, 3)), (33, (.iload_n 1, 1)), (34, (.iaload, 1)), (35, (.istore_n 3, 1)), (36, (.aload_n 0, 1)), (37, (.getfield 10, 3)), (40, (.iload_n 1, 1)), (41, (.iload_n 2, 1)), (42, (.invokevirtual 92, 3)), (45, (.iload_n 3, 1)), (46, (.ireturn, 1))]
set_option maxRecDepth 100000 in
theorem tbk_X4_size : sv_tbok cX4_size tb_X4_size = true := by decide +kernel
def cal_X4_size : List (Nat × (Nat × Nat × sv_P)) := [(79, (2, 2, sp_X2_hasThing)), (68, (3, 90, sp_X4_within)), (92, (3, 2, sp_X2_setSize))]
def T_X4_size : sv_T := (flX4, sfX4, kcX4, klX4, cal_X4_size)
set_option maxRecDepth 100000 in
theorem Tok_X4_size (l : Launch) : sv_Tok l RX4 sv_all 2 43 T_X4_size := ⟨flokX4, sfokX4, kcokX4, klokX4, List.forall_mem_cons.mpr ⟨⟨fun _ => sv_COv_of (c_X2_hasThing l) sv_clok_all (sv_mem 284 (by decide +kernel) rfl) kw_X2_hasThing.1 kw_X2_hasThing.2.1 kw_X2_hasThing.2.2.1 kw_X2_hasThing.2.2.2 kd_X2_hasThing rfl (by decide) (by decide +kernel) rfl (by decide), fun h => absurd h (by decide)⟩, List.forall_mem_cons.mpr ⟨⟨fun h => absurd h (by decide), fun _ => sv_COs_gen (c_X4_within l) (Or.inl (sv_mem 235 (by decide +kernel) rfl)) kw_X4_within.1 kw_X4_within.2.1 kw_X4_within.2.2 kd_X4_within rfl (by decide) (by decide +kernel)⟩, List.forall_mem_cons.mpr ⟨⟨fun _ => sv_COv_of (c_X2_setSize l) sv_clok_all (sv_mem 297 (by decide +kernel) rfl) kw_X2_setSize.1 kw_X2_setSize.2.1 kw_X2_setSize.2.2.1 kw_X2_setSize.2.2.2 kd_X2_setSize rfl (by decide) (by decide +kernel) rfl (by decide), fun h => absurd h (by decide)⟩, fun _ h => absurd h List.not_mem_nil⟩⟩⟩⟩
theorem kw_X4_size : Cond.instanceMethod yX4_size ∈ sv_tb ∧ Cond.selects yX4_size.cls yX4_size yX4_size ∈ sv_tb ∧ Cond.initialized yX4_size.cls ∈ sv_tb ∧ Cond.code yX4_size cX4_size 4 (some .int) ∈ sv_tb := ⟨sv_mem 294 (by decide +kernel) rfl, sv_mem 295 (by decide +kernel) rfl, sv_mem 51 (by decide +kernel) rfl, sv_mem 296 (by decide +kernel) rfl⟩
theorem kd_X4_size : yX4_size.cls ≠ "java/lang/invoke/MethodHandle" ∧ yX4_size.cls ≠ "java/lang/invoke/VarHandle" ∧ (parseMethodDescriptor yX4_size.desc).map (fun d => d.parameters.length) = some 2 := by decide +kernel
def F_X4_size_0 (Wk : sv_K) (Kr : Option sv_AV → sv_S → Prop) (t : Int32) (nv : Int32) (σ : sv_S) : Prop := (∃ d1 : dD, (RP d1 σ) ∧ ((isN (dT d1) t → ((((1 : Int32) ≤ nv ∧ nv ≤ (20 : Int32) → (vp_in t 5 ∧ (∃ k2 : Nat, (k2 < 5 ∧ t = nI k2) ∧ (∀ σ4 : sv_S, σ4 = sv_sA (sv_sA σ 23 0 k2 nv) 2 0 2 (sv_gA σ 2 0 2 + 1) → Kr (some (.inl (sv_gA σ 23 0 t.toNatClampNeg))) σ4)))) ∧ (¬ ((1 : Int32) ≤ nv ∧ nv ≤ (20 : Int32)) → Kr (some (.inl (-2 : Int32))) σ)))) ∧ (¬ isN (dT d1) t → Kr (some (.inl (-1 : Int32))) σ)))
set_option maxRecDepth 100000 in
theorem bk_X4_size_0 (Wk : sv_K) (Kr : Option sv_AV → sv_S → Prop) (t : Int32) (nv : Int32) (σ : sv_S) (h : F_X4_size_0 Wk Kr t nv σ) : sv_vc tb_X4_size T_X4_size sv_all (some .int) Kr [] Wk 500 0 [some (.inr (.inr (4, 0))), some (.inl t), some (.inl nv), none] [] σ := (match h with | ⟨d1, z6p, z6a, z6b⟩ => ⟨d1, z6p, fun z6y => sb_nt (by decide) ((match (z6a z6y) with | ⟨z5a, z5b⟩ => ⟨fun z5y => sb_nt (by decide) ((z5a z5y)), fun z5y => sb_nf (by decide) ((z5b z5y))⟩)), fun z6y => sb_nf (by decide) ((z6b z6y))⟩)
set_option maxRecDepth 100000 in
theorem m_X4_size (l : Launch) (hb : ∀ (Wk : sv_K) (Kr : Option sv_AV → sv_S → Prop), (∀ (t : Int32) (nv : Int32) (σ : sv_S), F_X4_size_0 Wk Kr t nv σ → Wk 0 [some (.inr (.inr (4, 0))), some (.inl t), some (.inl nv), none] [] σ) → (∀ (t : Int32) (nv : Int32) (σ : sv_S), (∃ c : Nat, ∃ d : dD, (CI c d σ ∧ c < 900000) ∧ (∀ v : Int32, ∀ σ2 : sv_S, v = A_size d t nv ∧ CI (c + 6) (U_size d t nv) σ2 ∧ sq xg σ σ2 → Kr (some (.inl v)) σ2)) → Wk 0 [some (.inr (.inr (4, 0))), some (.inl t), some (.inl nv), none] [] σ)) : sv_C l yX4_size cX4_size 4 (some .int) sv_all 2 43 sp_X4_size := by
  refine sv_meth sv_clok_all tb_X4_size T_X4_size (by decide) tbk_X4_size (Tok_X4_size l) ?_
  intro Wk Kr hc av σ hsp
  have hB := hb Wk Kr (fun t nv σ h => hc [] 500 0 _ _ _ (bk_X4_size_0 Wk Kr t nv σ h))
  unfold sp_X4_size at hsp
  split at hsp
  · exact ⟨⟨by simp, by simp [sv_cat]⟩, hB _ _ _ hsp⟩
  · exact hsp.elim
set_option maxHeartbeats 4000000 in
set_option maxRecDepth 100000 in
theorem c_X4_size (l : Launch) : sv_C l yX4_size cX4_size 4 (some .int) sv_all 2 43 sp_X4_size := by
  refine m_X4_size l ?_
  intro Wk Kr e0 t v σ ⟨c, d, ⟨hC, hc⟩, h⟩
  have hT := hC.1.1.2.1
  apply e0
  refine ⟨d, hC.1, fun ht => ⟨fun ho => ?_, fun ho => h _ _ ⟨?_, ?_, sq_rf _ _⟩⟩, fun ht => h _ _ ⟨?_, ?_, sq_rf _ _⟩⟩
  · have g1 := ht
    have g2 := ho
    obtain ⟨k, hk, rfl⟩ := ht
    obtain ⟨a, ha1, ha2, rfl⟩ := lit_in (a := 1) (b := 20) (by omega) ho (by omega)
    refine ⟨pk_in k 5 (by omega), k, ⟨by omega, rfl⟩, fun σ4 h4 => h _ _ ⟨?_, ?_, ?_⟩⟩
    · unfold A_size
      rw [ch_t g1, ch_t g2, xn_nI (by omega), nI_clamp (by omega), hC.1.2.2.2.2.2.1 k hk]
    · unfold U_size
      rw [ch_t ⟨g1, g2⟩, xn_nI (by omega), xn_nI (by omega), h4]
      exact CI_size hC hk ⟨ha1, ha2⟩
    · rw [h4]
      exact sq_tr (sq_sA _ _ _ _ (by decide)) (sq_sA _ _ _ _ (by decide))
  · unfold A_size
    rw [ch_t ht, ch_f ho]
  · unfold U_size
    rw [ch_f (fun y => ho y.2)]
    exact CI_mono hC
  · unfold A_size
    rw [ch_f ht]
  · unfold U_size
    rw [ch_f (fun y => ht y.1)]
    exact CI_mono hC
-- ==== X4_setting
def sp_X4_setting : sv_P := fun av σ K => match av with
  | [.inr (.inr (4, 0)), .inl k, .inl nv] => ∃ c : Nat, ∃ d : dD, (CI c d σ ∧ c < 900000) ∧ (∀ v : Int32, ∀ σ2 : sv_S, v = A_setting d k nv ∧ CI (c + 6) (U_setting d k nv) σ2 ∧ sq xg σ σ2 → K (some (.inl v)) σ2)
  | _ => False
def tb_X4_setting : List (Nat × (Instr × Nat)) := [(0, (.aload_n 0, 1)), (1, (.iload_n 1, 1)), (2, (.iload_n 2, 1)), (3, (.invokevirtual 96, 3)), (6, (.ifCond .ne 6, 3)), (9, (.bipush (-2), 2)), (11, (.ireturn, 1)), (12, (.aload_n 0, 1)), (13, (.getfield 10, 3)), (16, (.getfield 99, 3)), (19, (.iload_n 1, 1)), (20, (.iaload, 1)), (21, (.istore_n 3, 1)), (22, (.aload_n 0, 1)), (23, (.getfield 10, 3)), (26, (.iload_n 1, 1)), (27, (.iload_n 2, 1)), (28, (.invokevirtual 102, 3)), (31, (.iload_n 3, 1)), (32, (.ireturn, 1))]
set_option maxRecDepth 100000 in
theorem tbk_X4_setting : sv_tbok cX4_setting tb_X4_setting = true := by decide +kernel
def cal_X4_setting : List (Nat × (Nat × Nat × sv_P)) := [(96, (3, 4, sp_X4_isSetting)), (102, (3, 2, sp_X2_setSetting))]
def T_X4_setting : sv_T := (flX4, sfX4, kcX4, klX4, cal_X4_setting)
set_option maxRecDepth 100000 in
theorem Tok_X4_setting (l : Launch) : sv_Tok l RX4 sv_all 2 44 T_X4_setting := ⟨flokX4, sfokX4, kcokX4, klokX4, List.forall_mem_cons.mpr ⟨⟨fun _ => sv_COv_of (c_X4_isSetting l) sv_clok_all (sv_mem 302 (by decide +kernel) rfl) kw_X4_isSetting.1 kw_X4_isSetting.2.1 kw_X4_isSetting.2.2.1 kw_X4_isSetting.2.2.2 kd_X4_isSetting rfl (by decide) (by decide +kernel) rfl (by decide), fun h => absurd h (by decide)⟩, List.forall_mem_cons.mpr ⟨⟨fun _ => sv_COv_of (c_X2_setSetting l) sv_clok_all (sv_mem 309 (by decide +kernel) rfl) kw_X2_setSetting.1 kw_X2_setSetting.2.1 kw_X2_setSetting.2.2.1 kw_X2_setSetting.2.2.2 kd_X2_setSetting rfl (by decide) (by decide +kernel) rfl (by decide), fun h => absurd h (by decide)⟩, fun _ h => absurd h List.not_mem_nil⟩⟩⟩
theorem kw_X4_setting : Cond.instanceMethod yX4_setting ∈ sv_tb ∧ Cond.selects yX4_setting.cls yX4_setting yX4_setting ∈ sv_tb ∧ Cond.initialized yX4_setting.cls ∈ sv_tb ∧ Cond.code yX4_setting cX4_setting 4 (some .int) ∈ sv_tb := ⟨sv_mem 299 (by decide +kernel) rfl, sv_mem 300 (by decide +kernel) rfl, sv_mem 51 (by decide +kernel) rfl, sv_mem 301 (by decide +kernel) rfl⟩
theorem kd_X4_setting : yX4_setting.cls ≠ "java/lang/invoke/MethodHandle" ∧ yX4_setting.cls ≠ "java/lang/invoke/VarHandle" ∧ (parseMethodDescriptor yX4_setting.desc).map (fun d => d.parameters.length) = some 2 := by decide +kernel
def F_X4_setting_0 (Wk : sv_K) (Kr : Option sv_AV → sv_S → Prop) (k : Int32) (nv : Int32) (σ : sv_S) : Prop := (∃ d1 : dD, (RP d1 σ) ∧ ((okS d1 k nv → (vp_in k 4 ∧ (∃ q2 : Nat, (q2 < 4 ∧ k = nI q2) ∧ (∀ σ4 : sv_S, σ4 = sd_setSetting σ q2 nv → Kr (some (.inl (sv_gA σ 20 0 k.toNatClampNeg))) σ4)))) ∧ (¬ okS d1 k nv → Kr (some (.inl (-2 : Int32))) σ)))
set_option maxRecDepth 100000 in
theorem bk_X4_setting_0 (Wk : sv_K) (Kr : Option sv_AV → sv_S → Prop) (k : Int32) (nv : Int32) (σ : sv_S) (h : F_X4_setting_0 Wk Kr k nv σ) : sv_vc tb_X4_setting T_X4_setting sv_all (some .int) Kr [] Wk 500 0 [some (.inr (.inr (4, 0))), some (.inl k), some (.inl nv), none] [] σ := (match h with | ⟨d1, z5p, z5a, z5b⟩ => ⟨d1, z5p, fun z5y => sb_nt (by decide) ((z5a z5y)), fun z5y => sb_nf (by decide) ((z5b z5y))⟩)
set_option maxRecDepth 100000 in
theorem m_X4_setting (l : Launch) (hb : ∀ (Wk : sv_K) (Kr : Option sv_AV → sv_S → Prop), (∀ (k : Int32) (nv : Int32) (σ : sv_S), F_X4_setting_0 Wk Kr k nv σ → Wk 0 [some (.inr (.inr (4, 0))), some (.inl k), some (.inl nv), none] [] σ) → (∀ (k : Int32) (nv : Int32) (σ : sv_S), (∃ c : Nat, ∃ d : dD, (CI c d σ ∧ c < 900000) ∧ (∀ v : Int32, ∀ σ2 : sv_S, v = A_setting d k nv ∧ CI (c + 6) (U_setting d k nv) σ2 ∧ sq xg σ σ2 → Kr (some (.inl v)) σ2)) → Wk 0 [some (.inr (.inr (4, 0))), some (.inl k), some (.inl nv), none] [] σ)) : sv_C l yX4_setting cX4_setting 4 (some .int) sv_all 2 44 sp_X4_setting := by
  refine sv_meth sv_clok_all tb_X4_setting T_X4_setting (by decide) tbk_X4_setting (Tok_X4_setting l) ?_
  intro Wk Kr hc av σ hsp
  have hB := hb Wk Kr (fun k nv σ h => hc [] 500 0 _ _ _ (bk_X4_setting_0 Wk Kr k nv σ h))
  unfold sp_X4_setting at hsp
  split at hsp
  · exact ⟨⟨by simp, by simp [sv_cat]⟩, hB _ _ _ hsp⟩
  · exact hsp.elim
theorem okN_lt {d : dD} {k v : Nat} (h : okN d k v) (hd : wfP d) : k < 4 ∧ v ≤ 60 := by
  have h6 := hd.2.2.2.2.2.2
  rcases h with ⟨rfl, h⟩ | ⟨rfl, h1, h2, h3⟩ | ⟨rfl, h⟩ | ⟨rfl, h⟩ <;> omega
set_option maxHeartbeats 4000000 in
set_option maxRecDepth 100000 in
theorem c_X4_setting (l : Launch) : sv_C l yX4_setting cX4_setting 4 (some .int) sv_all 2 44 sp_X4_setting := by
  refine m_X4_setting l ?_
  intro Wk Kr e0 k v σ ⟨c, d, ⟨hC, hc⟩, h⟩
  apply e0
  refine ⟨d, hC.1, fun ho => ?_, fun ho => h _ _ ⟨(ch_f ho _ _).symm, ?_, sq_rf _ _⟩⟩
  · have g1 := ho
    obtain ⟨a, b, hab, rfl, rfl⟩ := okS_of hC.1.1 ho
    have hlt := okN_lt hab hC.1.1
    refine ⟨pk_in a 4 hlt.1, a, ⟨hlt.1, rfl⟩, fun σ4 h4 => h _ _ ⟨?_, ?_, ?_⟩⟩
    · unfold A_setting
      rw [ch_t g1, xn_nI (by omega), nI_clamp (by omega), hC.1.2.2.2.1 a hlt.1]
    · unfold U_setting
      rw [ch_t g1, xn_nI (by omega), xn_nI (by omega), h4]
      exact CI_set hC hab
    · rw [h4]
      unfold sd_setSetting
      split
      · exact sq_sA _ _ _ _ (by decide)
      · exact sq_tr (sq_sA _ _ _ _ (by decide)) (sq_sA _ _ _ _ (by decide))
  · unfold U_setting
    rw [ch_f ho]
    exact CI_mono hC
-- ==== X4_ofPart
def sp_X4_ofPart : sv_P := fun av σ K => match av with
  | [.inr (.inr (4, 0)), .inl p, .inl what] => ∃ c : Nat, ∃ d : dD, (CI c d σ ∧ c < 900000) ∧ (∀ v : Int32, v = A_ofPart d p what → K (some (.inl v)) σ)
  | _ => False
def tb_X4_ofPart : List (Nat × (Instr × Nat)) := [(0, (.aload_n 0, 1)), (1, (.getfield 10, 3)), (4, (.iload_n 1, 1)), (5, (.invokevirtual 57, 3)), (8, (.ifCond .ne 5, 3)), (11, (.iconst (-1), 1)), (12, (.ireturn, 1)), (13, (.iload_n 2, 1)), (14, (.ifCond .ne 15, 3)), (17, (.aload_n 0, 1)), (18, (.getfield 10, 3)), (21, (.getfield 105, 3)), (24, (.iconst 0, 1)), (25, (.aaload, 1)), (26, (.iload_n 1, 1)), (27, (.iaload, 1)), (28, (.ireturn, 1)), (29, (.iload_n 2, 1)), (30, (.iconst 1, 1)), (31, (.if_icmp .ne 15, 3)), (34, (.aload_n 0, 1)), (35, (.getfield 10, 3)), (38, (.getfield 105, 3)), (41, (.iconst 1, 1)), (42, (.aaload, 1)), (43, (.iload_n 1, 1)), (44, (.iaload, 1)), (45, (.ireturn, 1)), (46, (.aload_n 0, 1)), (47, (.iload_n 2, 1)), (48, (.bipush 10, 2)), (50, (.invokevirtual 109, 3)), (53, (.ifCond .eq 18, 3)), (56, (.aload_n 0, 1)), (57, (.getfield 10, 3)), (60, (.getfield 112, 3)), (63, (.iload_n 2, 1)), (64, (.bipush 10, 2)), (66, (.isub, 1)), (67, (.aaload, 1)), (68, (.iload_n 1, 1)), (69, (.iaload, 1)), (70, (.ireturn, 1)), (71, (.aload_n 0, 1)), (72, (.iload_n 2, 1)), (73, (.bipush 20, 2)), (75, (.invokevirtual 109, 3)), (78, (.ifCond .eq 18, 3)), (81, (.aload_n 0, 1)), (82, (.getfield 10, 3)), (85, (.getfield 115, 3)), (88, (.iload_n 2, 1)), (89, (.bipush 20, 2)), (91, (.isub, 1)), (92, (.aaload, 1)), (93, (.iload_n 1, 1)), (94, (.iaload, 1)), (95, (.ireturn, 1)), (96, (.bipush (-2), 2)), (98, (.ireturn, 1))]
set_option maxRecDepth 100000 in
theorem tbk_X4_ofPart : sv_tbok cX4_ofPart tb_X4_ofPart = true := by decide +kernel
def cal_X4_ofPart : List (Nat × (Nat × Nat × sv_P)) := [(57, (2, 2, sp_X2_hasPart)), (109, (3, 4, sp_X4_isOfThing))]
def T_X4_ofPart : sv_T := (flX4, sfX4, kcX4, klX4, cal_X4_ofPart)
set_option maxRecDepth 100000 in
theorem Tok_X4_ofPart (l : Launch) : sv_Tok l RX4 sv_all 2 44 T_X4_ofPart := ⟨flokX4, sfokX4, kcokX4, klokX4, List.forall_mem_cons.mpr ⟨⟨fun _ => sv_COv_of (c_X2_hasPart l) sv_clok_all (sv_mem 254 (by decide +kernel) rfl) kw_X2_hasPart.1 kw_X2_hasPart.2.1 kw_X2_hasPart.2.2.1 kw_X2_hasPart.2.2.2 kd_X2_hasPart rfl (by decide) (by decide +kernel) rfl (by decide), fun h => absurd h (by decide)⟩, List.forall_mem_cons.mpr ⟨⟨fun _ => sv_COv_of (c_X4_isOfThing l) sv_clok_all (sv_mem 317 (by decide +kernel) rfl) kw_X4_isOfThing.1 kw_X4_isOfThing.2.1 kw_X4_isOfThing.2.2.1 kw_X4_isOfThing.2.2.2 kd_X4_isOfThing rfl (by decide) (by decide +kernel) rfl (by decide), fun h => absurd h (by decide)⟩, fun _ h => absurd h List.not_mem_nil⟩⟩⟩
theorem kw_X4_ofPart : Cond.instanceMethod yX4_ofPart ∈ sv_tb ∧ Cond.selects yX4_ofPart.cls yX4_ofPart yX4_ofPart ∈ sv_tb ∧ Cond.initialized yX4_ofPart.cls ∈ sv_tb ∧ Cond.code yX4_ofPart cX4_ofPart 3 (some .int) ∈ sv_tb := ⟨sv_mem 314 (by decide +kernel) rfl, sv_mem 315 (by decide +kernel) rfl, sv_mem 51 (by decide +kernel) rfl, sv_mem 316 (by decide +kernel) rfl⟩
theorem kd_X4_ofPart : yX4_ofPart.cls ≠ "java/lang/invoke/MethodHandle" ∧ yX4_ofPart.cls ≠ "java/lang/invoke/VarHandle" ∧ (parseMethodDescriptor yX4_ofPart.desc).map (fun d => d.parameters.length) = some 2 := by decide +kernel
def F_X4_ofPart_0 (Wk : sv_K) (Kr : Option sv_AV → sv_S → Prop) (p : Int32) (what : Int32) (σ : sv_S) : Prop := (∃ d1 : dD, (RP d1 σ) ∧ ((isN (dP d1) p → ((¬ what = (0 : Int32) → ((¬ what = (1 : Int32) → (∃ d2 : dD, ∃ f3 : Nat, (RP d2 σ ∧ (f3 ≤ 20 ∧ (10 : Int32) = nI f3)) ∧ ((inT d2 f3 what → (vp_in (what - (10 : Int32)) 5 ∧ (vp_in p 10 ∧ Kr (some (.inl (sv_gA σ 25 (what - (10 : Int32)).toNatClampNeg p.toNatClampNeg))) σ))) ∧ (¬ inT d2 f3 what → (∃ d4 : dD, ∃ f5 : Nat, (RP d4 σ ∧ (f5 ≤ 20 ∧ (20 : Int32) = nI f5)) ∧ ((inT d4 f5 what → (vp_in (what - (20 : Int32)) 5 ∧ (vp_in p 10 ∧ Kr (some (.inl (sv_gA σ 27 (what - (20 : Int32)).toNatClampNeg p.toNatClampNeg))) σ))) ∧ (¬ inT d4 f5 what → Kr (some (.inl (-2 : Int32))) σ))))))) ∧ (what = (1 : Int32) → (vp_in p 10 ∧ Kr (some (.inl (sv_gA σ 22 1 p.toNatClampNeg))) σ)))) ∧ (what = (0 : Int32) → (vp_in p 10 ∧ Kr (some (.inl (sv_gA σ 22 0 p.toNatClampNeg))) σ)))) ∧ (¬ isN (dP d1) p → Kr (some (.inl (-1 : Int32))) σ)))
set_option maxRecDepth 100000 in
theorem bk_X4_ofPart_0 (Wk : sv_K) (Kr : Option sv_AV → sv_S → Prop) (p : Int32) (what : Int32) (σ : sv_S) (h : F_X4_ofPart_0 Wk Kr p what σ) : sv_vc tb_X4_ofPart T_X4_ofPart sv_all (some .int) Kr [] Wk 500 0 [some (.inr (.inr (4, 0))), some (.inl p), some (.inl what)] [] σ := (match h with | ⟨d1, z10p, z10a, z10b⟩ => ⟨d1, z10p, fun z10y => sb_nt (by decide) (⟨fun z9 => ⟨fun z8 => (match (((((z10a z10y)).1 z9)).1 z8) with | ⟨d2, f3, z7p, z7a, z7b⟩ => ⟨d2, f3, z7p, fun z7y => br_f (by decide) ((z7a z7y)), fun z7y => br_t (by decide) ((match (z7b z7y) with | ⟨d4, f5, z6p, z6a, z6b⟩ => ⟨d4, f5, z6p, fun z6y => br_f (by decide) ((z6a z6y)), fun z6y => br_t (by decide) ((z6b z6y))⟩))⟩), fun z8 => ⟨sb_vin (by decide), (((((z10a z10y)).1 z9)).2 z8)⟩⟩, fun z9 => ⟨sb_vin (by decide), (((z10a z10y)).2 z9)⟩⟩), fun z10y => sb_nf (by decide) ((z10b z10y))⟩)
set_option maxRecDepth 100000 in
theorem m_X4_ofPart (l : Launch) (hb : ∀ (Wk : sv_K) (Kr : Option sv_AV → sv_S → Prop), (∀ (p : Int32) (what : Int32) (σ : sv_S), F_X4_ofPart_0 Wk Kr p what σ → Wk 0 [some (.inr (.inr (4, 0))), some (.inl p), some (.inl what)] [] σ) → (∀ (p : Int32) (what : Int32) (σ : sv_S), (∃ c : Nat, ∃ d : dD, (CI c d σ ∧ c < 900000) ∧ (∀ v : Int32, v = A_ofPart d p what → Kr (some (.inl v)) σ)) → Wk 0 [some (.inr (.inr (4, 0))), some (.inl p), some (.inl what)] [] σ)) : sv_C l yX4_ofPart cX4_ofPart 3 (some .int) sv_all 2 44 sp_X4_ofPart := by
  refine sv_meth sv_clok_all tb_X4_ofPart T_X4_ofPart (by decide) tbk_X4_ofPart (Tok_X4_ofPart l) ?_
  intro Wk Kr hc av σ hsp
  have hB := hb Wk Kr (fun p what σ h => hc [] 500 0 _ _ _ (bk_X4_ofPart_0 Wk Kr p what σ h))
  unfold sp_X4_ofPart at hsp
  split at hsp
  · exact ⟨⟨by simp, by simp [sv_cat]⟩, hB _ _ _ hsp⟩
  · exact hsp.elim
theorem xn_sub {f t : Nat} (h : f + t + 1 < 2 ^ 31) : (nI (f + t) - nI f).toNatClampNeg = t ∧ vp_in (nI (f + t) - nI f) (t + 1) := by
  rw [pk_sub (by omega), Nat.add_sub_cancel_left]
  exact ⟨nI_clamp (by omega), pk_in t (t + 1) (by omega)⟩
set_option maxHeartbeats 4000000 in
set_option maxRecDepth 100000 in
theorem c_X4_ofPart (l : Launch) : sv_C l yX4_ofPart cX4_ofPart 3 (some .int) sv_all 2 44 sp_X4_ofPart := by
  refine m_X4_ofPart l ?_
  intro Wk Kr e0 p what σ ⟨c, d, ⟨hC, hc⟩, h⟩
  have hP := hC.1.1.1
  have hT := hC.1.1.2.1
  obtain ⟨h0, h1, h2, h3, h4, h5, h6, h7, h8⟩ := hC.1
  apply e0
  refine ⟨d, hC.1, fun hp => ?_, fun hp => h _ (ch_f hp _ _).symm⟩
  have g1 := hp
  obtain ⟨q, hq, rfl⟩ := hp
  rw [nI_clamp (by omega : q < 2 ^ 31)]
  refine ⟨fun w0 => ⟨fun w1 => ⟨d, 10, ⟨hC.1, by omega, rfl⟩, fun wt => ?_, fun wt => ⟨d, 20, ⟨hC.1, by omega, rfl⟩, fun ww => ?_, fun ww => h _ ?_⟩⟩, fun w1 => ⟨pk_in q 10 (by omega), h _ ?_⟩⟩, fun w0 => ⟨pk_in q 10 (by omega), h _ ?_⟩⟩
  · have g2 := wt
    obtain ⟨t, ht, rfl⟩ := wt
    rw [show (10 : Int32) = nI 10 from rfl, (xn_sub (by omega)).1, pk_sub (by omega), Nat.add_sub_cancel_left]
    refine ⟨pk_in t 5 (by omega), pk_in q 10 (by omega), h _ ?_⟩
    unfold A_ofPart
    rw [ch_t g1, ch_f w0, ch_f w1, ch_t g2, xn_nI (by omega), xn_nI (by omega), Nat.add_sub_cancel_left]
    exact h6 t q (by omega) hq
  · have g2 := ww
    obtain ⟨t, ht, rfl⟩ := ww
    rw [show (20 : Int32) = nI 20 from rfl, (xn_sub (by omega)).1, pk_sub (by omega), Nat.add_sub_cancel_left]
    refine ⟨pk_in t 5 (by omega), pk_in q 10 (by omega), h _ ?_⟩
    unfold A_ofPart
    rw [ch_t g1, ch_f w0, ch_f w1, ch_f wt, ch_t g2, xn_nI (by omega), xn_nI (by omega), Nat.add_sub_cancel_left]
    exact h7 t q (by omega) hq
  · unfold A_ofPart
    rw [ch_t g1, ch_f w0, ch_f w1, ch_f wt, ch_f ww]
  · unfold A_ofPart
    rw [ch_t g1, ch_f w0, ch_t w1, xn_nI (by omega)]
    exact h4 1 q (by omega) hq
  · unfold A_ofPart
    rw [ch_t g1, ch_t w0, xn_nI (by omega)]
    exact h4 0 q (by omega) hq
-- ==== X4_plan
def sp_X4_plan : sv_P := fun av σ K => match av with
  | [.inr (.inr (4, 0)), .inl p, .inl set] => ∃ c : Nat, ∃ d : dD, (CI c d σ ∧ c < 900000) ∧ (∀ v : Int32, ∀ σ2 : sv_S, v = A_plan d p set ∧ CI (c + 6) (U_plan d p set) σ2 ∧ sq xg σ σ2 → K (some (.inl v)) σ2)
  | _ => False
def tb_X4_plan : List (Nat × (Instr × Nat)) := [(0, (.aload_n 0, 1)), (1, (.getfield 10, 3)), (4, (.iload_n 1, 1)), (5, (.invokevirtual 57, 3)), (8, (.ifCond .ne 5, 3)), (11, (.iconst (-1), 1)), (12, (.ireturn, 1)), (13, (.iload_n 2, 1)), (14, (.iconst 0, 1)), (15, (.aload_n 0, 1)), (16, (.getfield 10, 3)), (19, (.invokevirtual 118, 3)), (22, (.iconst 1, 1)), (23, (.isub, 1)), (24, (.invokestatic 68, 3)), (27, (.ifCond .ne 6, 3)), (30, (.bipush (-2), 2)), (32, (.ireturn, 1)), (33, (.aload_n 0, 1)), (34, (.getfield 21, 3)), (37, (.getfield 53, 3)), (40, (.iload_n 1, 1)), (41, (.iaload, 1)), (42, (.istore_n 3, 1)), (43, (.aload_n 0, 1)), (44, (.getfield 21, 3)), (47, (.getfield 53, 3)), (50, (.iload_n 1, 1)), (51, (.iload_n 2, 1)), (52, (.iastore, 1)), (53, (.iload_n 3, 1)), (54, (.ireturn, 1))]
set_option maxRecDepth 100000 in
theorem tbk_X4_plan : sv_tbok cX4_plan tb_X4_plan = true := by decide +kernel
def cal_X4_plan : List (Nat × (Nat × Nat × sv_P)) := [(57, (2, 2, sp_X2_hasPart)), (118, (1, 2, sp_X2_countSets)), (68, (3, 90, sp_X4_within))]
def T_X4_plan : sv_T := (flX4, sfX4, kcX4, klX4, cal_X4_plan)
set_option maxRecDepth 100000 in
theorem Tok_X4_plan (l : Launch) : sv_Tok l RX4 sv_all 2 43 T_X4_plan := ⟨flokX4, sfokX4, kcokX4, klokX4, List.forall_mem_cons.mpr ⟨⟨fun _ => sv_COv_of (c_X2_hasPart l) sv_clok_all (sv_mem 254 (by decide +kernel) rfl) kw_X2_hasPart.1 kw_X2_hasPart.2.1 kw_X2_hasPart.2.2.1 kw_X2_hasPart.2.2.2 kd_X2_hasPart rfl (by decide) (by decide +kernel) rfl (by decide), fun h => absurd h (by decide)⟩, List.forall_mem_cons.mpr ⟨⟨fun _ => sv_COv_of (c_X2_countSets l) sv_clok_all (sv_mem 325 (by decide +kernel) rfl) kw_X2_countSets.1 kw_X2_countSets.2.1 kw_X2_countSets.2.2.1 kw_X2_countSets.2.2.2 kd_X2_countSets rfl (by decide) (by decide +kernel) rfl (by decide), fun h => absurd h (by decide)⟩, List.forall_mem_cons.mpr ⟨⟨fun h => absurd h (by decide), fun _ => sv_COs_gen (c_X4_within l) (Or.inl (sv_mem 235 (by decide +kernel) rfl)) kw_X4_within.1 kw_X4_within.2.1 kw_X4_within.2.2 kd_X4_within rfl (by decide) (by decide +kernel)⟩, fun _ h => absurd h List.not_mem_nil⟩⟩⟩⟩
theorem kw_X4_plan : Cond.instanceMethod yX4_plan ∈ sv_tb ∧ Cond.selects yX4_plan.cls yX4_plan yX4_plan ∈ sv_tb ∧ Cond.initialized yX4_plan.cls ∈ sv_tb ∧ Cond.code yX4_plan cX4_plan 4 (some .int) ∈ sv_tb := ⟨sv_mem 322 (by decide +kernel) rfl, sv_mem 323 (by decide +kernel) rfl, sv_mem 51 (by decide +kernel) rfl, sv_mem 324 (by decide +kernel) rfl⟩
theorem kd_X4_plan : yX4_plan.cls ≠ "java/lang/invoke/MethodHandle" ∧ yX4_plan.cls ≠ "java/lang/invoke/VarHandle" ∧ (parseMethodDescriptor yX4_plan.desc).map (fun d => d.parameters.length) = some 2 := by decide +kernel
def F_X4_plan_0 (Wk : sv_K) (Kr : Option sv_AV → sv_S → Prop) (p : Int32) (set : Int32) (σ : sv_S) : Prop := (∃ d1 : dD, (RP d1 σ) ∧ ((isN (dP d1) p → (∃ d2 : dD, (RP d2 σ) ∧ (∀ v3 : Int32, v3 = nI (2 ^ dT d2) → ((((0 : Int32) ≤ set ∧ set ≤ (v3 - (1 : Int32)) → (vp_in p 10 ∧ (vp_in p 10 ∧ Kr (some (.inl (sv_gA σ 17 0 p.toNatClampNeg))) (sv_sA σ 17 0 p.toNatClampNeg set)))) ∧ (¬ ((0 : Int32) ≤ set ∧ set ≤ (v3 - (1 : Int32))) → Kr (some (.inl (-2 : Int32))) σ)))))) ∧ (¬ isN (dP d1) p → Kr (some (.inl (-1 : Int32))) σ)))
set_option maxRecDepth 100000 in
theorem bk_X4_plan_0 (Wk : sv_K) (Kr : Option sv_AV → sv_S → Prop) (p : Int32) (set : Int32) (σ : sv_S) (h : F_X4_plan_0 Wk Kr p set σ) : sv_vc tb_X4_plan T_X4_plan sv_all (some .int) Kr [] Wk 500 0 [some (.inr (.inr (4, 0))), some (.inl p), some (.inl set), none] [] σ := (match h with | ⟨d1, z6p, z6a, z6b⟩ => ⟨d1, z6p, fun z6y => sb_nt (by decide) ((match (z6a z6y) with | ⟨d2, z5p, z5k⟩ => ⟨d2, z5p, fun v3 z5y => (match (z5k v3 z5y) with | ⟨z4a, z4b⟩ => ⟨fun z4y => sb_nt (by decide) ((z4a z4y)), fun z4y => sb_nf (by decide) ((z4b z4y))⟩)⟩)), fun z6y => sb_nf (by decide) ((z6b z6y))⟩)
set_option maxRecDepth 100000 in
theorem m_X4_plan (l : Launch) (hb : ∀ (Wk : sv_K) (Kr : Option sv_AV → sv_S → Prop), (∀ (p : Int32) (set : Int32) (σ : sv_S), F_X4_plan_0 Wk Kr p set σ → Wk 0 [some (.inr (.inr (4, 0))), some (.inl p), some (.inl set), none] [] σ) → (∀ (p : Int32) (set : Int32) (σ : sv_S), (∃ c : Nat, ∃ d : dD, (CI c d σ ∧ c < 900000) ∧ (∀ v : Int32, ∀ σ2 : sv_S, v = A_plan d p set ∧ CI (c + 6) (U_plan d p set) σ2 ∧ sq xg σ σ2 → Kr (some (.inl v)) σ2)) → Wk 0 [some (.inr (.inr (4, 0))), some (.inl p), some (.inl set), none] [] σ)) : sv_C l yX4_plan cX4_plan 4 (some .int) sv_all 2 43 sp_X4_plan := by
  refine sv_meth sv_clok_all tb_X4_plan T_X4_plan (by decide) tbk_X4_plan (Tok_X4_plan l) ?_
  intro Wk Kr hc av σ hsp
  have hB := hb Wk Kr (fun p set σ h => hc [] 500 0 _ _ _ (bk_X4_plan_0 Wk Kr p set σ h))
  unfold sp_X4_plan at hsp
  split at hsp
  · exact ⟨⟨by simp, by simp [sv_cat]⟩, hB _ _ _ hsp⟩
  · exact hsp.elim
set_option maxHeartbeats 4000000 in
set_option maxRecDepth 100000 in
theorem c_X4_plan (l : Launch) : sv_C l yX4_plan cX4_plan 4 (some .int) sv_all 2 43 sp_X4_plan := by
  refine m_X4_plan l ?_
  intro Wk Kr e0 p set σ ⟨c, d, ⟨hC, hc⟩, h⟩
  have hP := hC.1.1.1
  have h32 := two_pow_le hC.1.1
  apply e0
  refine ⟨d, hC.1, fun hp => ⟨d, hC.1, fun v3 h3 => ?_⟩, fun hp => h _ _ ⟨?_, ?_, sq_rf _ _⟩⟩
  · rw [h3, ← isN_le (by omega)]
    refine ⟨fun hs => ?_, fun hs => h _ _ ⟨?_, ?_, sq_rf _ _⟩⟩
    · have g1 := hp
      have g2 := hs
      obtain ⟨q, hq, rfl⟩ := hp
      obtain ⟨s, hs, rfl⟩ := hs
      rw [nI_clamp (by omega)]
      refine ⟨pk_in q 10 (by omega), pk_in q 10 (by omega), h _ _ ⟨?_, ?_, sq_sA _ _ _ _ (by decide)⟩⟩
      · unfold A_plan
        rw [ch_t g1, ch_t g2, xn_nI (by omega)]
        exact hC.2.1.2 q hq
      · unfold U_plan
        rw [ch_t ⟨g1, g2⟩, xn_nI (by omega), xn_nI (by omega)]
        exact CI_plan hC hs
    · unfold A_plan
      rw [ch_t hp, ch_f hs]
    · unfold U_plan
      rw [ch_f (fun y => hs y.2)]
      exact CI_mono hC
  · unfold A_plan
    rw [ch_f hp]
  · unfold U_plan
    rw [ch_f (fun y => hp y.1)]
    exact CI_mono hC
-- ==== X4_planned
def sp_X4_planned : sv_P := fun av σ K => match av with
  | [.inr (.inr (4, 0)), .inl p] => ∃ c : Nat, ∃ d : dD, (CI c d σ ∧ c < 900000) ∧ (∀ v : Int32, v = A_planned d p → K (some (.inl v)) σ)
  | _ => False
def tb_X4_planned : List (Nat × (Instr × Nat)) := [(0, (.aload_n 0, 1)), (1, (.getfield 10, 3)), (4, (.iload_n 1, 1)), (5, (.invokevirtual 57, 3)), (8, (.ifCond .ne 5, 3)), (11, (.iconst (-1), 1)), (12, (.ireturn, 1)), (13, (.aload_n 0, 1)), (14, (.getfield 21, 3)), (17, (.getfield 53, 3)), (20, (.iload_n 1, 1)), (21, (.iaload, 1)), (22, (.ireturn, 1))]
set_option maxRecDepth 100000 in
theorem tbk_X4_planned : sv_tbok cX4_planned tb_X4_planned = true := by decide +kernel
def cal_X4_planned : List (Nat × (Nat × Nat × sv_P)) := [(57, (2, 2, sp_X2_hasPart))]
def T_X4_planned : sv_T := (flX4, sfX4, kcX4, klX4, cal_X4_planned)
set_option maxRecDepth 100000 in
theorem Tok_X4_planned (l : Launch) : sv_Tok l RX4 sv_all 2 43 T_X4_planned := ⟨flokX4, sfokX4, kcokX4, klokX4, List.forall_mem_cons.mpr ⟨⟨fun _ => sv_COv_of (c_X2_hasPart l) sv_clok_all (sv_mem 254 (by decide +kernel) rfl) kw_X2_hasPart.1 kw_X2_hasPart.2.1 kw_X2_hasPart.2.2.1 kw_X2_hasPart.2.2.2 kd_X2_hasPart rfl (by decide) (by decide +kernel) rfl (by decide), fun h => absurd h (by decide)⟩, fun _ h => absurd h List.not_mem_nil⟩⟩
theorem kw_X4_planned : Cond.instanceMethod yX4_planned ∈ sv_tb ∧ Cond.selects yX4_planned.cls yX4_planned yX4_planned ∈ sv_tb ∧ Cond.initialized yX4_planned.cls ∈ sv_tb ∧ Cond.code yX4_planned cX4_planned 2 (some .int) ∈ sv_tb := ⟨sv_mem 421 (by decide +kernel) rfl, sv_mem 422 (by decide +kernel) rfl, sv_mem 51 (by decide +kernel) rfl, sv_mem 423 (by decide +kernel) rfl⟩
theorem kd_X4_planned : yX4_planned.cls ≠ "java/lang/invoke/MethodHandle" ∧ yX4_planned.cls ≠ "java/lang/invoke/VarHandle" ∧ (parseMethodDescriptor yX4_planned.desc).map (fun d => d.parameters.length) = some 1 := by decide +kernel
def F_X4_planned_0 (Wk : sv_K) (Kr : Option sv_AV → sv_S → Prop) (p : Int32) (σ : sv_S) : Prop := (∃ d1 : dD, (RP d1 σ) ∧ ((isN (dP d1) p → (vp_in p 10 ∧ Kr (some (.inl (sv_gA σ 17 0 p.toNatClampNeg))) σ)) ∧ (¬ isN (dP d1) p → Kr (some (.inl (-1 : Int32))) σ)))
set_option maxRecDepth 100000 in
theorem bk_X4_planned_0 (Wk : sv_K) (Kr : Option sv_AV → sv_S → Prop) (p : Int32) (σ : sv_S) (h : F_X4_planned_0 Wk Kr p σ) : sv_vc tb_X4_planned T_X4_planned sv_all (some .int) Kr [] Wk 500 0 [some (.inr (.inr (4, 0))), some (.inl p)] [] σ := (match h with | ⟨d1, z2p, z2a, z2b⟩ => ⟨d1, z2p, fun z2y => sb_nt (by decide) ((z2a z2y)), fun z2y => sb_nf (by decide) ((z2b z2y))⟩)
set_option maxRecDepth 100000 in
theorem m_X4_planned (l : Launch) (hb : ∀ (Wk : sv_K) (Kr : Option sv_AV → sv_S → Prop), (∀ (p : Int32) (σ : sv_S), F_X4_planned_0 Wk Kr p σ → Wk 0 [some (.inr (.inr (4, 0))), some (.inl p)] [] σ) → (∀ (p : Int32) (σ : sv_S), (∃ c : Nat, ∃ d : dD, (CI c d σ ∧ c < 900000) ∧ (∀ v : Int32, v = A_planned d p → Kr (some (.inl v)) σ)) → Wk 0 [some (.inr (.inr (4, 0))), some (.inl p)] [] σ)) : sv_C l yX4_planned cX4_planned 2 (some .int) sv_all 2 43 sp_X4_planned := by
  refine sv_meth sv_clok_all tb_X4_planned T_X4_planned (by decide) tbk_X4_planned (Tok_X4_planned l) ?_
  intro Wk Kr hc av σ hsp
  have hB := hb Wk Kr (fun p σ h => hc [] 500 0 _ _ _ (bk_X4_planned_0 Wk Kr p σ h))
  unfold sp_X4_planned at hsp
  split at hsp
  · exact ⟨⟨by simp, by simp [sv_cat]⟩, hB _ _ hsp⟩
  · exact hsp.elim
set_option maxHeartbeats 4000000 in
set_option maxRecDepth 100000 in
theorem c_X4_planned (l : Launch) : sv_C l yX4_planned cX4_planned 2 (some .int) sv_all 2 43 sp_X4_planned := by
  refine m_X4_planned l ?_
  intro Wk Kr e0 p σ ⟨c, d, ⟨hC, hc⟩, h⟩
  have hP := hC.1.1.1
  apply e0
  refine ⟨d, hC.1, fun hp => ?_, fun hp => h _ (ch_f hp _ _).symm⟩
  have g1 := hp
  obtain ⟨q, hq, rfl⟩ := hp
  refine ⟨pk_in q 10 (by omega), h _ ?_⟩
  unfold A_planned
  rw [ch_t g1, xn_nI (by omega), nI_clamp (by omega)]
  exact hC.2.1.2 q hq
-- ==== X4_misfit
def sp_X4_misfit : sv_P := fun av σ K => match av with
  | [.inr (.inr (4, 0))] => ∃ c : Nat, ∃ d : dD, (CI c d σ ∧ c < 900000) ∧ (∀ v : Int32, v = A_misfit d  → K (some (.inl v)) σ)
  | _ => False
def tb_X4_misfit : List (Nat × (Instr × Nat)) := [(0, (.iconst 0, 1)), (1, (.istore_n 1, 1)), (2, (.iload_n 1, 1)), (3, (.aload_n 0, 1)), (4, (.getfield 10, 3)), (7, (.getfield 45, 3)), (10, (.if_icmp .ge 39, 3)), (13, (.aload_n 0, 1)), (14, (.getfield 10, 3)), (17, (.aload_n 0, 1)), (18, (.getfield 21, 3)), (21, (.getfield 53, 3)), (24, (.iload_n 1, 1)), (25, (.iaload, 1)), (26, (.invokevirtual 141, 3)), (29, (.aload_n 0, 1)), (30, (.getfield 10, 3)), (33, (.getfield 99, 3)), (36, (.iconst 0, 1)), (37, (.iaload, 1)), (38, (.if_icmp .le 5, 3)), (41, (.iload_n 1, 1)), (42, (.ireturn, 1)), (43, (.iinc 1 1, 3)), (46, (.goto (-44), 3)), (49, (.bipush (-9), 2)), (51, (.ireturn, 1))]
set_option maxRecDepth 100000 in
theorem tbk_X4_misfit : sv_tbok cX4_misfit tb_X4_misfit = true := by decide +kernel
def cal_X4_misfit : List (Nat × (Nat × Nat × sv_P)) := [(141, (2, 2, sp_X2_cellsOf))]
def T_X4_misfit : sv_T := (flX4, sfX4, kcX4, klX4, cal_X4_misfit)
set_option maxRecDepth 100000 in
theorem Tok_X4_misfit (l : Launch) : sv_Tok l RX4 sv_all 2 44 T_X4_misfit := ⟨flokX4, sfokX4, kcokX4, klokX4, List.forall_mem_cons.mpr ⟨⟨fun _ => sv_COv_of (c_X2_cellsOf l) sv_clok_all (sv_mem 428 (by decide +kernel) rfl) kw_X2_cellsOf.1 kw_X2_cellsOf.2.1 kw_X2_cellsOf.2.2.1 kw_X2_cellsOf.2.2.2 kd_X2_cellsOf rfl (by decide) (by decide +kernel) rfl (by decide), fun h => absurd h (by decide)⟩, fun _ h => absurd h List.not_mem_nil⟩⟩
theorem kw_X4_misfit : Cond.instanceMethod yX4_misfit ∈ sv_tb ∧ Cond.selects yX4_misfit.cls yX4_misfit yX4_misfit ∈ sv_tb ∧ Cond.initialized yX4_misfit.cls ∈ sv_tb ∧ Cond.code yX4_misfit cX4_misfit 2 (some .int) ∈ sv_tb := ⟨sv_mem 425 (by decide +kernel) rfl, sv_mem 426 (by decide +kernel) rfl, sv_mem 51 (by decide +kernel) rfl, sv_mem 427 (by decide +kernel) rfl⟩
theorem kd_X4_misfit : yX4_misfit.cls ≠ "java/lang/invoke/MethodHandle" ∧ yX4_misfit.cls ≠ "java/lang/invoke/VarHandle" ∧ (parseMethodDescriptor yX4_misfit.desc).map (fun d => d.parameters.length) = some 0 := by decide +kernel
def F_X4_misfit_0 (Wk : sv_K) (Kr : Option sv_AV → sv_S → Prop)  (σ : sv_S) : Prop := Wk 2 [some (.inr (.inr (4, 0))), some (.inl (0 : Int32))] [] σ
set_option maxRecDepth 100000 in
theorem bk_X4_misfit_0 (Wk : sv_K) (Kr : Option sv_AV → sv_S → Prop)  (σ : sv_S) (h : F_X4_misfit_0 Wk Kr  σ) : sv_vc tb_X4_misfit T_X4_misfit sv_all (some .int) Kr [(2, [true, true])] Wk 500 0 [some (.inr (.inr (4, 0))), none] [] σ := h
def F_X4_misfit_2 (Wk : sv_K) (Kr : Option sv_AV → sv_S → Prop) (x1 : Int32) (σ : sv_S) : Prop := (((sv_gA σ 2 0 0) ≤ x1 → Kr (some (.inl (-9 : Int32))) σ) ∧ (¬ (sv_gA σ 2 0 0) ≤ x1 → (vp_in x1 10 ∧ (∃ d1 : dD, ∃ c2 : Nat, (RP d1 σ ∧ (c2 < 32 ∧ (sv_gA σ 17 0 x1.toNatClampNeg) = nI c2)) ∧ (∀ v3 : Int32, v3 = nI (cells d1 c2) → ((v3 ≤ (sv_gA σ 20 0 0) → Wk 2 [some (.inr (.inr (4, 0))), some (.inl (x1 + (1 : Int32)))] [] σ) ∧ (¬ v3 ≤ (sv_gA σ 20 0 0) → Kr (some (.inl x1)) σ)))))))
set_option maxRecDepth 100000 in
theorem bk_X4_misfit_2 (Wk : sv_K) (Kr : Option sv_AV → sv_S → Prop) (x1 : Int32) (σ : sv_S) (h : F_X4_misfit_2 Wk Kr x1 σ) : sv_vc tb_X4_misfit T_X4_misfit sv_all (some .int) Kr [(2, [true, true])] Wk 500 2 [some (.inr (.inr (4, 0))), some (.inl x1)] [] σ := ⟨fun z5 => ((h).1 z5), fun z5 => ⟨(((h).2 z5)).1, (match ((((h).2 z5)).2) with | ⟨d1, c2, z4p, z4k⟩ => ⟨d1, c2, z4p, fun v3 z4y => ⟨sb_vin (by decide), (z4k v3 z4y)⟩⟩)⟩⟩
set_option maxRecDepth 100000 in
theorem m_X4_misfit (l : Launch) (hb : ∀ (Wk : sv_K) (Kr : Option sv_AV → sv_S → Prop), (∀  (σ : sv_S), F_X4_misfit_0 Wk Kr  σ → Wk 0 [some (.inr (.inr (4, 0))), none] [] σ) → (∀ (x1 : Int32) (σ : sv_S), F_X4_misfit_2 Wk Kr x1 σ → Wk 2 [some (.inr (.inr (4, 0))), some (.inl x1)] [] σ) → (∀  (σ : sv_S), (∃ c : Nat, ∃ d : dD, (CI c d σ ∧ c < 900000) ∧ (∀ v : Int32, v = A_misfit d  → Kr (some (.inl v)) σ)) → Wk 0 [some (.inr (.inr (4, 0))), none] [] σ)) : sv_C l yX4_misfit cX4_misfit 2 (some .int) sv_all 2 44 sp_X4_misfit := by
  refine sv_meth sv_clok_all tb_X4_misfit T_X4_misfit (by decide) tbk_X4_misfit (Tok_X4_misfit l) ?_
  intro Wk Kr hc av σ hsp
  have hB := hb Wk Kr (fun  σ h => hc [(2, [true, true])] 500 0 _ _ _ (bk_X4_misfit_0 Wk Kr  σ h)) (fun x1 σ h => hc [(2, [true, true])] 500 2 _ _ _ (bk_X4_misfit_2 Wk Kr x1 σ h))
  unfold sp_X4_misfit at hsp
  split at hsp
  · exact ⟨⟨by simp, by simp [sv_cat]⟩, hB  _ hsp⟩
  · exact hsp.elim
set_option maxHeartbeats 4000000 in
set_option maxRecDepth 100000 in
theorem c_X4_misfit (l : Launch) : sv_C l yX4_misfit cX4_misfit 2 (some .int) sv_all 2 44 sp_X4_misfit := by
  refine m_X4_misfit l ?_
  intro Wk Kr e0 e2 σ ⟨c, d, ⟨hC, hc⟩, h⟩
  have hP := hC.1.1.1
  have key : ∀ m n, n + m = dP d → (∀ j, j < n → msf d j = false) → Wk 2 [some (.inr (.inr (4, 0))), some (.inl (nI n))] [] σ := by
    intro m
    induction m with
    | zero =>
      intro n hn hno
      apply e2
      unfold F_X4_misfit_2
      rw [hC.1.2.1]
      refine pk_le (dP d) n (fun _ => h _ ?_) (fun z => by omega)
      unfold A_misfit
      rw [if_neg]
      intro hlt
      have h1 := frs_yes _ _ hlt
      rw [hno _ (by omega)] at h1
      cases h1
    | succ m ih =>
      intro n hn hno
      apply e2
      unfold F_X4_misfit_2
      rw [hC.1.2.1, nI_clamp (by omega), hC.2.1.2 n (by omega), nI_1, hC.1.2.2.2.1 0 (by omega)]
      have hcl := cells_le hC.1.1 (dL d n)
      have hs0 := hC.1.1.2.2.2.2.2.2.1
      refine pk_le (dP d) n (fun z => by omega) (fun _ => ⟨pk_in n 10 (by omega), d, dL d n, ⟨hC.1, dL_lt hC.1.1 hC.2.1.1 (by omega), rfl⟩, fun v3 h3 => ?_⟩)
      subst h3
      refine pk_le (cells d (dL d n)) (dS d 0) (fun y => ih (n + 1) (by omega) (fun j hj => ?_)) (fun y => h _ ?_)
      · by_cases hjn : j = n
        · subst hjn
          unfold msf
          exact decide_eq_false (by omega)
        · exact hno j (by omega)
      · have e : frs (msf d) (dP d) = n := frs_eq (by omega) (by unfold msf; exact decide_eq_true y) hno
        unfold A_misfit
        rw [e, if_pos (by omega)]
  apply e0
  exact key (dP d) 0 (by omega) (fun j hj => by omega)
