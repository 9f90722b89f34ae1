-- ==== X4_countStays
def sp_X4_countStays : sv_P := fun av σ K => match av with
  | [.inr (.inr (4, 0))] => ∃ c : Nat, ∃ d : dD, (CI c d σ ∧ c < 900000) ∧ (∀ v : Int32, ∀ σ2 : sv_S, v = nI (cntF d (2 ^ dT d - 1)) ∧ CI (c + 6) d σ2 ∧ sq xg σ σ2 → K (some (.inl v)) σ2)
  | _ => False
def tb_X4_countStays : List (Nat × (Instr × Nat)) := [(0, (.aload_n 0, 1)), (1, (.getfield 21, 3)), (4, (.invokevirtual 135, 3)), (7, (.aload_n 0, 1)), (8, (.getfield 21, 3)), (11, (.aload_n 0, 1)), (12, (.getfield 21, 3)), (15, (.getfield 144, 3)), (18, (.aload_n 0, 1)), (19, (.getfield 10, 3)), (22, (.invokevirtual 118, 3)), (25, (.iconst 1, 1)), (26, (.isub, 1)), (27, (.invokevirtual 147, 3)), (30, (.ireturn, 1))]
set_option maxRecDepth 100000 in
theorem tbk_X4_countStays : sv_tbok cX4_countStays tb_X4_countStays = true := by decide +kernel
def cal_X4_countStays : List (Nat × (Nat × Nat × sv_P)) := [(135, (1, 1, sp_X1_follow)), (118, (1, 2, sp_X2_countSets)), (147, (3, 1, sp_X1_countCarried))]
def T_X4_countStays : sv_T := (flX4, sfX4, kcX4, klX4, cal_X4_countStays)
set_option maxRecDepth 100000 in
theorem Tok_X4_countStays (l : Launch) : sv_Tok l RX4 sv_all 2 44 T_X4_countStays := ⟨flokX4, sfokX4, kcokX4, klokX4, List.forall_mem_cons.mpr ⟨⟨fun _ => sv_COv_of (c_X1_follow l) sv_clok_all (sv_mem 406 (by decide +kernel) rfl) kw_X1_follow.1 kw_X1_follow.2.1 kw_X1_follow.2.2.1 kw_X1_follow.2.2.2 kd_X1_follow rfl (by decide) (by decide +kernel) rfl (by decide), fun h => absurd h (by decide)⟩, List.forall_mem_cons.mpr ⟨⟨fun _ => sv_COv_of (c_X2_countSets l) sv_clok_all (sv_mem 325 (by decide +kernel) rfl) kw_X2_countSets.1 kw_X2_countSets.2.1 kw_X2_countSets.2.2.1 kw_X2_countSets.2.2.2 kd_X2_countSets rfl (by decide) (by decide +kernel) rfl (by decide), fun h => absurd h (by decide)⟩, List.forall_mem_cons.mpr ⟨⟨fun _ => sv_COv_of (c_X1_countCarried l) sv_clok_all (sv_mem 437 (by decide +kernel) rfl) kw_X1_countCarried.1 kw_X1_countCarried.2.1 kw_X1_countCarried.2.2.1 kw_X1_countCarried.2.2.2 kd_X1_countCarried rfl (by decide) (by decide +kernel) rfl (by decide), fun h => absurd h (by decide)⟩, fun _ h => absurd h List.not_mem_nil⟩⟩⟩⟩
theorem kw_X4_countStays : Cond.instanceMethod yX4_countStays ∈ sv_tb ∧ Cond.selects yX4_countStays.cls yX4_countStays yX4_countStays ∈ sv_tb ∧ Cond.initialized yX4_countStays.cls ∈ sv_tb ∧ Cond.code yX4_countStays cX4_countStays 1 (some .int) ∈ sv_tb := ⟨sv_mem 559 (by decide +kernel) rfl, sv_mem 15 (by decide +kernel) rfl, sv_mem 51 (by decide +kernel) rfl, sv_mem 560 (by decide +kernel) rfl⟩
theorem kd_X4_countStays : yX4_countStays.cls ≠ "java/lang/invoke/MethodHandle" ∧ yX4_countStays.cls ≠ "java/lang/invoke/VarHandle" ∧ (parseMethodDescriptor yX4_countStays.desc).map (fun d => d.parameters.length) = some 0 := by decide +kernel
def F_X4_countStays_0 (Wk : sv_K) (Kr : Option sv_AV → sv_S → Prop)  (σ : sv_S) : Prop := (∃ d1 : dD, (RP d1 σ ∧ RQ d1 σ) ∧ (∀ σ3 : sv_S, sq [18, 19] σ σ3 ∧ FW d1 σ3 → (∃ d4 : dD, (RP d4 σ3) ∧ (∀ v5 : Int32, v5 = nI (2 ^ dT d4) → (∃ d6 : dD, ∃ f7 : Nat → Nat, ∃ a8 : Nat, (RP d6 σ3 ∧ (∀ p, p < dP d6 → f7 p < 32 ∧ sv_gA σ3 18 0 p = nI (f7 p)) ∧ ((0) = 0 ∧ a8 < 32 ∧ (v5 - (1 : Int32)) = nI a8)) ∧ (∀ v9 : Int32, v9 = nI (sm (fun p => sd_pc (f7 p &&& a8)) (dP d6)) → Kr (some (.inl v9)) σ3))))))
set_option maxRecDepth 100000 in
theorem bk_X4_countStays_0 (Wk : sv_K) (Kr : Option sv_AV → sv_S → Prop)  (σ : sv_S) (h : F_X4_countStays_0 Wk Kr  σ) : sv_vc tb_X4_countStays T_X4_countStays sv_all (some .int) Kr [] Wk 500 0 [some (.inr (.inr (4, 0)))] [] σ := h
set_option maxRecDepth 100000 in
theorem m_X4_countStays (l : Launch) (hb : ∀ (Wk : sv_K) (Kr : Option sv_AV → sv_S → Prop), (∀  (σ : sv_S), F_X4_countStays_0 Wk Kr  σ → Wk 0 [some (.inr (.inr (4, 0)))] [] σ) → (∀  (σ : sv_S), (∃ c : Nat, ∃ d : dD, (CI c d σ ∧ c < 900000) ∧ (∀ v : Int32, ∀ σ2 : sv_S, v = nI (cntF d (2 ^ dT d - 1)) ∧ CI (c + 6) d σ2 ∧ sq xg σ σ2 → Kr (some (.inl v)) σ2)) → Wk 0 [some (.inr (.inr (4, 0)))] [] σ)) : sv_C l yX4_countStays cX4_countStays 1 (some .int) sv_all 2 44 sp_X4_countStays := by
  refine sv_meth sv_clok_all tb_X4_countStays T_X4_countStays (by decide) tbk_X4_countStays (Tok_X4_countStays l) ?_
  intro Wk Kr hc av σ hsp
  have hB := hb Wk Kr (fun  σ h => hc [] 500 0 _ _ _ (bk_X4_countStays_0 Wk Kr  σ h))
  unfold sp_X4_countStays at hsp
  split at hsp
  · exact ⟨⟨by simp, by simp [sv_cat]⟩, hB  _ hsp⟩
  · exact hsp.elim
set_option maxHeartbeats 4000000 in
set_option maxRecDepth 100000 in
theorem c_X4_countStays (l : Launch) : sv_C l yX4_countStays cX4_countStays 1 (some .int) sv_all 2 44 sp_X4_countStays := by
  refine m_X4_countStays l ?_
  intro Wk Kr e0 σ ⟨c, d, ⟨hC, hc⟩, h⟩
  have h32 := two_pow_le hC.1.1
  have hpos : 0 < 2 ^ dT d := Nat.two_pow_pos _
  apply e0
  refine ⟨d, ⟨hC.1, hC.2.1⟩, fun σ3 ⟨hs, hF⟩ => ?_⟩
  have hR := RP_fr hC.1 hs
  refine ⟨d, hR, fun v5 h5 => ⟨d, fetL (dL d), 2 ^ dT d - 1, ⟨hR, fun p hp => ⟨fetL_lt (dL_lt hC.1.1 hC.2.1.1 hp), (hF p hp).1⟩, rfl, by omega, by rw [h5, pw_pred]⟩, fun v9 h9 => h _ _ ⟨h9, CI_fr hC hs, sq_mono hs (by decide)⟩⟩⟩
-- ==== X4_cost
def sp_X4_cost : sv_P := fun av σ K => match av with
  | [.inr (.inr (4, 0)), .inl kind] => ∃ c : Nat, ∃ d : dD, (CI c d σ ∧ c < 900000) ∧ (∀ v : Int32, ∀ σ2 : sv_S, v = A_cost d kind ∧ CI (c + 6) d σ2 ∧ sq xg σ σ2 → K (some (.inl v)) σ2)
  | _ => False
def tb_X4_cost : List (Nat × (Instr × Nat)) := [(0, (.iload_n 1, 1)), (1, (.invokestatic 125, 3)), (4, (.ifCond .ne 6, 3)), (7, (.bipush (-2), 2)), (9, (.ireturn, 1)), (10, (.aload_n 0, 1)), (11, (.getfield 21, 3)), (14, (.invokevirtual 135, 3)), (17, (.aload_n 0, 1)), (18, (.getfield 21, 3)), (21, (.iload_n 1, 1)), (22, (.invokevirtual 138, 3)), (25, (.ireturn, 1))]
set_option maxRecDepth 100000 in
theorem tbk_X4_cost : sv_tbok cX4_cost tb_X4_cost = true := by decide +kernel
def cal_X4_cost : List (Nat × (Nat × Nat × sv_P)) := [(125, (1, 90, sp_X4_isKind)), (135, (1, 1, sp_X1_follow)), (138, (2, 1, sp_X1_costBy))]
def T_X4_cost : sv_T := (flX4, sfX4, kcX4, klX4, cal_X4_cost)
set_option maxRecDepth 100000 in
theorem Tok_X4_cost (l : Launch) : sv_Tok l RX4 sv_all 4 92 T_X4_cost := ⟨flokX4, sfokX4, kcokX4, klokX4, List.forall_mem_cons.mpr ⟨⟨fun h => absurd h (by decide), fun _ => sv_COs_gen (c_X4_isKind l) (Or.inl (sv_mem 336 (by decide +kernel) rfl)) kw_X4_isKind.1 kw_X4_isKind.2.1 kw_X4_isKind.2.2 kd_X4_isKind rfl (by decide) (by decide +kernel)⟩, List.forall_mem_cons.mpr ⟨⟨fun _ => sv_COv_of (c_X1_follow l) sv_clok_all (sv_mem 406 (by decide +kernel) rfl) kw_X1_follow.1 kw_X1_follow.2.1 kw_X1_follow.2.2.1 kw_X1_follow.2.2.2 kd_X1_follow rfl (by decide) (by decide +kernel) rfl (by decide), fun h => absurd h (by decide)⟩, List.forall_mem_cons.mpr ⟨⟨fun _ => sv_COv_of (c_X1_costBy l) sv_clok_all (sv_mem 410 (by decide +kernel) rfl) kw_X1_costBy.1 kw_X1_costBy.2.1 kw_X1_costBy.2.2.1 kw_X1_costBy.2.2.2 kd_X1_costBy rfl (by decide) (by decide +kernel) rfl (by decide), fun h => absurd h (by decide)⟩, fun _ h => absurd h List.not_mem_nil⟩⟩⟩⟩
theorem kw_X4_cost : Cond.instanceMethod yX4_cost ∈ sv_tb ∧ Cond.selects yX4_cost.cls yX4_cost yX4_cost ∈ sv_tb ∧ Cond.initialized yX4_cost.cls ∈ sv_tb ∧ Cond.code yX4_cost cX4_cost 2 (some .int) ∈ sv_tb := ⟨sv_mem 430 (by decide +kernel) rfl, sv_mem 431 (by decide +kernel) rfl, sv_mem 51 (by decide +kernel) rfl, sv_mem 432 (by decide +kernel) rfl⟩
theorem kd_X4_cost : yX4_cost.cls ≠ "java/lang/invoke/MethodHandle" ∧ yX4_cost.cls ≠ "java/lang/invoke/VarHandle" ∧ (parseMethodDescriptor yX4_cost.desc).map (fun d => d.parameters.length) = some 1 := by decide +kernel
def F_X4_cost_0 (Wk : sv_K) (Kr : Option sv_AV → sv_S → Prop) (kind : Int32) (σ : sv_S) : Prop := (((kind = 0 ∨ kind = 1 → (∃ d1 : dD, (RP d1 σ ∧ RQ d1 σ) ∧ (∀ σ3 : sv_S, sq [18, 19] σ σ3 ∧ FW d1 σ3 → (∃ d4 : dD, ∃ k5 : Nat, (RP d4 σ3 ∧ RQ d4 σ3 ∧ FW d4 σ3 ∧ (k5 < 2 ∧ kind = nI k5)) ∧ (∀ v6 : Int32, v6 = nI (costL d4 (dL d4) k5) → Kr (some (.inl v6)) σ3))))) ∧ (¬ (kind = 0 ∨ kind = 1) → Kr (some (.inl (-2 : Int32))) σ)))
set_option maxRecDepth 100000 in
theorem bk_X4_cost_0 (Wk : sv_K) (Kr : Option sv_AV → sv_S → Prop) (kind : Int32) (σ : sv_S) (h : F_X4_cost_0 Wk Kr kind σ) : sv_vc tb_X4_cost T_X4_cost sv_all (some .int) Kr [] Wk 500 0 [some (.inr (.inr (4, 0))), some (.inl kind)] [] σ := (match h with | ⟨z7a, z7b⟩ => ⟨fun z7y => sb_nt (by decide) ((z7a z7y)), fun z7y => sb_nf (by decide) ((z7b z7y))⟩)
set_option maxRecDepth 100000 in
theorem m_X4_cost (l : Launch) (hb : ∀ (Wk : sv_K) (Kr : Option sv_AV → sv_S → Prop), (∀ (kind : Int32) (σ : sv_S), F_X4_cost_0 Wk Kr kind σ → Wk 0 [some (.inr (.inr (4, 0))), some (.inl kind)] [] σ) → (∀ (kind : Int32) (σ : sv_S), (∃ c : Nat, ∃ d : dD, (CI c d σ ∧ c < 900000) ∧ (∀ v : Int32, ∀ σ2 : sv_S, v = A_cost d kind ∧ CI (c + 6) d σ2 ∧ sq xg σ σ2 → Kr (some (.inl v)) σ2)) → Wk 0 [some (.inr (.inr (4, 0))), some (.inl kind)] [] σ)) : sv_C l yX4_cost cX4_cost 2 (some .int) sv_all 4 92 sp_X4_cost := by
  refine sv_meth sv_clok_all tb_X4_cost T_X4_cost (by decide) tbk_X4_cost (Tok_X4_cost l) ?_
  intro Wk Kr hc av σ hsp
  have hB := hb Wk Kr (fun kind σ h => hc [] 500 0 _ _ _ (bk_X4_cost_0 Wk Kr kind σ h))
  unfold sp_X4_cost at hsp
  split at hsp
  · exact ⟨⟨by simp, by simp [sv_cat]⟩, hB _ _ hsp⟩
  · exact hsp.elim
set_option maxHeartbeats 4000000 in
set_option maxRecDepth 100000 in
theorem c_X4_cost (l : Launch) : sv_C l yX4_cost cX4_cost 2 (some .int) sv_all 4 92 sp_X4_cost := by
  refine m_X4_cost l ?_
  intro Wk Kr e0 kind σ ⟨c, d, ⟨hC, hc⟩, h⟩
  apply e0
  refine ⟨fun ho => ⟨d, ⟨hC.1, hC.2.1⟩, fun σ3 ⟨hs, hF⟩ => ?_⟩, fun ho => h _ _ ⟨(ch_f ho _ _).symm, CI_mono hC, sq_rf _ _⟩⟩
  have g1 : ok2 kind := ho
  obtain ⟨k, hk, rfl, -⟩ := ok2_of ho
  refine ⟨d, k, ⟨RP_fr hC.1 hs, RQ_fr hC.2.1 hs, hF, hk, rfl⟩, fun v6 h6 => h _ _ ⟨?_, CI_fr hC hs, sq_mono hs (by decide)⟩⟩
  unfold A_cost
  rw [ch_t g1, xn_nI (by omega)]
  exact h6
-- ==== X4_carried
def sp_X4_carried : sv_P := fun av σ K => match av with
  | [.inr (.inr (4, 0)), .inl what] => ∃ c : Nat, ∃ d : dD, (CI c d σ ∧ c < 900000) ∧ (∀ v : Int32, ∀ σ2 : sv_S, v = A_carried d what ∧ CI (c + 6) d σ2 ∧ sq xg σ σ2 → K (some (.inl v)) σ2)
  | _ => False
def tb_X4_carried : List (Nat × (Instr × Nat)) := [(0, (.aload_n 0, 1)), (1, (.getfield 21, 3)), (4, (.invokevirtual 135, 3)), (7, (.iload_n 1, 1)), (8, (.ifCond .ne 27, 3)), (11, (.aload_n 0, 1)), (12, (.getfield 21, 3)), (15, (.aload_n 0, 1)), (16, (.getfield 21, 3)), (19, (.getfield 144, 3)), (22, (.aload_n 0, 1)), (23, (.getfield 10, 3)), (26, (.invokevirtual 118, 3)), (29, (.iconst 1, 1)), (30, (.isub, 1)), (31, (.invokevirtual 147, 3)), (34, (.ireturn, 1)), (35, (.iload_n 1, 1)), (36, (.iconst 1, 1)), (37, (.if_icmp .ne 27, 3)), (40, (.aload_n 0, 1)), (41, (.getfield 21, 3)), (44, (.aload_n 0, 1)), (45, (.getfield 21, 3)), (48, (.getfield 151, 3)), (51, (.aload_n 0, 1)), (52, (.getfield 10, 3)), (55, (.invokevirtual 118, 3)), (58, (.iconst 1, 1)), (59, (.isub, 1)), (60, (.invokevirtual 147, 3)), (63, (.ireturn, 1)), (64, (.aload_n 0, 1)), (65, (.iload_n 1, 1)), (66, (.bipush 10, 2)), (68, (.invokevirtual 109, 3)), (71, (.ifCond .eq 24, 3)), (74, (.aload_n 0, 1)), (75, (.getfield 21, 3)), (78, (.aload_n 0, 1)), (79, (.getfield 21, 3)), (82, (.getfield 144, 3)), (85, (.iconst 1, 1)), (86, (.iload_n 1, 1)), (87, (.bipush 10, 2)), (89, (.isub, 1)), (90, (.ishl, 1)), (91, (.invokevirtual 147, 3)), (94, (.ireturn, 1)), (95, (.aload_n 0, 1)), (96, (.iload_n 1, 1)), (97, (.bipush 20, 2)), (99, (.invokevirtual 109, 3)), (102, (.ifCond .eq 24, 3)), (105, (.aload_n 0, 1)), (106, (.getfield 21, 3)), (109, (.aload_n 0, 1)), (110, (.getfield 21, 3)), (113, (.getfield 151, 3)), (116, (.iconst 1, 1)), (117, (.iload_n 1, 1)), (118, (.bipush 20, 2)), (120, (.isub, 1)), (121, (.ishl, 1)), (122, (.invokevirtual 147, 3)), (125, (.ireturn, 1)), (126, (.bipush (-2), 2)), (128, (.ireturn, 1))]
set_option maxRecDepth 100000 in
theorem tbk_X4_carried : sv_tbok cX4_carried tb_X4_carried = true := by decide +kernel
def cal_X4_carried : List (Nat × (Nat × Nat × sv_P)) := [(135, (1, 1, sp_X1_follow)), (118, (1, 2, sp_X2_countSets)), (147, (3, 1, sp_X1_countCarried)), (109, (3, 4, sp_X4_isOfThing))]
def T_X4_carried : sv_T := (flX4, sfX4, kcX4, klX4, cal_X4_carried)
set_option maxRecDepth 100000 in
theorem Tok_X4_carried (l : Launch) : sv_Tok l RX4 sv_all 2 44 T_X4_carried := ⟨flokX4, sfokX4, kcokX4, klokX4, List.forall_mem_cons.mpr ⟨⟨fun _ => sv_COv_of (c_X1_follow l) sv_clok_all (sv_mem 406 (by decide +kernel) rfl) kw_X1_follow.1 kw_X1_follow.2.1 kw_X1_follow.2.2.1 kw_X1_follow.2.2.2 kd_X1_follow rfl (by decide) (by decide +kernel) rfl (by decide), fun h => absurd h (by decide)⟩, List.forall_mem_cons.mpr ⟨⟨fun _ => sv_COv_of (c_X2_countSets l) sv_clok_all (sv_mem 325 (by decide +kernel) rfl) kw_X2_countSets.1 kw_X2_countSets.2.1 kw_X2_countSets.2.2.1 kw_X2_countSets.2.2.2 kd_X2_countSets rfl (by decide) (by decide +kernel) rfl (by decide), fun h => absurd h (by decide)⟩, List.forall_mem_cons.mpr ⟨⟨fun _ => sv_COv_of (c_X1_countCarried l) sv_clok_all (sv_mem 437 (by decide +kernel) rfl) kw_X1_countCarried.1 kw_X1_countCarried.2.1 kw_X1_countCarried.2.2.1 kw_X1_countCarried.2.2.2 kd_X1_countCarried rfl (by decide) (by decide +kernel) rfl (by decide), fun h => absurd h (by decide)⟩, List.forall_mem_cons.mpr ⟨⟨fun _ => sv_COv_of (c_X4_isOfThing l) sv_clok_all (sv_mem 317 (by decide +kernel) rfl) kw_X4_isOfThing.1 kw_X4_isOfThing.2.1 kw_X4_isOfThing.2.2.1 kw_X4_isOfThing.2.2.2 kd_X4_isOfThing rfl (by decide) (by decide +kernel) rfl (by decide), fun h => absurd h (by decide)⟩, fun _ h => absurd h List.not_mem_nil⟩⟩⟩⟩⟩
theorem kw_X4_carried : Cond.instanceMethod yX4_carried ∈ sv_tb ∧ Cond.selects yX4_carried.cls yX4_carried yX4_carried ∈ sv_tb ∧ Cond.initialized yX4_carried.cls ∈ sv_tb ∧ Cond.code yX4_carried cX4_carried 2 (some .int) ∈ sv_tb := ⟨sv_mem 434 (by decide +kernel) rfl, sv_mem 435 (by decide +kernel) rfl, sv_mem 51 (by decide +kernel) rfl, sv_mem 436 (by decide +kernel) rfl⟩
theorem kd_X4_carried : yX4_carried.cls ≠ "java/lang/invoke/MethodHandle" ∧ yX4_carried.cls ≠ "java/lang/invoke/VarHandle" ∧ (parseMethodDescriptor yX4_carried.desc).map (fun d => d.parameters.length) = some 1 := by decide +kernel
def F_X4_carried_0 (Wk : sv_K) (Kr : Option sv_AV → sv_S → Prop) (what : Int32) (σ : sv_S) : Prop := (∃ d1 : dD, (RP d1 σ ∧ RQ d1 σ) ∧ (∀ σ3 : sv_S, sq [18, 19] σ σ3 ∧ FW d1 σ3 → ((¬ what = (0 : Int32) → ((¬ what = (1 : Int32) → (∃ d4 : dD, ∃ f5 : Nat, (RP d4 σ3 ∧ (f5 ≤ 20 ∧ (10 : Int32) = nI f5)) ∧ ((inT d4 f5 what → (∃ d6 : dD, ∃ f7 : Nat → Nat, ∃ a8 : Nat, (RP d6 σ3 ∧ (∀ p, p < dP d6 → f7 p < 32 ∧ sv_gA σ3 18 0 p = nI (f7 p)) ∧ ((0) = 0 ∧ a8 < 32 ∧ ((1 : Int32) <<< ((what - (10 : Int32)) &&& 31)) = nI a8)) ∧ (∀ v9 : Int32, v9 = nI (sm (fun p => sd_pc (f7 p &&& a8)) (dP d6)) → Kr (some (.inl v9)) σ3))) ∧ (¬ inT d4 f5 what → (∃ d10 : dD, ∃ f11 : Nat, (RP d10 σ3 ∧ (f11 ≤ 20 ∧ (20 : Int32) = nI f11)) ∧ ((inT d10 f11 what → (∃ d12 : dD, ∃ f13 : Nat → Nat, ∃ a14 : Nat, (RP d12 σ3 ∧ (∀ p, p < dP d12 → f13 p < 32 ∧ sv_gA σ3 19 0 p = nI (f13 p)) ∧ ((0) = 0 ∧ a14 < 32 ∧ ((1 : Int32) <<< ((what - (20 : Int32)) &&& 31)) = nI a14)) ∧ (∀ v15 : Int32, v15 = nI (sm (fun p => sd_pc (f13 p &&& a14)) (dP d12)) → Kr (some (.inl v15)) σ3))) ∧ (¬ inT d10 f11 what → Kr (some (.inl (-2 : Int32))) σ3))))))) ∧ (what = (1 : Int32) → (∃ d18 : dD, (RP d18 σ3) ∧ (∀ v19 : Int32, v19 = nI (2 ^ dT d18) → (∃ d20 : dD, ∃ f21 : Nat → Nat, ∃ a22 : Nat, (RP d20 σ3 ∧ (∀ p, p < dP d20 → f21 p < 32 ∧ sv_gA σ3 19 0 p = nI (f21 p)) ∧ ((0) = 0 ∧ a22 < 32 ∧ (v19 - (1 : Int32)) = nI a22)) ∧ (∀ v23 : Int32, v23 = nI (sm (fun p => sd_pc (f21 p &&& a22)) (dP d20)) → Kr (some (.inl v23)) σ3))))))) ∧ (what = (0 : Int32) → (∃ d25 : dD, (RP d25 σ3) ∧ (∀ v26 : Int32, v26 = nI (2 ^ dT d25) → (∃ d27 : dD, ∃ f28 : Nat → Nat, ∃ a29 : Nat, (RP d27 σ3 ∧ (∀ p, p < dP d27 → f28 p < 32 ∧ sv_gA σ3 18 0 p = nI (f28 p)) ∧ ((0) = 0 ∧ a29 < 32 ∧ (v26 - (1 : Int32)) = nI a29)) ∧ (∀ v30 : Int32, v30 = nI (sm (fun p => sd_pc (f28 p &&& a29)) (dP d27)) → Kr (some (.inl v30)) σ3))))))))
set_option maxRecDepth 100000 in
theorem bk_X4_carried_0 (Wk : sv_K) (Kr : Option sv_AV → sv_S → Prop) (what : Int32) (σ : sv_S) (h : F_X4_carried_0 Wk Kr what σ) : sv_vc tb_X4_carried T_X4_carried sv_all (some .int) Kr [] Wk 500 0 [some (.inr (.inr (4, 0))), some (.inl what)] [] σ := (match h with | ⟨d1, z32p, z32k⟩ => ⟨d1, z32p, fun σ3 z32y => ⟨fun z31 => ⟨fun z24 => (match (((((z32k σ3 z32y)).1 z31)).1 z24) with | ⟨d4, f5, z17p, z17a, z17b⟩ => ⟨d4, f5, z17p, fun z17y => br_f (by decide) ((z17a z17y)), fun z17y => br_t (by decide) ((match (z17b z17y) with | ⟨d10, f11, z16p, z16a, z16b⟩ => ⟨d10, f11, z16p, fun z16y => br_f (by decide) ((z16a z16y)), fun z16y => br_t (by decide) ((z16b z16y))⟩))⟩), fun z24 => (((((z32k σ3 z32y)).1 z31)).2 z24)⟩, fun z31 => (((z32k σ3 z32y)).2 z31)⟩⟩)
set_option maxRecDepth 100000 in
theorem m_X4_carried (l : Launch) (hb : ∀ (Wk : sv_K) (Kr : Option sv_AV → sv_S → Prop), (∀ (what : Int32) (σ : sv_S), F_X4_carried_0 Wk Kr what σ → Wk 0 [some (.inr (.inr (4, 0))), some (.inl what)] [] σ) → (∀ (what : Int32) (σ : sv_S), (∃ c : Nat, ∃ d : dD, (CI c d σ ∧ c < 900000) ∧ (∀ v : Int32, ∀ σ2 : sv_S, v = A_carried d what ∧ CI (c + 6) d σ2 ∧ sq xg σ σ2 → Kr (some (.inl v)) σ2)) → Wk 0 [some (.inr (.inr (4, 0))), some (.inl what)] [] σ)) : sv_C l yX4_carried cX4_carried 2 (some .int) sv_all 2 44 sp_X4_carried := by
  refine sv_meth sv_clok_all tb_X4_carried T_X4_carried (by decide) tbk_X4_carried (Tok_X4_carried l) ?_
  intro Wk Kr hc av σ hsp
  have hB := hb Wk Kr (fun what σ h => hc [] 500 0 _ _ _ (bk_X4_carried_0 Wk Kr what σ h))
  unfold sp_X4_carried at hsp
  split at hsp
  · exact ⟨⟨by simp, by simp [sv_cat]⟩, hB _ _ hsp⟩
  · exact hsp.elim
set_option maxHeartbeats 4000000 in
set_option maxRecDepth 100000 in
theorem c_X4_carried (l : Launch) : sv_C l yX4_carried cX4_carried 2 (some .int) sv_all 2 44 sp_X4_carried := by
  refine m_X4_carried l ?_
  intro Wk Kr e0 what σ ⟨c, d, ⟨hC, hc⟩, h⟩
  have h32 := two_pow_le hC.1.1
  have hT := hC.1.1.2.1
  have hpos : 0 < 2 ^ dT d := Nat.two_pow_pos _
  have hLt := fun p (hp : p < dP d) => dL_lt hC.1.1 hC.2.1.1 hp
  apply e0
  refine ⟨d, ⟨hC.1, hC.2.1⟩, fun σ3 ⟨hs, hF⟩ => ?_⟩
  have hR := RP_fr hC.1 hs
  have hfF : ∀ p, p < dP d → fetL (dL d) p < 32 ∧ sv_gA σ3 18 0 p = nI (fetL (dL d) p) := fun p hp => ⟨fetL_lt (hLt p hp), (hF p hp).1⟩
  have hfR : ∀ p, p < dP d → rtnL d (dL d) p < 32 ∧ sv_gA σ3 19 0 p = nI (rtnL d (dL d) p) := fun p hp => ⟨rtnL_lt (fun q hq => hLt q (by omega)), (hF p hp).2⟩
  have fin : ∀ v : Int32, v = A_carried d what → Kr (some (.inl v)) σ3 := fun v hv => h _ _ ⟨hv, CI_fr hC hs, sq_mono hs (by decide)⟩
  refine ⟨fun w0 => ⟨fun w1 => ⟨d, 10, ⟨hR, by omega, rfl⟩, fun wt => ?_, fun wt => ⟨d, 20, ⟨hR, by omega, rfl⟩, fun ww => ?_, fun ww => fin _ ?_⟩⟩, fun w1 => ⟨d, hR, fun v19 h19 => ⟨d, rtnL d (dL d), 2 ^ dT d - 1, ⟨hR, hfR, rfl, by omega, by rw [h19, pw_pred]⟩, fun v h2 => fin _ ?_⟩⟩⟩, fun w0 => ⟨d, hR, fun v19 h19 => ⟨d, fetL (dL d), 2 ^ dT d - 1, ⟨hR, hfF, rfl, by omega, by rw [h19, pw_pred]⟩, fun v h2 => fin _ ?_⟩⟩⟩
  · have g2 := wt
    obtain ⟨t, ht, rfl⟩ := wt
    have h2t := two_lt t (by omega)
    refine ⟨d, fetL (dL d), 2 ^ t, ⟨hR, hfF, rfl, h2t, ?_⟩, fun v h2 => fin _ ?_⟩
    · rw [show (10 : Int32) = nI 10 from rfl, pk_sub (by omega), Nat.add_sub_cancel_left, sh1 (by omega)]
    · unfold A_carried
      rw [ch_f w0, ch_f w1, ch_t g2, xn_nI (by omega), Nat.add_sub_cancel_left]
      exact h2
  · have g2 := ww
    obtain ⟨t, ht, rfl⟩ := ww
    have h2t := two_lt t (by omega)
    refine ⟨d, rtnL d (dL d), 2 ^ t, ⟨hR, hfR, rfl, h2t, ?_⟩, fun v h2 => fin _ ?_⟩
    · rw [show (20 : Int32) = nI 20 from rfl, pk_sub (by omega), Nat.add_sub_cancel_left, sh1 (by omega)]
    · unfold A_carried
      rw [ch_f w0, ch_f w1, ch_f wt, ch_t g2, xn_nI (by omega), Nat.add_sub_cancel_left]
      exact h2
  · unfold A_carried
    rw [ch_f w0, ch_f w1, ch_f wt, ch_f ww]
  · unfold A_carried
    rw [ch_f w0, ch_t w1]
    exact h2
  · unfold A_carried
    rw [ch_t w0]
    exact h2
-- ==== X4_ofTime
def sp_X4_ofTime : sv_P := fun av σ K => match av with
  | [.inr (.inr (4, 0)), .inl p, .inl kind, .inl what] => ∃ c : Nat, ∃ d : dD, (CI c d σ ∧ c < 900000) ∧ (∀ v : Int32, ∀ σ2 : sv_S, v = A_ofTime d p kind what ∧ CI (c + 6) d σ2 ∧ sq xg σ σ2 → K (some (.inl v)) σ2)
  | _ => False
def tb_X4_ofTime : List (Nat × (Instr × Nat)) := [(0, (.aload_n 0, 1)), (1, (.getfield 10, 3)), (4, (.iload_n 1, 1)), (5, (.invokevirtual 57, 3)), (8, (.ifCond .ne 5, 3)), (11, (.iconst (-1), 1)), (12, (.ireturn, 1)), (13, (.iload_n 2, 1)), (14, (.invokestatic 125, 3)), (17, (.ifCond .eq 12, 3)), (20, (.iload_n 3, 1)), (21, (.iconst 0, 1)), (22, (.iconst 2, 1)), (23, (.invokestatic 68, 3)), (26, (.ifCond .ne 6, 3)), (29, (.bipush (-2), 2)), (31, (.ireturn, 1)), (32, (.aload_n 0, 1)), (33, (.getfield 21, 3)), (36, (.invokevirtual 135, 3)), (39, (.iload_n 3, 1)), (40, (.ifCond .ne 13, 3)), (43, (.aload_n 0, 1)), (44, (.getfield 21, 3)), (47, (.iload_n 1, 1)), (48, (.iload_n 2, 1)), (49, (.invokevirtual 182, 3)), (52, (.ireturn, 1)), (53, (.iload_n 3, 1)), (54, (.iconst 1, 1)), (55, (.if_icmp .ne 12, 3)), (58, (.aload_n 0, 1)), (59, (.getfield 21, 3)), (62, (.iload_n 1, 1)), (63, (.invokevirtual 185, 3)), (66, (.ireturn, 1)), (67, (.aload_n 0, 1)), (68, (.getfield 21, 3)), (71, (.iload_n 1, 1)), (72, (.iload_n 2, 1)), (73, (.invokevirtual 188, 3)), (76, (.ireturn, 1))]
set_option maxRecDepth 100000 in
theorem tbk_X4_ofTime : sv_tbok cX4_ofTime tb_X4_ofTime = true := by decide +kernel
def cal_X4_ofTime : List (Nat × (Nat × Nat × sv_P)) := [(57, (2, 2, sp_X2_hasPart)), (125, (1, 90, sp_X4_isKind)), (68, (3, 90, sp_X4_within)), (135, (1, 1, sp_X1_follow)), (182, (3, 1, sp_X1_workOf)), (185, (2, 1, sp_X1_loadOf)), (188, (3, 1, sp_X1_stallOf))]
def T_X4_ofTime : sv_T := (flX4, sfX4, kcX4, klX4, cal_X4_ofTime)
set_option maxRecDepth 100000 in
theorem Tok_X4_ofTime (l : Launch) : sv_Tok l RX4 sv_all 5 109 T_X4_ofTime := ⟨flokX4, sfokX4, kcokX4, klokX4, List.forall_mem_cons.mpr ⟨⟨fun _ => sv_COv_of (c_X2_hasPart l) sv_clok_all (sv_mem 254 (by decide +kernel) rfl) kw_X2_hasPart.1 kw_X2_hasPart.2.1 kw_X2_hasPart.2.2.1 kw_X2_hasPart.2.2.2 kd_X2_hasPart rfl (by decide) (by decide +kernel) rfl (by decide), fun h => absurd h (by decide)⟩, List.forall_mem_cons.mpr ⟨⟨fun h => absurd h (by decide), fun _ => sv_COs_gen (c_X4_isKind l) (Or.inl (sv_mem 336 (by decide +kernel) rfl)) kw_X4_isKind.1 kw_X4_isKind.2.1 kw_X4_isKind.2.2 kd_X4_isKind rfl (by decide) (by decide +kernel)⟩, List.forall_mem_cons.mpr ⟨⟨fun h => absurd h (by decide), fun _ => sv_COs_gen (c_X4_within l) (Or.inl (sv_mem 235 (by decide +kernel) rfl)) kw_X4_within.1 kw_X4_within.2.1 kw_X4_within.2.2 kd_X4_within rfl (by decide) (by decide +kernel)⟩, List.forall_mem_cons.mpr ⟨⟨fun _ => sv_COv_of (c_X1_follow l) sv_clok_all (sv_mem 406 (by decide +kernel) rfl) kw_X1_follow.1 kw_X1_follow.2.1 kw_X1_follow.2.2.1 kw_X1_follow.2.2.2 kd_X1_follow rfl (by decide) (by decide +kernel) rfl (by decide), fun h => absurd h (by decide)⟩, List.forall_mem_cons.mpr ⟨⟨fun _ => sv_COv_of (c_X1_workOf l) sv_clok_all (sv_mem 533 (by decide +kernel) rfl) kw_X1_workOf.1 kw_X1_workOf.2.1 kw_X1_workOf.2.2.1 kw_X1_workOf.2.2.2 kd_X1_workOf rfl (by decide) (by decide +kernel) rfl (by decide), fun h => absurd h (by decide)⟩, List.forall_mem_cons.mpr ⟨⟨fun _ => sv_COv_of (c_X1_loadOf l) sv_clok_all (sv_mem 534 (by decide +kernel) rfl) kw_X1_loadOf.1 kw_X1_loadOf.2.1 kw_X1_loadOf.2.2.1 kw_X1_loadOf.2.2.2 kd_X1_loadOf rfl (by decide) (by decide +kernel) rfl (by decide), fun h => absurd h (by decide)⟩, List.forall_mem_cons.mpr ⟨⟨fun _ => sv_COv_of (c_X1_stallOf l) sv_clok_all (sv_mem 538 (by decide +kernel) rfl) kw_X1_stallOf.1 kw_X1_stallOf.2.1 kw_X1_stallOf.2.2.1 kw_X1_stallOf.2.2.2 kd_X1_stallOf rfl (by decide) (by decide +kernel) rfl (by decide), fun h => absurd h (by decide)⟩, fun _ h => absurd h List.not_mem_nil⟩⟩⟩⟩⟩⟩⟩⟩
theorem kw_X4_ofTime : Cond.instanceMethod yX4_ofTime ∈ sv_tb ∧ Cond.selects yX4_ofTime.cls yX4_ofTime yX4_ofTime ∈ sv_tb ∧ Cond.initialized yX4_ofTime.cls ∈ sv_tb ∧ Cond.code yX4_ofTime cX4_ofTime 4 (some .int) ∈ sv_tb := ⟨sv_mem 530 (by decide +kernel) rfl, sv_mem 531 (by decide +kernel) rfl, sv_mem 51 (by decide +kernel) rfl, sv_mem 532 (by decide +kernel) rfl⟩
theorem kd_X4_ofTime : yX4_ofTime.cls ≠ "java/lang/invoke/MethodHandle" ∧ yX4_ofTime.cls ≠ "java/lang/invoke/VarHandle" ∧ (parseMethodDescriptor yX4_ofTime.desc).map (fun d => d.parameters.length) = some 3 := by decide +kernel
def F_X4_ofTime_0 (Wk : sv_K) (Kr : Option sv_AV → sv_S → Prop) (p : Int32) (kind : Int32) (what : Int32) (σ : sv_S) : Prop := (∃ d1 : dD, (RP d1 σ) ∧ ((isN (dP d1) p → (((kind = 0 ∨ kind = 1 → ((((0 : Int32) ≤ what ∧ what ≤ (2 : Int32) → (∃ d2 : dD, (RP d2 σ ∧ RQ d2 σ) ∧ (∀ σ4 : sv_S, sq [18, 19] σ σ4 ∧ FW d2 σ4 → ((¬ what = (0 : Int32) → ((¬ what = (1 : Int32) → (∃ d5 : dD, ∃ q6 : Nat, ∃ k7 : Nat, (RP d5 σ4 ∧ RQ d5 σ4 ∧ FW d5 σ4 ∧ (q6 < dP d5 ∧ p = nI q6) ∧ (k7 < 2 ∧ kind = nI k7)) ∧ (∀ v8 : Int32, v8 = nI (stallL d5 (dL d5) k7 q6) → Kr (some (.inl v8)) σ4))) ∧ (what = (1 : Int32) → (∃ d9 : dD, ∃ q10 : Nat, (RP d9 σ4 ∧ RQ d9 σ4 ∧ FW d9 σ4 ∧ (q10 < dP d9 ∧ p = nI q10)) ∧ (∀ v11 : Int32, v11 = nI (loadL d9 (dL d9) q10) → Kr (some (.inl v11)) σ4))))) ∧ (what = (0 : Int32) → (∃ d12 : dD, ∃ q13 : Nat, ∃ k14 : Nat, (RP d12 σ4 ∧ RQ d12 σ4 ∧ (q13 < dP d12 ∧ p = nI q13) ∧ (k14 < 2 ∧ kind = nI k14)) ∧ (∀ v15 : Int32, v15 = nI (work d12 q13 k14 (dL d12 q13)) → Kr (some (.inl v15)) σ4))))))) ∧ (¬ ((0 : Int32) ≤ what ∧ what ≤ (2 : Int32)) → Kr (some (.inl (-2 : Int32))) σ)))) ∧ (¬ (kind = 0 ∨ kind = 1) → Kr (some (.inl (-2 : Int32))) σ)))) ∧ (¬ isN (dP d1) p → Kr (some (.inl (-1 : Int32))) σ)))
set_option maxRecDepth 100000 in
theorem bk_X4_ofTime_0 (Wk : sv_K) (Kr : Option sv_AV → sv_S → Prop) (p : Int32) (kind : Int32) (what : Int32) (σ : sv_S) (h : F_X4_ofTime_0 Wk Kr p kind what σ) : sv_vc tb_X4_ofTime T_X4_ofTime sv_all (some .int) Kr [] Wk 500 0 [some (.inr (.inr (4, 0))), some (.inl p), some (.inl kind), some (.inl what)] [] σ := (match h with | ⟨d1, z18p, z18a, z18b⟩ => ⟨d1, z18p, fun z18y => sb_nt (by decide) ((match (z18a z18y) with | ⟨z17a, z17b⟩ => ⟨fun z17y => br_f (by decide) ((match (z17a z17y) with | ⟨z16a, z16b⟩ => ⟨fun z16y => sb_nt (by decide) ((z16a z16y)), fun z16y => sb_nf (by decide) ((z16b z16y))⟩)), fun z17y => br_t (by decide) ((z17b z17y))⟩)), fun z18y => sb_nf (by decide) ((z18b z18y))⟩)
set_option maxRecDepth 100000 in
theorem m_X4_ofTime (l : Launch) (hb : ∀ (Wk : sv_K) (Kr : Option sv_AV → sv_S → Prop), (∀ (p : Int32) (kind : Int32) (what : Int32) (σ : sv_S), F_X4_ofTime_0 Wk Kr p kind what σ → Wk 0 [some (.inr (.inr (4, 0))), some (.inl p), some (.inl kind), some (.inl what)] [] σ) → (∀ (p : Int32) (kind : Int32) (what : Int32) (σ : sv_S), (∃ c : Nat, ∃ d : dD, (CI c d σ ∧ c < 900000) ∧ (∀ v : Int32, ∀ σ2 : sv_S, v = A_ofTime d p kind what ∧ CI (c + 6) d σ2 ∧ sq xg σ σ2 → Kr (some (.inl v)) σ2)) → Wk 0 [some (.inr (.inr (4, 0))), some (.inl p), some (.inl kind), some (.inl what)] [] σ)) : sv_C l yX4_ofTime cX4_ofTime 4 (some .int) sv_all 5 109 sp_X4_ofTime := by
  refine sv_meth sv_clok_all tb_X4_ofTime T_X4_ofTime (by decide) tbk_X4_ofTime (Tok_X4_ofTime l) ?_
  intro Wk Kr hc av σ hsp
  have hB := hb Wk Kr (fun p kind what σ h => hc [] 500 0 _ _ _ (bk_X4_ofTime_0 Wk Kr p kind what σ h))
  unfold sp_X4_ofTime at hsp
  split at hsp
  · exact ⟨⟨by simp, by simp [sv_cat]⟩, hB _ _ _ _ hsp⟩
  · exact hsp.elim
set_option maxHeartbeats 4000000 in
set_option maxRecDepth 100000 in
theorem c_X4_ofTime (l : Launch) : sv_C l yX4_ofTime cX4_ofTime 4 (some .int) sv_all 5 109 sp_X4_ofTime := by
  refine m_X4_ofTime l ?_
  intro Wk Kr e0 p kind what σ ⟨c, d, ⟨hC, hc⟩, h⟩
  have hP := hC.1.1.1
  apply e0
  refine ⟨d, hC.1, fun hp => ⟨fun ho => ⟨fun hx => ⟨d, ⟨hC.1, hC.2.1⟩, fun σ4 ⟨hs, hF⟩ => ?_⟩, fun hx => h _ _ ⟨?_, CI_mono hC, sq_rf _ _⟩⟩, fun ho => h _ _ ⟨?_, CI_mono hC, sq_rf _ _⟩⟩, fun hp => h _ _ ⟨(ch_f hp _ _).symm, CI_mono hC, sq_rf _ _⟩⟩
  · have g1 := hp
    have g2 : ok2 kind := ho
    obtain ⟨q, hq, rfl⟩ := hp
    obtain ⟨k, hk, rfl, -⟩ := ok2_of ho
    have fin : ∀ v : Int32, v = A_ofTime d (nI q) (nI k) what → Kr (some (.inl v)) σ4 := fun v hv => h _ _ ⟨hv, CI_fr hC hs, sq_mono hs (by decide)⟩
    refine ⟨fun w0 => ⟨fun w1 => ⟨d, q, k, ⟨RP_fr hC.1 hs, RQ_fr hC.2.1 hs, hF, ⟨hq, rfl⟩, hk, rfl⟩, fun v h2 => fin _ ?_⟩, fun w1 => ⟨d, q, ⟨RP_fr hC.1 hs, RQ_fr hC.2.1 hs, hF, hq, rfl⟩, fun v h2 => fin _ ?_⟩⟩, fun w0 => ⟨d, q, k, ⟨RP_fr hC.1 hs, RQ_fr hC.2.1 hs, ⟨hq, rfl⟩, hk, rfl⟩, fun v h2 => fin _ ?_⟩⟩
    · unfold A_ofTime
      rw [ch_t g1, ch_t ⟨g2, hx⟩, ch_f w0, ch_f w1, xn_nI (by omega), xn_nI (by omega)]
      exact h2
    · unfold A_ofTime
      rw [ch_t g1, ch_t ⟨g2, hx⟩, ch_f w0, ch_t w1, xn_nI (by omega)]
      exact h2
    · unfold A_ofTime
      rw [ch_t g1, ch_t ⟨g2, hx⟩, ch_t w0, xn_nI (by omega), xn_nI (by omega)]
      exact h2
  · unfold A_ofTime
    rw [ch_t hp, ch_f (fun y => hx y.2)]
  · unfold A_ofTime
    rw [ch_t hp, ch_f (fun y => ho y.1)]
-- ==== X4_time
def sp_X4_time : sv_P := fun av σ K => match av with
  | [.inr (.inr (4, 0)), .inl kind] => ∃ c : Nat, ∃ d : dD, (CI c d σ ∧ c < 900000) ∧ (∀ v : Int32, ∀ σ2 : sv_S, v = A_time d kind ∧ CI (c + 6) d σ2 ∧ sq xg σ σ2 → K (some (.inl v)) σ2)
  | _ => False
def tb_X4_time : List (Nat × (Instr × Nat)) := [(0, (.iload_n 1, 1)), (1, (.invokestatic 125, 3)), (4, (.ifCond .ne 6, 3)), (7, (.bipush (-2), 2)), (9, (.ireturn, 1)), (10, (.aload_n 0, 1)), (11, (.getfield 21, 3)), (14, (.invokevirtual 135, 3)), (17, (.aload_n 0, 1)), (18, (.getfield 21, 3)), (21, (.iload_n 1, 1)), (22, (.invokevirtual 191, 3)), (25, (.ireturn, 1))]
set_option maxRecDepth 100000 in
theorem tbk_X4_time : sv_tbok cX4_time tb_X4_time = true := by decide +kernel
def cal_X4_time : List (Nat × (Nat × Nat × sv_P)) := [(125, (1, 90, sp_X4_isKind)), (135, (1, 1, sp_X1_follow)), (191, (2, 1, sp_X1_timeBy))]
def T_X4_time : sv_T := (flX4, sfX4, kcX4, klX4, cal_X4_time)
set_option maxRecDepth 100000 in
theorem Tok_X4_time (l : Launch) : sv_Tok l RX4 sv_all 6 132 T_X4_time := ⟨flokX4, sfokX4, kcokX4, klokX4, List.forall_mem_cons.mpr ⟨⟨fun h => absurd h (by decide), fun _ => sv_COs_gen (c_X4_isKind l) (Or.inl (sv_mem 336 (by decide +kernel) rfl)) kw_X4_isKind.1 kw_X4_isKind.2.1 kw_X4_isKind.2.2 kd_X4_isKind rfl (by decide) (by decide +kernel)⟩, List.forall_mem_cons.mpr ⟨⟨fun _ => sv_COv_of (c_X1_follow l) sv_clok_all (sv_mem 406 (by decide +kernel) rfl) kw_X1_follow.1 kw_X1_follow.2.1 kw_X1_follow.2.2.1 kw_X1_follow.2.2.2 kd_X1_follow rfl (by decide) (by decide +kernel) rfl (by decide), fun h => absurd h (by decide)⟩, List.forall_mem_cons.mpr ⟨⟨fun _ => sv_COv_of (c_X1_timeBy l) sv_clok_all (sv_mem 548 (by decide +kernel) rfl) kw_X1_timeBy.1 kw_X1_timeBy.2.1 kw_X1_timeBy.2.2.1 kw_X1_timeBy.2.2.2 kd_X1_timeBy rfl (by decide) (by decide +kernel) rfl (by decide), fun h => absurd h (by decide)⟩, fun _ h => absurd h List.not_mem_nil⟩⟩⟩⟩
theorem kw_X4_time : Cond.instanceMethod yX4_time ∈ sv_tb ∧ Cond.selects yX4_time.cls yX4_time yX4_time ∈ sv_tb ∧ Cond.initialized yX4_time.cls ∈ sv_tb ∧ Cond.code yX4_time cX4_time 2 (some .int) ∈ sv_tb := ⟨sv_mem 545 (by decide +kernel) rfl, sv_mem 546 (by decide +kernel) rfl, sv_mem 51 (by decide +kernel) rfl, sv_mem 547 (by decide +kernel) rfl⟩
theorem kd_X4_time : yX4_time.cls ≠ "java/lang/invoke/MethodHandle" ∧ yX4_time.cls ≠ "java/lang/invoke/VarHandle" ∧ (parseMethodDescriptor yX4_time.desc).map (fun d => d.parameters.length) = some 1 := by decide +kernel
def F_X4_time_0 (Wk : sv_K) (Kr : Option sv_AV → sv_S → Prop) (kind : Int32) (σ : sv_S) : Prop := (((kind = 0 ∨ kind = 1 → (∃ d1 : dD, (RP d1 σ ∧ RQ d1 σ) ∧ (∀ σ3 : sv_S, sq [18, 19] σ σ3 ∧ FW d1 σ3 → (∃ d4 : dD, ∃ k5 : Nat, (RP d4 σ3 ∧ RQ d4 σ3 ∧ FW d4 σ3 ∧ (k5 < 2 ∧ kind = nI k5)) ∧ (∀ v6 : Int32, v6 = nI (timeL d4 (dL d4) k5) → Kr (some (.inl v6)) σ3))))) ∧ (¬ (kind = 0 ∨ kind = 1) → Kr (some (.inl (-2 : Int32))) σ)))
set_option maxRecDepth 100000 in
theorem bk_X4_time_0 (Wk : sv_K) (Kr : Option sv_AV → sv_S → Prop) (kind : Int32) (σ : sv_S) (h : F_X4_time_0 Wk Kr kind σ) : sv_vc tb_X4_time T_X4_time sv_all (some .int) Kr [] Wk 500 0 [some (.inr (.inr (4, 0))), some (.inl kind)] [] σ := (match h with | ⟨z7a, z7b⟩ => ⟨fun z7y => sb_nt (by decide) ((z7a z7y)), fun z7y => sb_nf (by decide) ((z7b z7y))⟩)
set_option maxRecDepth 100000 in
theorem m_X4_time (l : Launch) (hb : ∀ (Wk : sv_K) (Kr : Option sv_AV → sv_S → Prop), (∀ (kind : Int32) (σ : sv_S), F_X4_time_0 Wk Kr kind σ → Wk 0 [some (.inr (.inr (4, 0))), some (.inl kind)] [] σ) → (∀ (kind : Int32) (σ : sv_S), (∃ c : Nat, ∃ d : dD, (CI c d σ ∧ c < 900000) ∧ (∀ v : Int32, ∀ σ2 : sv_S, v = A_time d kind ∧ CI (c + 6) d σ2 ∧ sq xg σ σ2 → Kr (some (.inl v)) σ2)) → Wk 0 [some (.inr (.inr (4, 0))), some (.inl kind)] [] σ)) : sv_C l yX4_time cX4_time 2 (some .int) sv_all 6 132 sp_X4_time := by
  refine sv_meth sv_clok_all tb_X4_time T_X4_time (by decide) tbk_X4_time (Tok_X4_time l) ?_
  intro Wk Kr hc av σ hsp
  have hB := hb Wk Kr (fun kind σ h => hc [] 500 0 _ _ _ (bk_X4_time_0 Wk Kr kind σ h))
  unfold sp_X4_time at hsp
  split at hsp
  · exact ⟨⟨by simp, by simp [sv_cat]⟩, hB _ _ hsp⟩
  · exact hsp.elim
set_option maxHeartbeats 4000000 in
set_option maxRecDepth 100000 in
theorem c_X4_time (l : Launch) : sv_C l yX4_time cX4_time 2 (some .int) sv_all 6 132 sp_X4_time := by
  refine m_X4_time l ?_
  intro Wk Kr e0 kind σ ⟨c, d, ⟨hC, hc⟩, h⟩
  apply e0
  refine ⟨fun ho => ⟨d, ⟨hC.1, hC.2.1⟩, fun σ3 ⟨hs, hF⟩ => ?_⟩, fun ho => h _ _ ⟨(ch_f ho _ _).symm, CI_mono hC, sq_rf _ _⟩⟩
  have g1 : ok2 kind := ho
  obtain ⟨k, hk, rfl, -⟩ := ok2_of ho
  refine ⟨d, k, ⟨RP_fr hC.1 hs, RQ_fr hC.2.1 hs, hF, hk, rfl⟩, fun v6 h6 => h _ _ ⟨?_, CI_fr hC hs, sq_mono hs (by decide)⟩⟩
  unfold A_time
  rw [ch_t g1, xn_nI (by omega)]
  exact h6
-- ==== X4_many
def sp_X4_many : sv_P := fun av σ K => match av with
  | [.inr (.inr (4, 0)), .inl what] => ∃ c : Nat, ∃ d : dD, (CI c d σ ∧ c < 900000) ∧ (∀ v : Int32, ∀ σ2 : sv_S, v = A_many d what ∧ CI (c + 6) d σ2 ∧ sq xg σ σ2 → K (some (.inl v)) σ2)
  | _ => False
def tb_X4_many : List (Nat × (Instr × Nat)) := [(0, (.iload_n 1, 1)), (1, (.ifCond .ne 11, 3)), (4, (.aload_n 0, 1)), (5, (.getfield 10, 3)), (8, (.getfield 45, 3)), (11, (.ireturn, 1)), (12, (.iload_n 1, 1)), (13, (.iconst 1, 1)), (14, (.if_icmp .ne 11, 3)), (17, (.aload_n 0, 1)), (18, (.getfield 10, 3)), (21, (.getfield 72, 3)), (24, (.ireturn, 1)), (25, (.iload_n 1, 1)), (26, (.iconst 2, 1)), (27, (.if_icmp .ne 8, 3)), (30, (.aload_n 0, 1)), (31, (.invokevirtual 194, 3)), (34, (.ireturn, 1)), (35, (.iload_n 1, 1)), (36, (.iconst 3, 1)), (37, (.if_icmp .ne 11, 3)), (40, (.aload_n 0, 1)), (41, (.getfield 10, 3)), (44, (.invokevirtual 176, 3)), (47, (.ireturn, 1)), (48, (.bipush (-2), 2)), (50, (.ireturn, 1))]
set_option maxRecDepth 100000 in
theorem tbk_X4_many : sv_tbok cX4_many tb_X4_many = true := by decide +kernel
def cal_X4_many : List (Nat × (Nat × Nat × sv_P)) := [(194, (1, 4, sp_X4_countStays)), (176, (1, 2, sp_X2_countOrders))]
def T_X4_many : sv_T := (flX4, sfX4, kcX4, klX4, cal_X4_many)
set_option maxRecDepth 100000 in
theorem Tok_X4_many (l : Launch) : sv_Tok l RX4 sv_all 3 64 T_X4_many := ⟨flokX4, sfokX4, kcokX4, klokX4, List.forall_mem_cons.mpr ⟨⟨fun _ => sv_COv_of (c_X4_countStays l) sv_clok_all (sv_mem 557 (by decide +kernel) rfl) kw_X4_countStays.1 kw_X4_countStays.2.1 kw_X4_countStays.2.2.1 kw_X4_countStays.2.2.2 kd_X4_countStays rfl (by decide) (by decide +kernel) rfl (by decide), fun h => absurd h (by decide)⟩, List.forall_mem_cons.mpr ⟨⟨fun _ => sv_COv_of (c_X2_countOrders l) sv_clok_all (sv_mem 482 (by decide +kernel) rfl) kw_X2_countOrders.1 kw_X2_countOrders.2.1 kw_X2_countOrders.2.2.1 kw_X2_countOrders.2.2.2 kd_X2_countOrders rfl (by decide) (by decide +kernel) rfl (by decide), fun h => absurd h (by decide)⟩, fun _ h => absurd h List.not_mem_nil⟩⟩⟩
theorem kw_X4_many : Cond.instanceMethod yX4_many ∈ sv_tb ∧ Cond.selects yX4_many.cls yX4_many yX4_many ∈ sv_tb ∧ Cond.initialized yX4_many.cls ∈ sv_tb ∧ Cond.code yX4_many cX4_many 2 (some .int) ∈ sv_tb := ⟨sv_mem 554 (by decide +kernel) rfl, sv_mem 555 (by decide +kernel) rfl, sv_mem 51 (by decide +kernel) rfl, sv_mem 556 (by decide +kernel) rfl⟩
theorem kd_X4_many : yX4_many.cls ≠ "java/lang/invoke/MethodHandle" ∧ yX4_many.cls ≠ "java/lang/invoke/VarHandle" ∧ (parseMethodDescriptor yX4_many.desc).map (fun d => d.parameters.length) = some 1 := by decide +kernel
def F_X4_many_0 (Wk : sv_K) (Kr : Option sv_AV → sv_S → Prop) (what : Int32) (σ : sv_S) : Prop := ((¬ what = (0 : Int32) → ((¬ what = (1 : Int32) → ((¬ what = (2 : Int32) → ((¬ what = (3 : Int32) → Kr (some (.inl (-2 : Int32))) σ) ∧ (what = (3 : Int32) → (∃ d1 : dD, (RP d1 σ) ∧ (∀ v2 : Int32, v2 = nI (fct (dT d1)) → Kr (some (.inl v2)) σ))))) ∧ (what = (2 : Int32) → (∃ c3 : Nat, ∃ d4 : dD, (CI c3 d4 σ ∧ c3 < 900000) ∧ (∀ v5 : Int32, ∀ σ6 : sv_S, v5 = nI (cntF d4 (2 ^ dT d4 - 1)) ∧ CI (c3 + 6) d4 σ6 ∧ sq xg σ σ6 → Kr (some (.inl v5)) σ6))))) ∧ (what = (1 : Int32) → Kr (some (.inl (sv_gA σ 2 0 1))) σ))) ∧ (what = (0 : Int32) → Kr (some (.inl (sv_gA σ 2 0 0))) σ))
set_option maxRecDepth 100000 in
theorem bk_X4_many_0 (Wk : sv_K) (Kr : Option sv_AV → sv_S → Prop) (what : Int32) (σ : sv_S) (h : F_X4_many_0 Wk Kr what σ) : sv_vc tb_X4_many T_X4_many sv_all (some .int) Kr [] Wk 500 0 [some (.inr (.inr (4, 0))), some (.inl what)] [] σ := h
set_option maxRecDepth 100000 in
theorem m_X4_many (l : Launch) (hb : ∀ (Wk : sv_K) (Kr : Option sv_AV → sv_S → Prop), (∀ (what : Int32) (σ : sv_S), F_X4_many_0 Wk Kr what σ → Wk 0 [some (.inr (.inr (4, 0))), some (.inl what)] [] σ) → (∀ (what : Int32) (σ : sv_S), (∃ c : Nat, ∃ d : dD, (CI c d σ ∧ c < 900000) ∧ (∀ v : Int32, ∀ σ2 : sv_S, v = A_many d what ∧ CI (c + 6) d σ2 ∧ sq xg σ σ2 → Kr (some (.inl v)) σ2)) → Wk 0 [some (.inr (.inr (4, 0))), some (.inl what)] [] σ)) : sv_C l yX4_many cX4_many 2 (some .int) sv_all 3 64 sp_X4_many := by
  refine sv_meth sv_clok_all tb_X4_many T_X4_many (by decide) tbk_X4_many (Tok_X4_many l) ?_
  intro Wk Kr hc av σ hsp
  have hB := hb Wk Kr (fun what σ h => hc [] 500 0 _ _ _ (bk_X4_many_0 Wk Kr what σ h))
  unfold sp_X4_many at hsp
  split at hsp
  · exact ⟨⟨by simp, by simp [sv_cat]⟩, hB _ _ hsp⟩
  · exact hsp.elim
set_option maxHeartbeats 4000000 in
set_option maxRecDepth 100000 in
theorem c_X4_many (l : Launch) : sv_C l yX4_many cX4_many 2 (some .int) sv_all 3 64 sp_X4_many := by
  refine m_X4_many l ?_
  intro Wk Kr e0 what σ ⟨c, d, ⟨hC, hc⟩, h⟩
  apply e0
  have fin : ∀ v : Int32, v = A_many d what → Kr (some (.inl v)) σ := fun v hv => h _ _ ⟨hv, CI_mono hC, sq_rf _ _⟩
  refine ⟨fun w0 => ⟨fun w1 => ⟨fun w2 => ⟨fun w3 => fin _ ?_, fun w3 => ⟨d, hC.1, fun v h2 => fin _ ?_⟩⟩, fun w2 => ⟨c, d, ⟨hC, hc⟩, fun v σ6 ⟨h2, hC6, hs6⟩ => h _ _ ⟨?_, hC6, hs6⟩⟩⟩, fun w1 => fin _ ?_⟩, fun w0 => fin _ ?_⟩
  · unfold A_many
    rw [ch_f w0, ch_f w1, ch_f w2, ch_f w3]
  · unfold A_many
    rw [ch_f w0, ch_f w1, ch_f w2, ch_t w3]
    exact h2
  · unfold A_many
    rw [ch_f w0, ch_f w1, ch_t w2]
    exact h2
  · unfold A_many
    rw [ch_f w0, ch_t w1]
    exact hC.1.2.2.1
  · unfold A_many
    rw [ch_t w0]
    exact hC.1.2.1
-- ==== X4_take
def sp_X4_take : sv_P := fun av σ K => match av with
  | [.inr (.inr (4, 0)), .inl how, .inl kind] => ∃ c : Nat, ∃ d : dD, (CI c d σ ∧ c < 900000) ∧ (∀ v : Int32, ∀ σ2 : sv_S, v = A_take d how kind ∧ CI (c + 6) (U_take d how kind) σ2 ∧ sq xg σ σ2 → K (some (.inl v)) σ2)
  | _ => False
def tb_X4_take : List (Nat × (Instr × Nat)) := [(0, (.iload_n 1, 1)), (1, (.invokestatic 122, 3)), (4, (.ifCond .eq 10, 3)), (7, (.iload_n 2, 1)), (8, (.invokestatic 125, 3)), (11, (.ifCond .ne 6, 3)), (14, (.bipush (-2), 2)), (16, (.ireturn, 1)), (17, (.aload_n 0, 1)), (18, (.getfield 10, 3)), (21, (.getfield 45, 3)), (24, (.ifCond .ne 6, 3)), (27, (.bipush (-3), 2)), (29, (.ireturn, 1)), (30, (.aload_n 0, 1)), (31, (.getfield 10, 3)), (34, (.getfield 99, 3)), (37, (.iconst 0, 1)), (38, (.iaload, 1)), (39, (.istore_n 3, 1)), (40, (.iload_n 1, 1)), (41, (.iconst 1, 1)), (42, (.if_icmp .ne 15, 3)), (45, (.aload_n 0, 1)), (46, (.getfield 28, 3)), (49, (.iload_n 2, 1)), (50, (.iload_n 3, 1)), (51, (.invokevirtual 128, 3)), (54, (.goto 4, 3)), (57, (.iconst 0, 1)), (58, (.istore 4, 2)), (60, (.iconst 0, 1)), (61, (.istore 5, 2)), (63, (.iload 5, 2)), (65, (.aload_n 0, 1)), (66, (.getfield 10, 3)), (69, (.getfield 45, 3)), (72, (.if_icmp .ge 40, 3)), (75, (.aload_n 0, 1)), (76, (.getfield 21, 3)), (79, (.getfield 53, 3)), (82, (.iload 5, 2)), (84, (.iload_n 1, 1)), (85, (.iconst 1, 1)), (86, (.if_icmp .ne 8, 3)), (89, (.iload 4, 2)), (91, (.goto 14, 3)), (94, (.aload_n 0, 1)), (95, (.getfield 28, 3)), (98, (.iload 5, 2)), (100, (.iload_n 2, 1)), (101, (.iload_n 3, 1)), (102, (.invokevirtual 131, 3)), (105, (.iastore, 1)), (106, (.iinc 5 1, 3)), (109, (.goto (-46), 3)), (112, (.aload_n 0, 1)), (113, (.getfield 21, 3)), (116, (.invokevirtual 135, 3)), (119, (.aload_n 0, 1)), (120, (.getfield 21, 3)), (123, (.iload_n 2, 1)), (124, (.invokevirtual 138, 3)), (127, (.ireturn, 1))]
set_option maxRecDepth 100000 in
theorem tbk_X4_take : sv_tbok cX4_take tb_X4_take = true := by decide +kernel
def cal_X4_take : List (Nat × (Nat × Nat × sv_P)) := [(122, (1, 90, sp_X4_isHow)), (125, (1, 90, sp_X4_isKind)), (128, (3, 0, sp_X0_stillSet)), (131, (4, 0, sp_X0_bestSetOf)), (135, (1, 1, sp_X1_follow)), (138, (2, 1, sp_X1_costBy))]
def T_X4_take : sv_T := (flX4, sfX4, kcX4, klX4, cal_X4_take)
set_option maxRecDepth 100000 in
theorem Tok_X4_take (l : Launch) : sv_Tok l RX4 sv_all 6 152 T_X4_take := ⟨flokX4, sfokX4, kcokX4, klokX4, List.forall_mem_cons.mpr ⟨⟨fun h => absurd h (by decide), fun _ => sv_COs_gen (c_X4_isHow l) (Or.inl (sv_mem 333 (by decide +kernel) rfl)) kw_X4_isHow.1 kw_X4_isHow.2.1 kw_X4_isHow.2.2 kd_X4_isHow rfl (by decide) (by decide +kernel)⟩, List.forall_mem_cons.mpr ⟨⟨fun h => absurd h (by decide), fun _ => sv_COs_gen (c_X4_isKind l) (Or.inl (sv_mem 336 (by decide +kernel) rfl)) kw_X4_isKind.1 kw_X4_isKind.2.1 kw_X4_isKind.2.2 kd_X4_isKind rfl (by decide) (by decide +kernel)⟩, List.forall_mem_cons.mpr ⟨⟨fun _ => sv_COv_of (c_X0_stillSet l) sv_clok_all (sv_mem 339 (by decide +kernel) rfl) kw_X0_stillSet.1 kw_X0_stillSet.2.1 kw_X0_stillSet.2.2.1 kw_X0_stillSet.2.2.2 kd_X0_stillSet rfl (by decide) (by decide +kernel) rfl (by decide), fun h => absurd h (by decide)⟩, List.forall_mem_cons.mpr ⟨⟨fun _ => sv_COv_of (c_X0_bestSetOf l) sv_clok_all (sv_mem 363 (by decide +kernel) rfl) kw_X0_bestSetOf.1 kw_X0_bestSetOf.2.1 kw_X0_bestSetOf.2.2.1 kw_X0_bestSetOf.2.2.2 kd_X0_bestSetOf rfl (by decide) (by decide +kernel) rfl (by decide), fun h => absurd h (by decide)⟩, List.forall_mem_cons.mpr ⟨⟨fun _ => sv_COv_of (c_X1_follow l) sv_clok_all (sv_mem 406 (by decide +kernel) rfl) kw_X1_follow.1 kw_X1_follow.2.1 kw_X1_follow.2.2.1 kw_X1_follow.2.2.2 kd_X1_follow rfl (by decide) (by decide +kernel) rfl (by decide), fun h => absurd h (by decide)⟩, List.forall_mem_cons.mpr ⟨⟨fun _ => sv_COv_of (c_X1_costBy l) sv_clok_all (sv_mem 410 (by decide +kernel) rfl) kw_X1_costBy.1 kw_X1_costBy.2.1 kw_X1_costBy.2.2.1 kw_X1_costBy.2.2.2 kd_X1_costBy rfl (by decide) (by decide +kernel) rfl (by decide), fun h => absurd h (by decide)⟩, fun _ h => absurd h List.not_mem_nil⟩⟩⟩⟩⟩⟩⟩
theorem kw_X4_take : Cond.instanceMethod yX4_take ∈ sv_tb ∧ Cond.selects yX4_take.cls yX4_take yX4_take ∈ sv_tb ∧ Cond.initialized yX4_take.cls ∈ sv_tb ∧ Cond.code yX4_take cX4_take 6 (some .int) ∈ sv_tb := ⟨sv_mem 330 (by decide +kernel) rfl, sv_mem 331 (by decide +kernel) rfl, sv_mem 51 (by decide +kernel) rfl, sv_mem 332 (by decide +kernel) rfl⟩
theorem kd_X4_take : yX4_take.cls ≠ "java/lang/invoke/MethodHandle" ∧ yX4_take.cls ≠ "java/lang/invoke/VarHandle" ∧ (parseMethodDescriptor yX4_take.desc).map (fun d => d.parameters.length) = some 2 := by decide +kernel
def F_X4_take_0 (Wk : sv_K) (Kr : Option sv_AV → sv_S → Prop) (how : Int32) (kind : Int32) (σ : sv_S) : Prop := (((how = 0 ∨ how = 1 → (((kind = 0 ∨ kind = 1 → ((¬ (sv_gA σ 2 0 0) = (0 : Int32) → ((¬ how = (1 : Int32) → Wk 63 [some (.inr (.inr (4, 0))), some (.inl how), some (.inl kind), some (.inl (sv_gA σ 20 0 0)), some (.inl (0 : Int32)), some (.inl (0 : Int32))] [] σ) ∧ (how = (1 : Int32) → (∃ d1 : dD, ∃ k2 : Nat, ∃ r3 : Nat, (RP d1 σ ∧ (k2 < 2 ∧ kind = nI k2) ∧ (r3 ≤ 60 ∧ (sv_gA σ 20 0 0) = nI r3)) ∧ (∀ v4 : Int32, v4 = nI (stlS d1 k2 r3) → Wk 63 [some (.inr (.inr (4, 0))), some (.inl how), some (.inl kind), some (.inl (sv_gA σ 20 0 0)), some (.inl v4), some (.inl (0 : Int32))] [] σ))))) ∧ ((sv_gA σ 2 0 0) = (0 : Int32) → Kr (some (.inl (-3 : Int32))) σ))) ∧ (¬ (kind = 0 ∨ kind = 1) → Kr (some (.inl (-2 : Int32))) σ)))) ∧ (¬ (how = 0 ∨ how = 1) → Kr (some (.inl (-2 : Int32))) σ)))
set_option maxRecDepth 100000 in
theorem bk_X4_take_0 (Wk : sv_K) (Kr : Option sv_AV → sv_S → Prop) (how : Int32) (kind : Int32) (σ : sv_S) (h : F_X4_take_0 Wk Kr how kind σ) : sv_vc tb_X4_take T_X4_take sv_all (some .int) Kr [(63, [true, true, true, true, true, true])] Wk 500 0 [some (.inr (.inr (4, 0))), some (.inl how), some (.inl kind), none, none, none] [] σ := (match h with | ⟨z7a, z7b⟩ => ⟨fun z7y => br_f (by decide) ((match (z7a z7y) with | ⟨z6a, z6b⟩ => ⟨fun z6y => sb_nt (by decide) (⟨fun z5 => ⟨sb_vin (by decide), (((z6a z6y)).1 z5)⟩, fun z5 => (((z6a z6y)).2 z5)⟩), fun z6y => sb_nf (by decide) ((z6b z6y))⟩)), fun z7y => br_t (by decide) ((z7b z7y))⟩)
def F_X4_take_63 (Wk : sv_K) (Kr : Option sv_AV → sv_S → Prop) (x1 : Int32) (x2 : Int32) (x3 : Int32) (x4 : Int32) (x5 : Int32) (σ : sv_S) : Prop := (((sv_gA σ 2 0 0) ≤ x5 → (∃ d1 : dD, (RP d1 σ ∧ RQ d1 σ) ∧ (∀ σ3 : sv_S, sq [18, 19] σ σ3 ∧ FW d1 σ3 → (∃ d4 : dD, ∃ k5 : Nat, (RP d4 σ3 ∧ RQ d4 σ3 ∧ FW d4 σ3 ∧ (k5 < 2 ∧ x2 = nI k5)) ∧ (∀ v6 : Int32, v6 = nI (costL d4 (dL d4) k5) → Kr (some (.inl v6)) σ3))))) ∧ (¬ (sv_gA σ 2 0 0) ≤ x5 → ((¬ x1 = (1 : Int32) → (∃ d7 : dD, ∃ c8 : Nat, ∃ q9 : Nat, ∃ k10 : Nat, ∃ r11 : Nat, ((RP d7 σ ∧ FI c8 d7 σ ∧ c8 < 1000000) ∧ (q9 < dP d7 ∧ x5 = nI q9) ∧ (k10 < 2 ∧ x2 = nI k10) ∧ (r11 ≤ 60 ∧ x3 = nI r11)) ∧ (∀ v12 : Int32, ∀ σ13 : sv_S, v12 = nI (bsp d7 k10 r11 q9) ∧ sq fgl σ σ13 ∧ FK c8 d7 σ13 → (vp_in x5 10 ∧ Wk 63 [some (.inr (.inr (4, 0))), some (.inl x1), some (.inl x2), some (.inl x3), some (.inl x4), some (.inl (x5 + (1 : Int32)))] [] (sv_sA σ13 17 0 x5.toNatClampNeg v12))))) ∧ (x1 = (1 : Int32) → (vp_in x5 10 ∧ Wk 63 [some (.inr (.inr (4, 0))), some (.inl x1), some (.inl x2), some (.inl x3), some (.inl x4), some (.inl (x5 + (1 : Int32)))] [] (sv_sA σ 17 0 x5.toNatClampNeg x4))))))
set_option maxRecDepth 100000 in
theorem bk_X4_take_63 (Wk : sv_K) (Kr : Option sv_AV → sv_S → Prop) (x1 : Int32) (x2 : Int32) (x3 : Int32) (x4 : Int32) (x5 : Int32) (σ : sv_S) (h : F_X4_take_63 Wk Kr x1 x2 x3 x4 x5 σ) : sv_vc tb_X4_take T_X4_take sv_all (some .int) Kr [(63, [true, true, true, true, true, true])] Wk 500 63 [some (.inr (.inr (4, 0))), some (.inl x1), some (.inl x2), some (.inl x3), some (.inl x4), some (.inl x5)] [] σ := h
set_option maxRecDepth 100000 in
theorem m_X4_take (l : Launch) (hb : ∀ (Wk : sv_K) (Kr : Option sv_AV → sv_S → Prop), (∀ (how : Int32) (kind : Int32) (σ : sv_S), F_X4_take_0 Wk Kr how kind σ → Wk 0 [some (.inr (.inr (4, 0))), some (.inl how), some (.inl kind), none, none, none] [] σ) → (∀ (x1 : Int32) (x2 : Int32) (x3 : Int32) (x4 : Int32) (x5 : Int32) (σ : sv_S), F_X4_take_63 Wk Kr x1 x2 x3 x4 x5 σ → Wk 63 [some (.inr (.inr (4, 0))), some (.inl x1), some (.inl x2), some (.inl x3), some (.inl x4), some (.inl x5)] [] σ) → (∀ (how : Int32) (kind : Int32) (σ : sv_S), (∃ c : Nat, ∃ d : dD, (CI c d σ ∧ c < 900000) ∧ (∀ v : Int32, ∀ σ2 : sv_S, v = A_take d how kind ∧ CI (c + 6) (U_take d how kind) σ2 ∧ sq xg σ σ2 → Kr (some (.inl v)) σ2)) → Wk 0 [some (.inr (.inr (4, 0))), some (.inl how), some (.inl kind), none, none, none] [] σ)) : sv_C l yX4_take cX4_take 6 (some .int) sv_all 6 152 sp_X4_take := by
  refine sv_meth sv_clok_all tb_X4_take T_X4_take (by decide) tbk_X4_take (Tok_X4_take l) ?_
  intro Wk Kr hc av σ hsp
  have hB := hb Wk Kr (fun how kind σ h => hc [(63, [true, true, true, true, true, true])] 500 0 _ _ _ (bk_X4_take_0 Wk Kr how kind σ h)) (fun x1 x2 x3 x4 x5 σ h => hc [(63, [true, true, true, true, true, true])] 500 63 _ _ _ (bk_X4_take_63 Wk Kr x1 x2 x3 x4 x5 σ h))
  unfold sp_X4_take at hsp
  split at hsp
  · exact ⟨⟨by simp, by simp [sv_cat]⟩, hB _ _ _ hsp⟩
  · exact hsp.elim
theorem dtyL_take (d : dD) (L M : Nat → Nat) : ∀ p, dtyL (d_take d L) M p = dtyL d M p
  | 0 => rfl
  | p + 1 => by
    show (dtyL (d_take d L) M p ||| wset (d_take d L) p) &&& M p = _
    rw [dtyL_take d L M p]
    rfl
theorem costL_take (d : dD) (L M : Nat → Nat) (k : Nat) : costL (d_take d L) M k = costL d M k := by
  unfold costL
  refine sm_cong _ (fun p _ => ?_)
  unfold rtnL
  rw [dtyL_take]
  rfl
set_option maxHeartbeats 4000000 in
set_option maxRecDepth 100000 in
theorem c_X4_take (l : Launch) : sv_C l yX4_take cX4_take 6 (some .int) sv_all 6 152 sp_X4_take := by
  refine m_X4_take l ?_
  intro Wk Kr e0 e63 how kind σ ⟨c, d, ⟨hC, hc⟩, h⟩
  have hP := hC.1.1.1
  have h32 := two_pow_le hC.1.1
  have hroom := hC.1.1.2.2.2.2.2.2.1
  have bad : ¬ (ok2 how ∧ ok2 kind) → Kr (some (.inl (-2 : Int32))) σ := fun hb => h _ _ ⟨(ch_f hb _ _).symm, by unfold U_take; rw [ch_f (fun y => hb y.1)]; exact CI_mono hC, sq_rf _ _⟩
  have key : ∀ (x4 : Int32) (L : Nat → Nat) (k : Nat), k < 2 → (ok2 how ∧ ok2 (nI k)) → dP d ≠ 0 → tkL d how (nI k) = L → (how = 1 → ∀ p, nI (L p) = x4) → (¬ how = 1 → ∀ p, L p = bsp d k (dS d 0) p) → (∀ p, p < dP d → L p < 2 ^ dT d) → kind = nI k → ∀ m n σ', n + m = dP d → sq (17 :: fgl) σ σ' → RP d σ' → FI c d σ' → (∀ p, p < n → sv_gA σ' 17 0 p = nI (L p)) → Wk 63 [some (.inr (.inr (4, 0))), some (.inl how), some (.inl (nI k)), some (.inl (nI (dS d 0))), some (.inl x4), some (.inl (nI n))] [] σ' := by
    intro x4 L k hk hok hp0 hL hst hbe hLt hkd m
    subst hkd
    induction m with
    | zero =>
      intro n σ' hn hs hR' hF' hpl
      apply e63
      unfold F_X4_take_63
      rw [hR'.2.1]
      have hCt : CI (c + 6) (d_take d L) σ' := by
        refine ⟨hR', ⟨hLt, fun p hp => hpl p (by have hp : p < dP d := hp; omega)⟩, FI_same hF' (fun g _ i j => rfl) hF'.1 rfl rfl rfl rfl (fun _ => rfl) (bst_eq (alk_take d L)) (bsp_eq (alk_take d L)), WI_fr hC.2.2.2 hs⟩
      refine pk_le (dP d) n (fun _ => ⟨d_take d L, ⟨hCt.1, hCt.2.1⟩, fun σ3 ⟨hs3, hF3⟩ => ⟨d_take d L, k, ⟨RP_fr hCt.1 hs3, RQ_fr hCt.2.1 hs3, hF3, hk, rfl⟩, fun v6 h6 => h _ _ ⟨?_, ?_, sq_tr (sq_mono hs (by decide)) (sq_mono hs3 (by decide))⟩⟩⟩) (fun z => by omega)
      · unfold A_take
        rw [ch_t hok, ch_f hp0, hL, xn_nI (by omega)]
        rw [h6, costL_take]
        rfl
      · unfold U_take
        rw [ch_t ⟨hok, hp0⟩, hL]
        exact ⟨RP_fr hCt.1 hs3, RQ_fr hCt.2.1 hs3, FI_fr0 hCt.2.2.1 hs3, WI_fr hCt.2.2.2 hs3⟩
    | succ m ih =>
      intro n σ' hn hs hR' hF' hpl
      apply e63
      unfold F_X4_take_63
      rw [hR'.2.1, nI_1, nI_clamp (by omega)]
      refine pk_le (dP d) n (fun z => by omega) (fun _ => ⟨fun hb => ⟨d, c, n, k, dS d 0, ⟨⟨hR', hF', by omega⟩, ⟨by omega, rfl⟩, ⟨hk, rfl⟩, hroom, rfl⟩, fun v12 σ13 ⟨h12, hs13, hFK⟩ => ⟨pk_in n 10 (by omega), ?_⟩⟩, fun hb => ⟨pk_in n 10 (by omega), ?_⟩⟩)
      · have hsA : sq [17] σ13 (sv_sA σ13 17 0 n v12) := sq_sA _ _ _ _ (by decide)
        refine ih (n + 1) _ (by omega) (sq_tr (sq_tr hs (sq_mono hs13 (by decide))) (sq_mono hsA (by decide))) (RP_fr (RP_fr hR' hs13) hsA) (FI_fr0 (FK_FI hFK) hsA) (fun p hp => ?_)
        by_cases e : p = n
        · rw [e, gA_same, h12, hbe hb]
        · rw [gA_nj _ e, hs13.1 _ (by decide)]
          exact hpl p (by omega)
      · have hsA : sq [17] σ' (sv_sA σ' 17 0 n x4) := sq_sA _ _ _ _ (by decide)
        refine ih (n + 1) _ (by omega) (sq_tr hs (sq_mono hsA (by decide))) (RP_fr hR' hsA) (FI_fr0 hF' hsA) (fun p hp => ?_)
        by_cases e : p = n
        · rw [e, gA_same, hst hb]
        · rw [gA_nj _ e]
          exact hpl p (by omega)
  apply e0
  unfold F_X4_take_0
  rw [hC.1.2.1, hC.1.2.2.2.1 0 (by omega)]
  refine ⟨fun h1 => ⟨fun h2 => ⟨fun z => ?_, fun z => h _ _ ⟨?_, ?_, sq_rf _ _⟩⟩, fun h2 => bad (fun y => h2 y.2)⟩, fun h1 => bad (fun y => h1 y.1)⟩
  · have hp0 : dP d ≠ 0 := fun y => z (by rw [y]; rfl)
    have hok : ok2 how ∧ ok2 kind := ⟨h1, h2⟩
    obtain ⟨k, hk, hkd, -⟩ := ok2_of h2
    refine ⟨fun hb => ?_, fun hb => ⟨d, k, dS d 0, ⟨hC.1, ⟨hk, hkd⟩, hroom, rfl⟩, fun v4 h4 => ?_⟩⟩
    · have hh0 : how = 0 := h1.resolve_right hb
      rw [hkd]
      refine key 0 (bsp d k (dS d 0)) k hk ⟨h1, by rw [← hkd]; exact h2⟩ hp0 ?_ (fun y => absurd y hb) (fun _ _ => rfl) (fun p hp => bsp_lt hC.1.1 hk hp) hkd (dP d) 0 σ (by omega) (sq_rf _ _) hC.1 hC.2.2.1 (fun p hp => by omega)
      unfold tkL
      rw [ch_t hh0, xn_nI (by omega)]
    · have hh0 : ¬ how = 0 := fun y => by rw [y] at hb; exact absurd hb (by decide)
      rw [hkd]
      refine key v4 (fun _ => stlS d k (dS d 0)) k hk ⟨h1, by rw [← hkd]; exact h2⟩ hp0 ?_ (fun _ _ => h4.symm) (fun y => absurd hb y) (fun p hp => stlS_lt hC.1.1 hk) hkd (dP d) 0 σ (by omega) (sq_rf _ _) hC.1 hC.2.2.1 (fun p hp => by omega)
      unfold tkL
      rw [ch_f hh0, xn_nI (by omega)]
  · have hp0 : dP d = 0 := (nI_eq (by omega) (by omega)).mp (show nI (dP d) = nI 0 from z)
    unfold A_take
    rw [ch_t (show ok2 how ∧ ok2 kind from ⟨h1, h2⟩), ch_t hp0]
  · have hp0 : dP d = 0 := (nI_eq (by omega) (by omega)).mp (show nI (dP d) = nI 0 from z)
    unfold U_take
    rw [ch_f (fun y => y.2 hp0)]
    exact CI_mono hC
-- ==== X4_best
def sp_X4_best : sv_P := fun av σ K => match av with
  | [.inr (.inr (4, 0)), .inl how, .inl kind, .inl r] => ∃ c : Nat, ∃ d : dD, (CI c d σ ∧ c < 900000) ∧ (∀ v : Int32, ∀ σ2 : sv_S, v = A_best d how kind r ∧ CI (c + 6) d σ2 ∧ sq xg σ σ2 → K (some (.inl v)) σ2)
  | _ => False
def tb_X4_best : List (Nat × (Instr × Nat)) := [(0, (.iload_n 1, 1)), (1, (.invokestatic 122, 3)), (4, (.ifCond .eq 20, 3)), (7, (.iload_n 2, 1)), (8, (.invokestatic 125, 3)), (11, (.ifCond .eq 13, 3)), (14, (.iload_n 3, 1)), (15, (.iconst 0, 1)), (16, (.bipush 60, 2)), (18, (.invokestatic 68, 3)), (21, (.ifCond .ne 6, 3)), (24, (.bipush (-2), 2)), (26, (.ireturn, 1)), (27, (.iload_n 1, 1)), (28, (.iconst 1, 1)), (29, (.if_icmp .ne 23, 3)), (32, (.aload_n 0, 1)), (33, (.getfield 28, 3)), (36, (.iload_n 2, 1)), (37, (.aload_n 0, 1)), (38, (.getfield 28, 3)), (41, (.iload_n 2, 1)), (42, (.iload_n 3, 1)), (43, (.invokevirtual 128, 3)), (46, (.invokevirtual 154, 3)), (49, (.goto 12, 3)), (52, (.aload_n 0, 1)), (53, (.getfield 28, 3)), (56, (.iload_n 2, 1)), (57, (.iload_n 3, 1)), (58, (.invokevirtual 157, 3)), (61, (.ireturn, 1))]
set_option maxRecDepth 100000 in
theorem tbk_X4_best : sv_tbok cX4_best tb_X4_best = true := by decide +kernel
def cal_X4_best : List (Nat × (Nat × Nat × sv_P)) := [(122, (1, 90, sp_X4_isHow)), (125, (1, 90, sp_X4_isKind)), (68, (3, 90, sp_X4_within)), (128, (3, 0, sp_X0_stillSet)), (154, (3, 0, sp_X0_stillCost)), (157, (3, 0, sp_X0_bestCost))]
def T_X4_best : sv_T := (flX4, sfX4, kcX4, klX4, cal_X4_best)
set_option maxRecDepth 100000 in
theorem Tok_X4_best (l : Launch) : sv_Tok l RX4 sv_all 6 151 T_X4_best := ⟨flokX4, sfokX4, kcokX4, klokX4, List.forall_mem_cons.mpr ⟨⟨fun h => absurd h (by decide), fun _ => sv_COs_gen (c_X4_isHow l) (Or.inl (sv_mem 333 (by decide +kernel) rfl)) kw_X4_isHow.1 kw_X4_isHow.2.1 kw_X4_isHow.2.2 kd_X4_isHow rfl (by decide) (by decide +kernel)⟩, List.forall_mem_cons.mpr ⟨⟨fun h => absurd h (by decide), fun _ => sv_COs_gen (c_X4_isKind l) (Or.inl (sv_mem 336 (by decide +kernel) rfl)) kw_X4_isKind.1 kw_X4_isKind.2.1 kw_X4_isKind.2.2 kd_X4_isKind rfl (by decide) (by decide +kernel)⟩, List.forall_mem_cons.mpr ⟨⟨fun h => absurd h (by decide), fun _ => sv_COs_gen (c_X4_within l) (Or.inl (sv_mem 235 (by decide +kernel) rfl)) kw_X4_within.1 kw_X4_within.2.1 kw_X4_within.2.2 kd_X4_within rfl (by decide) (by decide +kernel)⟩, List.forall_mem_cons.mpr ⟨⟨fun _ => sv_COv_of (c_X0_stillSet l) sv_clok_all (sv_mem 339 (by decide +kernel) rfl) kw_X0_stillSet.1 kw_X0_stillSet.2.1 kw_X0_stillSet.2.2.1 kw_X0_stillSet.2.2.2 kd_X0_stillSet rfl (by decide) (by decide +kernel) rfl (by decide), fun h => absurd h (by decide)⟩, List.forall_mem_cons.mpr ⟨⟨fun _ => sv_COv_of (c_X0_stillCost l) sv_clok_all (sv_mem 451 (by decide +kernel) rfl) kw_X0_stillCost.1 kw_X0_stillCost.2.1 kw_X0_stillCost.2.2.1 kw_X0_stillCost.2.2.2 kd_X0_stillCost rfl (by decide) (by decide +kernel) rfl (by decide), fun h => absurd h (by decide)⟩, List.forall_mem_cons.mpr ⟨⟨fun _ => sv_COv_of (c_X0_bestCost l) sv_clok_all (sv_mem 452 (by decide +kernel) rfl) kw_X0_bestCost.1 kw_X0_bestCost.2.1 kw_X0_bestCost.2.2.1 kw_X0_bestCost.2.2.2 kd_X0_bestCost rfl (by decide) (by decide +kernel) rfl (by decide), fun h => absurd h (by decide)⟩, fun _ h => absurd h List.not_mem_nil⟩⟩⟩⟩⟩⟩⟩
theorem kw_X4_best : Cond.instanceMethod yX4_best ∈ sv_tb ∧ Cond.selects yX4_best.cls yX4_best yX4_best ∈ sv_tb ∧ Cond.initialized yX4_best.cls ∈ sv_tb ∧ Cond.code yX4_best cX4_best 4 (some .int) ∈ sv_tb := ⟨sv_mem 448 (by decide +kernel) rfl, sv_mem 449 (by decide +kernel) rfl, sv_mem 51 (by decide +kernel) rfl, sv_mem 450 (by decide +kernel) rfl⟩
theorem kd_X4_best : yX4_best.cls ≠ "java/lang/invoke/MethodHandle" ∧ yX4_best.cls ≠ "java/lang/invoke/VarHandle" ∧ (parseMethodDescriptor yX4_best.desc).map (fun d => d.parameters.length) = some 3 := by decide +kernel
def F_X4_best_0 (Wk : sv_K) (Kr : Option sv_AV → sv_S → Prop) (how : Int32) (kind : Int32) (r : Int32) (σ : sv_S) : Prop := (((how = 0 ∨ how = 1 → (((kind = 0 ∨ kind = 1 → ((((0 : Int32) ≤ r ∧ r ≤ (60 : Int32) → ((¬ how = (1 : Int32) → (∃ d1 : dD, ∃ c2 : Nat, ∃ k3 : Nat, ∃ r4 : Nat, ((RP d1 σ ∧ FI c2 d1 σ ∧ c2 < 1000000) ∧ (k3 < 2 ∧ kind = nI k3) ∧ (r4 ≤ 60 ∧ r = nI r4)) ∧ (∀ v5 : Int32, ∀ σ6 : sv_S, v5 = nI (bst d1 k3 r4) ∧ sq fgl σ σ6 ∧ FK c2 d1 σ6 → Kr (some (.inl v5)) σ6))) ∧ (how = (1 : Int32) → (∃ d7 : dD, ∃ k8 : Nat, ∃ r9 : Nat, (RP d7 σ ∧ (k8 < 2 ∧ kind = nI k8) ∧ (r9 ≤ 60 ∧ r = nI r9)) ∧ (∀ v10 : Int32, v10 = nI (stlS d7 k8 r9) → (∃ d11 : dD, ∃ k12 : Nat, ∃ z13 : Nat, (RP d11 σ ∧ (k12 < 2 ∧ kind = nI k12) ∧ (z13 < 32 ∧ v10 = nI z13)) ∧ (∀ v14 : Int32, v14 = nI (stlC d11 k12 z13) → Kr (some (.inl v14)) σ))))))) ∧ (¬ ((0 : Int32) ≤ r ∧ r ≤ (60 : Int32)) → Kr (some (.inl (-2 : Int32))) σ)))) ∧ (¬ (kind = 0 ∨ kind = 1) → Kr (some (.inl (-2 : Int32))) σ)))) ∧ (¬ (how = 0 ∨ how = 1) → Kr (some (.inl (-2 : Int32))) σ)))
set_option maxRecDepth 100000 in
theorem bk_X4_best_0 (Wk : sv_K) (Kr : Option sv_AV → sv_S → Prop) (how : Int32) (kind : Int32) (r : Int32) (σ : sv_S) (h : F_X4_best_0 Wk Kr how kind r σ) : sv_vc tb_X4_best T_X4_best sv_all (some .int) Kr [] Wk 500 0 [some (.inr (.inr (4, 0))), some (.inl how), some (.inl kind), some (.inl r)] [] σ := (match h with | ⟨z17a, z17b⟩ => ⟨fun z17y => br_f (by decide) ((match (z17a z17y) with | ⟨z16a, z16b⟩ => ⟨fun z16y => br_f (by decide) ((match (z16a z16y) with | ⟨z15a, z15b⟩ => ⟨fun z15y => sb_nt (by decide) ((z15a z15y)), fun z15y => sb_nf (by decide) ((z15b z15y))⟩)), fun z16y => br_t (by decide) ((z16b z16y))⟩)), fun z17y => br_t (by decide) ((z17b z17y))⟩)
set_option maxRecDepth 100000 in
theorem m_X4_best (l : Launch) (hb : ∀ (Wk : sv_K) (Kr : Option sv_AV → sv_S → Prop), (∀ (how : Int32) (kind : Int32) (r : Int32) (σ : sv_S), F_X4_best_0 Wk Kr how kind r σ → Wk 0 [some (.inr (.inr (4, 0))), some (.inl how), some (.inl kind), some (.inl r)] [] σ) → (∀ (how : Int32) (kind : Int32) (r : Int32) (σ : sv_S), (∃ c : Nat, ∃ d : dD, (CI c d σ ∧ c < 900000) ∧ (∀ v : Int32, ∀ σ2 : sv_S, v = A_best d how kind r ∧ CI (c + 6) d σ2 ∧ sq xg σ σ2 → Kr (some (.inl v)) σ2)) → Wk 0 [some (.inr (.inr (4, 0))), some (.inl how), some (.inl kind), some (.inl r)] [] σ)) : sv_C l yX4_best cX4_best 4 (some .int) sv_all 6 151 sp_X4_best := by
  refine sv_meth sv_clok_all tb_X4_best T_X4_best (by decide) tbk_X4_best (Tok_X4_best l) ?_
  intro Wk Kr hc av σ hsp
  have hB := hb Wk Kr (fun how kind r σ h => hc [] 500 0 _ _ _ (bk_X4_best_0 Wk Kr how kind r σ h))
  unfold sp_X4_best at hsp
  split at hsp
  · exact ⟨⟨by simp, by simp [sv_cat]⟩, hB _ _ _ _ hsp⟩
  · exact hsp.elim
set_option maxHeartbeats 4000000 in
set_option maxRecDepth 100000 in
theorem c_X4_best (l : Launch) : sv_C l yX4_best cX4_best 4 (some .int) sv_all 6 151 sp_X4_best := by
  refine m_X4_best l ?_
  intro Wk Kr e0 how kind r σ ⟨c, d, ⟨hC, hc⟩, h⟩
  have h32 := two_pow_le hC.1.1
  have bad : ¬ ((ok2 how ∧ ok2 kind) ∧ ((0 : Int32) ≤ r ∧ r ≤ 60)) → Kr (some (.inl (-2 : Int32))) σ := fun hb => h _ _ ⟨(ch_f hb _ _).symm, CI_mono hC, sq_rf _ _⟩
  apply e0
  refine ⟨fun h1 => ⟨fun h2 => ⟨fun h3 => ?_, fun h3 => bad (fun y => h3 y.2)⟩, fun h2 => bad (fun y => h2 y.1.2)⟩, fun h1 => bad (fun y => h1 y.1.1)⟩
  have g : (ok2 how ∧ ok2 kind) ∧ ((0 : Int32) ≤ r ∧ r ≤ 60) := ⟨⟨h1, h2⟩, h3⟩
  obtain ⟨k, hk, rfl, -⟩ := ok2_of h2
  obtain ⟨a, -, ha, rfl⟩ := lit_in (a := 0) (b := 60) (by omega) h3 (by omega)
  refine ⟨fun hb => ⟨d, c, k, a, ⟨⟨hC.1, hC.2.2.1, by omega⟩, ⟨hk, rfl⟩, ha, rfl⟩, fun v5 σ6 ⟨h5, hs6, hFK⟩ => h _ _ ⟨?_, CI_find hC hs6 hFK, sq_mono hs6 (by decide)⟩⟩, fun hb => ⟨d, k, a, ⟨hC.1, ⟨hk, rfl⟩, ha, rfl⟩, fun v10 h10 => ⟨d, k, stlS d k a, ⟨hC.1, ⟨hk, rfl⟩, by have := stlS_lt hC.1.1 (r := a) hk; omega, h10⟩, fun v14 h14 => h _ _ ⟨?_, CI_mono hC, sq_rf _ _⟩⟩⟩⟩
  · have hh0 : how = 0 := h1.resolve_right hb
    unfold A_best
    rw [ch_t g, ch_t hh0, xn_nI (by omega), xn_nI (by omega)]
    exact h5
  · have hh0 : ¬ how = 0 := fun y => by rw [y] at hb; exact absurd hb (by decide)
    unfold A_best
    rw [ch_t g, ch_f hh0, xn_nI (by omega), xn_nI (by omega)]
    exact h14
-- ==== X4_bestSet
def sp_X4_bestSet : sv_P := fun av σ K => match av with
  | [.inr (.inr (4, 0)), .inl p, .inl how, .inl kind] => ∃ c : Nat, ∃ d : dD, (CI c d σ ∧ c < 900000) ∧ (∀ v : Int32, ∀ σ2 : sv_S, v = A_bestSet d p how kind ∧ CI (c + 6) d σ2 ∧ sq xg σ σ2 → K (some (.inl v)) σ2)
  | _ => False
def tb_X4_bestSet : List (Nat × (Instr × Nat)) := [(0, (.aload_n 0, 1)), (1, (.getfield 10, 3)), (4, (.iload_n 1, 1)), (5, (.invokevirtual 57, 3)), (8, (.ifCond .ne 5, 3)), (11, (.iconst (-1), 1)), (12, (.ireturn, 1)), (13, (.iload_n 2, 1)), (14, (.invokestatic 122, 3)), (17, (.ifCond .eq 10, 3)), (20, (.iload_n 3, 1)), (21, (.invokestatic 125, 3)), (24, (.ifCond .ne 6, 3)), (27, (.bipush (-2), 2)), (29, (.ireturn, 1)), (30, (.aload_n 0, 1)), (31, (.getfield 10, 3)), (34, (.getfield 99, 3)), (37, (.iconst 0, 1)), (38, (.iaload, 1)), (39, (.istore 4, 2)), (41, (.iload_n 2, 1)), (42, (.iconst 1, 1)), (43, (.if_icmp .ne 16, 3)), (46, (.aload_n 0, 1)), (47, (.getfield 28, 3)), (50, (.iload_n 3, 1)), (51, (.iload 4, 2)), (53, (.invokevirtual 128, 3)), (56, (.goto 14, 3)), (59, (.aload_n 0, 1)), (60, (.getfield 28, 3)), (63, (.iload_n 1, 1)), (64, (.iload_n 3, 1)), (65, (.iload 4, 2)), (67, (.invokevirtual 131, 3)), (70, (.ireturn, 1))]
set_option maxRecDepth 100000 in
theorem tbk_X4_bestSet : sv_tbok cX4_bestSet tb_X4_bestSet = true := by decide +kernel
def cal_X4_bestSet : List (Nat × (Nat × Nat × sv_P)) := [(57, (2, 2, sp_X2_hasPart)), (122, (1, 90, sp_X4_isHow)), (125, (1, 90, sp_X4_isKind)), (128, (3, 0, sp_X0_stillSet)), (131, (4, 0, sp_X0_bestSetOf))]
def T_X4_bestSet : sv_T := (flX4, sfX4, kcX4, klX4, cal_X4_bestSet)
set_option maxRecDepth 100000 in
theorem Tok_X4_bestSet (l : Launch) : sv_Tok l RX4 sv_all 6 152 T_X4_bestSet := ⟨flokX4, sfokX4, kcokX4, klokX4, List.forall_mem_cons.mpr ⟨⟨fun _ => sv_COv_of (c_X2_hasPart l) sv_clok_all (sv_mem 254 (by decide +kernel) rfl) kw_X2_hasPart.1 kw_X2_hasPart.2.1 kw_X2_hasPart.2.2.1 kw_X2_hasPart.2.2.2 kd_X2_hasPart rfl (by decide) (by decide +kernel) rfl (by decide), fun h => absurd h (by decide)⟩, List.forall_mem_cons.mpr ⟨⟨fun h => absurd h (by decide), fun _ => sv_COs_gen (c_X4_isHow l) (Or.inl (sv_mem 333 (by decide +kernel) rfl)) kw_X4_isHow.1 kw_X4_isHow.2.1 kw_X4_isHow.2.2 kd_X4_isHow rfl (by decide) (by decide +kernel)⟩, List.forall_mem_cons.mpr ⟨⟨fun h => absurd h (by decide), fun _ => sv_COs_gen (c_X4_isKind l) (Or.inl (sv_mem 336 (by decide +kernel) rfl)) kw_X4_isKind.1 kw_X4_isKind.2.1 kw_X4_isKind.2.2 kd_X4_isKind rfl (by decide) (by decide +kernel)⟩, List.forall_mem_cons.mpr ⟨⟨fun _ => sv_COv_of (c_X0_stillSet l) sv_clok_all (sv_mem 339 (by decide +kernel) rfl) kw_X0_stillSet.1 kw_X0_stillSet.2.1 kw_X0_stillSet.2.2.1 kw_X0_stillSet.2.2.2 kd_X0_stillSet rfl (by decide) (by decide +kernel) rfl (by decide), fun h => absurd h (by decide)⟩, List.forall_mem_cons.mpr ⟨⟨fun _ => sv_COv_of (c_X0_bestSetOf l) sv_clok_all (sv_mem 363 (by decide +kernel) rfl) kw_X0_bestSetOf.1 kw_X0_bestSetOf.2.1 kw_X0_bestSetOf.2.2.1 kw_X0_bestSetOf.2.2.2 kd_X0_bestSetOf rfl (by decide) (by decide +kernel) rfl (by decide), fun h => absurd h (by decide)⟩, fun _ h => absurd h List.not_mem_nil⟩⟩⟩⟩⟩⟩
theorem kw_X4_bestSet : Cond.instanceMethod yX4_bestSet ∈ sv_tb ∧ Cond.selects yX4_bestSet.cls yX4_bestSet yX4_bestSet ∈ sv_tb ∧ Cond.initialized yX4_bestSet.cls ∈ sv_tb ∧ Cond.code yX4_bestSet cX4_bestSet 5 (some .int) ∈ sv_tb := ⟨sv_mem 457 (by decide +kernel) rfl, sv_mem 458 (by decide +kernel) rfl, sv_mem 51 (by decide +kernel) rfl, sv_mem 459 (by decide +kernel) rfl⟩
theorem kd_X4_bestSet : yX4_bestSet.cls ≠ "java/lang/invoke/MethodHandle" ∧ yX4_bestSet.cls ≠ "java/lang/invoke/VarHandle" ∧ (parseMethodDescriptor yX4_bestSet.desc).map (fun d => d.parameters.length) = some 3 := by decide +kernel
def F_X4_bestSet_0 (Wk : sv_K) (Kr : Option sv_AV → sv_S → Prop) (p : Int32) (how : Int32) (kind : Int32) (σ : sv_S) : Prop := (∃ d1 : dD, (RP d1 σ) ∧ ((isN (dP d1) p → (((how = 0 ∨ how = 1 → (((kind = 0 ∨ kind = 1 → ((¬ how = (1 : Int32) → (∃ d2 : dD, ∃ c3 : Nat, ∃ q4 : Nat, ∃ k5 : Nat, ∃ r6 : Nat, ((RP d2 σ ∧ FI c3 d2 σ ∧ c3 < 1000000) ∧ (q4 < dP d2 ∧ p = nI q4) ∧ (k5 < 2 ∧ kind = nI k5) ∧ (r6 ≤ 60 ∧ (sv_gA σ 20 0 0) = nI r6)) ∧ (∀ v7 : Int32, ∀ σ8 : sv_S, v7 = nI (bsp d2 k5 r6 q4) ∧ sq fgl σ σ8 ∧ FK c3 d2 σ8 → Kr (some (.inl v7)) σ8))) ∧ (how = (1 : Int32) → (∃ d9 : dD, ∃ k10 : Nat, ∃ r11 : Nat, (RP d9 σ ∧ (k10 < 2 ∧ kind = nI k10) ∧ (r11 ≤ 60 ∧ (sv_gA σ 20 0 0) = nI r11)) ∧ (∀ v12 : Int32, v12 = nI (stlS d9 k10 r11) → Kr (some (.inl v12)) σ))))) ∧ (¬ (kind = 0 ∨ kind = 1) → Kr (some (.inl (-2 : Int32))) σ)))) ∧ (¬ (how = 0 ∨ how = 1) → Kr (some (.inl (-2 : Int32))) σ)))) ∧ (¬ isN (dP d1) p → Kr (some (.inl (-1 : Int32))) σ)))
set_option maxRecDepth 100000 in
theorem bk_X4_bestSet_0 (Wk : sv_K) (Kr : Option sv_AV → sv_S → Prop) (p : Int32) (how : Int32) (kind : Int32) (σ : sv_S) (h : F_X4_bestSet_0 Wk Kr p how kind σ) : sv_vc tb_X4_bestSet T_X4_bestSet sv_all (some .int) Kr [] Wk 500 0 [some (.inr (.inr (4, 0))), some (.inl p), some (.inl how), some (.inl kind), none] [] σ := (match h with | ⟨d1, z15p, z15a, z15b⟩ => ⟨d1, z15p, fun z15y => sb_nt (by decide) ((match (z15a z15y) with | ⟨z14a, z14b⟩ => ⟨fun z14y => br_f (by decide) ((match (z14a z14y) with | ⟨z13a, z13b⟩ => ⟨fun z13y => sb_nt (by decide) (⟨sb_vin (by decide), (z13a z13y)⟩), fun z13y => sb_nf (by decide) ((z13b z13y))⟩)), fun z14y => br_t (by decide) ((z14b z14y))⟩)), fun z15y => sb_nf (by decide) ((z15b z15y))⟩)
set_option maxRecDepth 100000 in
theorem m_X4_bestSet (l : Launch) (hb : ∀ (Wk : sv_K) (Kr : Option sv_AV → sv_S → Prop), (∀ (p : Int32) (how : Int32) (kind : Int32) (σ : sv_S), F_X4_bestSet_0 Wk Kr p how kind σ → Wk 0 [some (.inr (.inr (4, 0))), some (.inl p), some (.inl how), some (.inl kind), none] [] σ) → (∀ (p : Int32) (how : Int32) (kind : Int32) (σ : sv_S), (∃ c : Nat, ∃ d : dD, (CI c d σ ∧ c < 900000) ∧ (∀ v : Int32, ∀ σ2 : sv_S, v = A_bestSet d p how kind ∧ CI (c + 6) d σ2 ∧ sq xg σ σ2 → Kr (some (.inl v)) σ2)) → Wk 0 [some (.inr (.inr (4, 0))), some (.inl p), some (.inl how), some (.inl kind), none] [] σ)) : sv_C l yX4_bestSet cX4_bestSet 5 (some .int) sv_all 6 152 sp_X4_bestSet := by
  refine sv_meth sv_clok_all tb_X4_bestSet T_X4_bestSet (by decide) tbk_X4_bestSet (Tok_X4_bestSet l) ?_
  intro Wk Kr hc av σ hsp
  have hB := hb Wk Kr (fun p how kind σ h => hc [] 500 0 _ _ _ (bk_X4_bestSet_0 Wk Kr p how kind σ h))
  unfold sp_X4_bestSet at hsp
  split at hsp
  · exact ⟨⟨by simp, by simp [sv_cat]⟩, hB _ _ _ _ hsp⟩
  · exact hsp.elim
set_option maxHeartbeats 4000000 in
set_option maxRecDepth 100000 in
theorem c_X4_bestSet (l : Launch) : sv_C l yX4_bestSet cX4_bestSet 5 (some .int) sv_all 6 152 sp_X4_bestSet := by
  refine m_X4_bestSet l ?_
  intro Wk Kr e0 p how kind σ ⟨c, d, ⟨hC, hc⟩, h⟩
  have hP := hC.1.1.1
  have hroom := hC.1.1.2.2.2.2.2.2.1
  have bad : isN (dP d) p → ¬ (ok2 how ∧ ok2 kind) → Kr (some (.inl (-2 : Int32))) σ := fun hp hb => h _ _ ⟨by unfold A_bestSet; rw [ch_t hp, ch_f hb], CI_mono hC, sq_rf _ _⟩
  apply e0
  unfold F_X4_bestSet_0
  rw [hC.1.2.2.2.1 0 (by omega)]
  refine ⟨d, hC.1, fun hp => ⟨fun h1 => ⟨fun h2 => ?_, fun h2 => bad hp (fun y => h2 y.2)⟩, fun h1 => bad hp (fun y => h1 y.1)⟩, fun hp => h _ _ ⟨(ch_f hp _ _).symm, CI_mono hC, sq_rf _ _⟩⟩
  have g : ok2 how ∧ ok2 kind := ⟨h1, h2⟩
  have g1 := hp
  obtain ⟨k, hk, rfl, -⟩ := ok2_of h2
  obtain ⟨q, hq, rfl⟩ := hp
  refine ⟨fun hb => ⟨d, c, q, k, dS d 0, ⟨⟨hC.1, hC.2.2.1, by omega⟩, ⟨hq, rfl⟩, ⟨hk, rfl⟩, hroom, rfl⟩, fun v5 σ6 ⟨h5, hs6, hFK⟩ => h _ _ ⟨?_, CI_find hC hs6 hFK, sq_mono hs6 (by decide)⟩⟩, fun hb => ⟨d, k, dS d 0, ⟨hC.1, ⟨hk, rfl⟩, hroom, rfl⟩, fun v10 h10 => h _ _ ⟨?_, CI_mono hC, sq_rf _ _⟩⟩⟩
  · have hh0 : how = 0 := h1.resolve_right hb
    unfold A_bestSet
    rw [ch_t g1, ch_t g, ch_t hh0, xn_nI (by omega), xn_nI (by omega)]
    exact h5
  · have hh0 : ¬ how = 0 := fun y => by rw [y] at hb; exact absurd hb (by decide)
    unfold A_bestSet
    rw [ch_t g1, ch_t g, ch_f hh0, xn_nI (by omega)]
    exact h10
-- ==== X4_room
def sp_X4_room : sv_P := fun av σ K => match av with
  | [.inr (.inr (4, 0)), .inl kind, .inl nv] => ∃ c : Nat, ∃ d : dD, (CI c d σ ∧ c < 900000) ∧ (∀ v : Int32, ∀ σ2 : sv_S, v = A_room d kind nv ∧ CI (c + 6) d σ2 ∧ sq xg σ σ2 → K (some (.inl v)) σ2)
  | _ => False
def tb_X4_room : List (Nat × (Instr × Nat)) := [(0, (.iload_n 1, 1)), (1, (.invokestatic 125, 3)), (4, (.ifCond .eq 13, 3)), (7, (.iload_n 2, 1)), (8, (.iconst 0, 1)), (9, (.ldc 160, 2)), (11, (.invokestatic 68, 3)), (14, (.ifCond .ne 6, 3)), (17, (.bipush (-2), 2)), (19, (.ireturn, 1)), (20, (.aload_n 0, 1)), (21, (.getfield 28, 3)), (24, (.iload_n 1, 1)), (25, (.iload_n 2, 1)), (26, (.invokevirtual 161, 3)), (29, (.ireturn, 1))]
set_option maxRecDepth 100000 in
theorem tbk_X4_room : sv_tbok cX4_room tb_X4_room = true := by decide +kernel
def cal_X4_room : List (Nat × (Nat × Nat × sv_P)) := [(125, (1, 90, sp_X4_isKind)), (68, (3, 90, sp_X4_within)), (161, (3, 0, sp_X0_leastRoom))]
def T_X4_room : sv_T := (flX4, sfX4, kcX4, klX4, cal_X4_room)
set_option maxRecDepth 100000 in
theorem Tok_X4_room (l : Launch) : sv_Tok l RX4 sv_all 7 177 T_X4_room := ⟨flokX4, sfokX4, kcokX4, klokX4, List.forall_mem_cons.mpr ⟨⟨fun h => absurd h (by decide), fun _ => sv_COs_gen (c_X4_isKind l) (Or.inl (sv_mem 336 (by decide +kernel) rfl)) kw_X4_isKind.1 kw_X4_isKind.2.1 kw_X4_isKind.2.2 kd_X4_isKind rfl (by decide) (by decide +kernel)⟩, List.forall_mem_cons.mpr ⟨⟨fun h => absurd h (by decide), fun _ => sv_COs_gen (c_X4_within l) (Or.inl (sv_mem 235 (by decide +kernel) rfl)) kw_X4_within.1 kw_X4_within.2.1 kw_X4_within.2.2 kd_X4_within rfl (by decide) (by decide +kernel)⟩, List.forall_mem_cons.mpr ⟨⟨fun _ => sv_COv_of (c_X0_leastRoom l) sv_clok_all (sv_mem 465 (by decide +kernel) rfl) kw_X0_leastRoom.1 kw_X0_leastRoom.2.1 kw_X0_leastRoom.2.2.1 kw_X0_leastRoom.2.2.2 kd_X0_leastRoom rfl (by decide) (by decide +kernel) rfl (by decide), fun h => absurd h (by decide)⟩, fun _ h => absurd h List.not_mem_nil⟩⟩⟩⟩
theorem kw_X4_room : Cond.instanceMethod yX4_room ∈ sv_tb ∧ Cond.selects yX4_room.cls yX4_room yX4_room ∈ sv_tb ∧ Cond.initialized yX4_room.cls ∈ sv_tb ∧ Cond.code yX4_room cX4_room 3 (some .int) ∈ sv_tb := ⟨sv_mem 461 (by decide +kernel) rfl, sv_mem 462 (by decide +kernel) rfl, sv_mem 51 (by decide +kernel) rfl, sv_mem 463 (by decide +kernel) rfl⟩
theorem kd_X4_room : yX4_room.cls ≠ "java/lang/invoke/MethodHandle" ∧ yX4_room.cls ≠ "java/lang/invoke/VarHandle" ∧ (parseMethodDescriptor yX4_room.desc).map (fun d => d.parameters.length) = some 2 := by decide +kernel
def F_X4_room_0 (Wk : sv_K) (Kr : Option sv_AV → sv_S → Prop) (kind : Int32) (nv : Int32) (σ : sv_S) : Prop := (((kind = 0 ∨ kind = 1 → ((((0 : Int32) ≤ nv ∧ nv ≤ (9999999 : Int32) → (∃ d1 : dD, ∃ c2 : Nat, ∃ k3 : Nat, ((RP d1 σ ∧ FI c2 d1 σ ∧ c2 < 1000000) ∧ (k3 < 2 ∧ kind = nI k3)) ∧ (∀ v4 : Int32, ∀ σ5 : sv_S, v4 = lroom d1 k3 (nv).toInt ∧ sq fgl σ σ5 ∧ FK c2 d1 σ5 → Kr (some (.inl v4)) σ5))) ∧ (¬ ((0 : Int32) ≤ nv ∧ nv ≤ (9999999 : Int32)) → Kr (some (.inl (-2 : Int32))) σ)))) ∧ (¬ (kind = 0 ∨ kind = 1) → Kr (some (.inl (-2 : Int32))) σ)))
set_option maxRecDepth 100000 in
theorem bk_X4_room_0 (Wk : sv_K) (Kr : Option sv_AV → sv_S → Prop) (kind : Int32) (nv : Int32) (σ : sv_S) (h : F_X4_room_0 Wk Kr kind nv σ) : sv_vc tb_X4_room T_X4_room sv_all (some .int) Kr [] Wk 500 0 [some (.inr (.inr (4, 0))), some (.inl kind), some (.inl nv)] [] σ := (match h with | ⟨z7a, z7b⟩ => ⟨fun z7y => br_f (by decide) ((match (z7a z7y) with | ⟨z6a, z6b⟩ => ⟨fun z6y => sb_nt (by decide) ((z6a z6y)), fun z6y => sb_nf (by decide) ((z6b z6y))⟩)), fun z7y => br_t (by decide) ((z7b z7y))⟩)
set_option maxRecDepth 100000 in
theorem m_X4_room (l : Launch) (hb : ∀ (Wk : sv_K) (Kr : Option sv_AV → sv_S → Prop), (∀ (kind : Int32) (nv : Int32) (σ : sv_S), F_X4_room_0 Wk Kr kind nv σ → Wk 0 [some (.inr (.inr (4, 0))), some (.inl kind), some (.inl nv)] [] σ) → (∀ (kind : Int32) (nv : Int32) (σ : sv_S), (∃ c : Nat, ∃ d : dD, (CI c d σ ∧ c < 900000) ∧ (∀ v : Int32, ∀ σ2 : sv_S, v = A_room d kind nv ∧ CI (c + 6) d σ2 ∧ sq xg σ σ2 → Kr (some (.inl v)) σ2)) → Wk 0 [some (.inr (.inr (4, 0))), some (.inl kind), some (.inl nv)] [] σ)) : sv_C l yX4_room cX4_room 3 (some .int) sv_all 7 177 sp_X4_room := by
  refine sv_meth sv_clok_all tb_X4_room T_X4_room (by decide) tbk_X4_room (Tok_X4_room l) ?_
  intro Wk Kr hc av σ hsp
  have hB := hb Wk Kr (fun kind nv σ h => hc [] 500 0 _ _ _ (bk_X4_room_0 Wk Kr kind nv σ h))
  unfold sp_X4_room at hsp
  split at hsp
  · exact ⟨⟨by simp, by simp [sv_cat]⟩, hB _ _ _ hsp⟩
  · exact hsp.elim
set_option maxHeartbeats 4000000 in
set_option maxRecDepth 100000 in
theorem c_X4_room (l : Launch) : sv_C l yX4_room cX4_room 3 (some .int) sv_all 7 177 sp_X4_room := by
  refine m_X4_room l ?_
  intro Wk Kr e0 kind v σ ⟨c, d, ⟨hC, hc⟩, h⟩
  have bad : ¬ (ok2 kind ∧ ((0 : Int32) ≤ v ∧ v ≤ 9999999)) → Kr (some (.inl (-2 : Int32))) σ := fun hb => h _ _ ⟨(ch_f hb _ _).symm, CI_mono hC, sq_rf _ _⟩
  apply e0
  refine ⟨fun h1 => ⟨fun h2 => ?_, fun h2 => bad (fun y => h2 y.2)⟩, fun h1 => bad (fun y => h1 y.1)⟩
  have g : ok2 kind ∧ ((0 : Int32) ≤ v ∧ v ≤ 9999999) := ⟨h1, h2⟩
  obtain ⟨k, hk, rfl, -⟩ := ok2_of h1
  refine ⟨d, c, k, ⟨⟨hC.1, hC.2.2.1, by omega⟩, hk, rfl⟩, fun v4 σ5 ⟨h4, hs, hFK⟩ => h _ _ ⟨?_, CI_find hC hs hFK, sq_mono hs (by decide)⟩⟩
  unfold A_room
  rw [ch_t g, xn_nI (by omega)]
  exact h4
-- ==== X4_drop
def sp_X4_drop : sv_P := fun av σ K => match av with
  | [.inr (.inr (4, 0)), .inl kind, .inl k] => ∃ c : Nat, ∃ d : dD, (CI c d σ ∧ c < 900000) ∧ (∀ v : Int32, ∀ σ2 : sv_S, v = A_drop d kind k ∧ CI (c + 6) d σ2 ∧ sq xg σ σ2 → K (some (.inl v)) σ2)
  | _ => False
def tb_X4_drop : List (Nat × (Instr × Nat)) := [(0, (.iload_n 1, 1)), (1, (.invokestatic 125, 3)), (4, (.ifCond .eq 13, 3)), (7, (.iload_n 2, 1)), (8, (.iconst 0, 1)), (9, (.bipush 59, 2)), (11, (.invokestatic 68, 3)), (14, (.ifCond .ne 6, 3)), (17, (.bipush (-2), 2)), (19, (.ireturn, 1)), (20, (.iconst 0, 1)), (21, (.istore_n 3, 1)), (22, (.iconst 0, 1)), (23, (.istore 4, 2)), (25, (.iload 4, 2)), (27, (.iload_n 2, 1)), (28, (.if_icmp .gt 35, 3)), (31, (.iload_n 3, 1)), (32, (.bipush (-9), 2)), (34, (.if_icmp .eq 29, 3)), (37, (.aload_n 0, 1)), (38, (.getfield 28, 3)), (41, (.iload_n 1, 1)), (42, (.aload_n 0, 1)), (43, (.getfield 28, 3)), (46, (.iload_n 1, 1)), (47, (.iload_n 3, 1)), (48, (.invokevirtual 157, 3)), (51, (.iconst 1, 1)), (52, (.isub, 1)), (53, (.invokevirtual 161, 3)), (56, (.istore_n 3, 1)), (57, (.iinc 4 1, 3)), (60, (.goto (-35), 3)), (63, (.iload_n 3, 1)), (64, (.ireturn, 1))]
set_option maxRecDepth 100000 in
theorem tbk_X4_drop : sv_tbok cX4_drop tb_X4_drop = true := by decide +kernel
def cal_X4_drop : List (Nat × (Nat × Nat × sv_P)) := [(125, (1, 90, sp_X4_isKind)), (68, (3, 90, sp_X4_within)), (157, (3, 0, sp_X0_bestCost)), (161, (3, 0, sp_X0_leastRoom))]
def T_X4_drop : sv_T := (flX4, sfX4, kcX4, klX4, cal_X4_drop)
set_option maxRecDepth 100000 in
theorem Tok_X4_drop (l : Launch) : sv_Tok l RX4 sv_all 7 177 T_X4_drop := ⟨flokX4, sfokX4, kcokX4, klokX4, List.forall_mem_cons.mpr ⟨⟨fun h => absurd h (by decide), fun _ => sv_COs_gen (c_X4_isKind l) (Or.inl (sv_mem 336 (by decide +kernel) rfl)) kw_X4_isKind.1 kw_X4_isKind.2.1 kw_X4_isKind.2.2 kd_X4_isKind rfl (by decide) (by decide +kernel)⟩, List.forall_mem_cons.mpr ⟨⟨fun h => absurd h (by decide), fun _ => sv_COs_gen (c_X4_within l) (Or.inl (sv_mem 235 (by decide +kernel) rfl)) kw_X4_within.1 kw_X4_within.2.1 kw_X4_within.2.2 kd_X4_within rfl (by decide) (by decide +kernel)⟩, List.forall_mem_cons.mpr ⟨⟨fun _ => sv_COv_of (c_X0_bestCost l) sv_clok_all (sv_mem 452 (by decide +kernel) rfl) kw_X0_bestCost.1 kw_X0_bestCost.2.1 kw_X0_bestCost.2.2.1 kw_X0_bestCost.2.2.2 kd_X0_bestCost rfl (by decide) (by decide +kernel) rfl (by decide), fun h => absurd h (by decide)⟩, List.forall_mem_cons.mpr ⟨⟨fun _ => sv_COv_of (c_X0_leastRoom l) sv_clok_all (sv_mem 465 (by decide +kernel) rfl) kw_X0_leastRoom.1 kw_X0_leastRoom.2.1 kw_X0_leastRoom.2.2.1 kw_X0_leastRoom.2.2.2 kd_X0_leastRoom rfl (by decide) (by decide +kernel) rfl (by decide), fun h => absurd h (by decide)⟩, fun _ h => absurd h List.not_mem_nil⟩⟩⟩⟩⟩
theorem kw_X4_drop : Cond.instanceMethod yX4_drop ∈ sv_tb ∧ Cond.selects yX4_drop.cls yX4_drop yX4_drop ∈ sv_tb ∧ Cond.initialized yX4_drop.cls ∈ sv_tb ∧ Cond.code yX4_drop cX4_drop 5 (some .int) ∈ sv_tb := ⟨sv_mem 471 (by decide +kernel) rfl, sv_mem 472 (by decide +kernel) rfl, sv_mem 51 (by decide +kernel) rfl, sv_mem 473 (by decide +kernel) rfl⟩
theorem kd_X4_drop : yX4_drop.cls ≠ "java/lang/invoke/MethodHandle" ∧ yX4_drop.cls ≠ "java/lang/invoke/VarHandle" ∧ (parseMethodDescriptor yX4_drop.desc).map (fun d => d.parameters.length) = some 2 := by decide +kernel
def F_X4_drop_0 (Wk : sv_K) (Kr : Option sv_AV → sv_S → Prop) (kind : Int32) (k : Int32) (σ : sv_S) : Prop := (((kind = 0 ∨ kind = 1 → ((((0 : Int32) ≤ k ∧ k ≤ (59 : Int32) → Wk 25 [some (.inr (.inr (4, 0))), some (.inl kind), some (.inl k), some (.inl (0 : Int32)), some (.inl (0 : Int32))] [] σ) ∧ (¬ ((0 : Int32) ≤ k ∧ k ≤ (59 : Int32)) → Kr (some (.inl (-2 : Int32))) σ)))) ∧ (¬ (kind = 0 ∨ kind = 1) → Kr (some (.inl (-2 : Int32))) σ)))
set_option maxRecDepth 100000 in
theorem bk_X4_drop_0 (Wk : sv_K) (Kr : Option sv_AV → sv_S → Prop) (kind : Int32) (k : Int32) (σ : sv_S) (h : F_X4_drop_0 Wk Kr kind k σ) : sv_vc tb_X4_drop T_X4_drop sv_all (some .int) Kr [(25, [true, true, true, true, true])] Wk 500 0 [some (.inr (.inr (4, 0))), some (.inl kind), some (.inl k), none, none] [] σ := (match h with | ⟨z2a, z2b⟩ => ⟨fun z2y => br_f (by decide) ((match (z2a z2y) with | ⟨z1a, z1b⟩ => ⟨fun z1y => sb_nt (by decide) ((z1a z1y)), fun z1y => sb_nf (by decide) ((z1b z1y))⟩)), fun z2y => br_t (by decide) ((z2b z2y))⟩)
def F_X4_drop_25 (Wk : sv_K) (Kr : Option sv_AV → sv_S → Prop) (x1 : Int32) (x2 : Int32) (x3 : Int32) (x4 : Int32) (σ : sv_S) : Prop := ((x2 < x4 → Kr (some (.inl x3)) σ) ∧ (¬ x2 < x4 → ((x3 = (-9 : Int32) → Kr (some (.inl x3)) σ) ∧ (¬ x3 = (-9 : Int32) → (∃ d1 : dD, ∃ c2 : Nat, ∃ k3 : Nat, ∃ r4 : Nat, ((RP d1 σ ∧ FI c2 d1 σ ∧ c2 < 1000000) ∧ (k3 < 2 ∧ x1 = nI k3) ∧ (r4 ≤ 60 ∧ x3 = nI r4)) ∧ (∀ v5 : Int32, ∀ σ6 : sv_S, v5 = nI (bst d1 k3 r4) ∧ sq fgl σ σ6 ∧ FK c2 d1 σ6 → (∃ d7 : dD, ∃ c8 : Nat, ∃ k9 : Nat, ((RP d7 σ6 ∧ FI c8 d7 σ6 ∧ c8 < 1000000) ∧ (k9 < 2 ∧ x1 = nI k9)) ∧ (∀ v10 : Int32, ∀ σ11 : sv_S, v10 = lroom d7 k9 ((v5 - (1 : Int32))).toInt ∧ sq fgl σ6 σ11 ∧ FK c8 d7 σ11 → Wk 25 [some (.inr (.inr (4, 0))), some (.inl x1), some (.inl x2), some (.inl v10), some (.inl (x4 + (1 : Int32)))] [] σ11))))))))
set_option maxRecDepth 100000 in
theorem bk_X4_drop_25 (Wk : sv_K) (Kr : Option sv_AV → sv_S → Prop) (x1 : Int32) (x2 : Int32) (x3 : Int32) (x4 : Int32) (σ : sv_S) (h : F_X4_drop_25 Wk Kr x1 x2 x3 x4 σ) : sv_vc tb_X4_drop T_X4_drop sv_all (some .int) Kr [(25, [true, true, true, true, true])] Wk 500 25 [some (.inr (.inr (4, 0))), some (.inl x1), some (.inl x2), some (.inl x3), some (.inl x4)] [] σ := h
set_option maxRecDepth 100000 in
theorem m_X4_drop (l : Launch) (hb : ∀ (Wk : sv_K) (Kr : Option sv_AV → sv_S → Prop), (∀ (kind : Int32) (k : Int32) (σ : sv_S), F_X4_drop_0 Wk Kr kind k σ → Wk 0 [some (.inr (.inr (4, 0))), some (.inl kind), some (.inl k), none, none] [] σ) → (∀ (x1 : Int32) (x2 : Int32) (x3 : Int32) (x4 : Int32) (σ : sv_S), F_X4_drop_25 Wk Kr x1 x2 x3 x4 σ → Wk 25 [some (.inr (.inr (4, 0))), some (.inl x1), some (.inl x2), some (.inl x3), some (.inl x4)] [] σ) → (∀ (kind : Int32) (k : Int32) (σ : sv_S), (∃ c : Nat, ∃ d : dD, (CI c d σ ∧ c < 900000) ∧ (∀ v : Int32, ∀ σ2 : sv_S, v = A_drop d kind k ∧ CI (c + 6) d σ2 ∧ sq xg σ σ2 → Kr (some (.inl v)) σ2)) → Wk 0 [some (.inr (.inr (4, 0))), some (.inl kind), some (.inl k), none, none] [] σ)) : sv_C l yX4_drop cX4_drop 5 (some .int) sv_all 7 177 sp_X4_drop := by
  refine sv_meth sv_clok_all tb_X4_drop T_X4_drop (by decide) tbk_X4_drop (Tok_X4_drop l) ?_
  intro Wk Kr hc av σ hsp
  have hB := hb Wk Kr (fun kind k σ h => hc [(25, [true, true, true, true, true])] 500 0 _ _ _ (bk_X4_drop_0 Wk Kr kind k σ h)) (fun x1 x2 x3 x4 σ h => hc [(25, [true, true, true, true, true])] 500 25 _ _ _ (bk_X4_drop_25 Wk Kr x1 x2 x3 x4 σ h))
  unfold sp_X4_drop at hsp
  split at hsp
  · exact ⟨⟨by simp, by simp [sv_cat]⟩, hB _ _ _ hsp⟩
  · exact hsp.elim
theorem drp_succ (d : dD) (k n : Nat) : drp d k (n + 1) = (drp d k n).bind (fun r => lr1 d k ((bst d k r : Int) - 1)) := rfl
theorem drp_none {d : dD} {k n : Nat} (h : drp d k n = none) : ∀ m, n ≤ m → drp d k m = none := by
  intro m hm
  obtain ⟨j, rfl⟩ : ∃ j, m = n + j := ⟨m - n, by omega⟩
  clear hm
  induction j with
  | zero => exact h
  | succ j ih =>
    rw [show n + (j + 1) = (n + j) + 1 from rfl, drp_succ, ih]
    rfl
theorem drp_le {d : dD} {k : Nat} : ∀ {n a : Nat}, drp d k n = some a → a ≤ 60
  | 0, a, h => by
    cases h
    omega
  | n + 1, a, h => by
    rw [drp_succ] at h
    cases hq : drp d k n with
    | none => rw [hq] at h; cases h
    | some r =>
      rw [hq, Option.bind_some] at h
      exact lr1_le h
set_option maxHeartbeats 4000000 in
set_option maxRecDepth 100000 in
theorem c_X4_drop (l : Launch) : sv_C l yX4_drop cX4_drop 5 (some .int) sv_all 7 177 sp_X4_drop := by
  refine m_X4_drop l ?_
  intro Wk Kr e0 e25 kind k σ ⟨c, d, ⟨hC, hc⟩, h⟩
  have bad : ¬ (ok2 kind ∧ ((0 : Int32) ≤ k ∧ k ≤ 59)) → Kr (some (.inl (-2 : Int32))) σ := fun hb => h _ _ ⟨(ch_f hb _ _).symm, CI_mono hC, sq_rf _ _⟩
  apply e0
  refine ⟨fun h1 => ⟨fun h2 => ?_, fun h2 => bad (fun y => h2 y.2)⟩, fun h1 => bad (fun y => h1 y.1)⟩
  have g : ok2 kind ∧ ((0 : Int32) ≤ k ∧ k ≤ 59) := ⟨h1, h2⟩
  obtain ⟨kk, hk, rfl, -⟩ := ok2_of h1
  obtain ⟨j, -, hj, rfl⟩ := lit_in (a := 0) (b := 59) (by omega) h2 (by omega)
  have hbl := fun r => bst_lt hC.1.1 (r := r) hk
  have key : ∀ m n σ', n + m = j + 1 → CI c d σ' → sq xg σ σ' → Wk 25 [some (.inr (.inr (4, 0))), some (.inl (nI kk)), some (.inl (nI j)), some (.inl (fpI (drp d kk n))), some (.inl (nI n))] [] σ' := by
    intro m
    induction m with
    | zero =>
      intro n σ' hn hC' hs
      apply e25
      refine pk_lt j n (fun _ => h _ _ ⟨?_, CI_mono hC', hs⟩) (fun z => by omega)
      unfold A_drop
      rw [ch_t g, xn_nI (by omega), xn_nI (by omega), show n = j + 1 by omega]
    | succ m ih =>
      intro n σ' hn hC' hs
      apply e25
      unfold F_X4_drop_25
      refine pk_lt j n (fun z => by omega) (fun _ => ⟨fun z => h _ _ ⟨?_, CI_mono hC', hs⟩, fun z => ?_⟩)
      · cases hd : drp d kk n with
        | none =>
          unfold A_drop
          rw [ch_t g, xn_nI (by omega), xn_nI (by omega), drp_none hd (j + 1) (by omega)]
        | some a =>
          rw [hd] at z
          exact absurd z (m9_ne (by have := drp_le hd; omega))
      · cases hd : drp d kk n with
        | none =>
          rw [hd] at z
          exact absurd rfl z
        | some a =>
          have ha := drp_le hd
          refine ⟨d, c, kk, a, ⟨⟨hC'.1, hC'.2.2.1, by omega⟩, ⟨hk, rfl⟩, ha, rfl⟩, fun v5 σ6 ⟨h5, hs6, hFK⟩ => ⟨d, c, kk, ⟨⟨RP_fr hC'.1 hs6, FK_FI hFK, by omega⟩, hk, rfl⟩, fun v10 σ11 ⟨h10, hs11, hFK2⟩ => ?_⟩⟩
          have hs2 : sq fgl σ' σ11 := sq_tr hs6 hs11
          have := ih (n + 1) σ11 (by omega) ⟨RP_fr hC'.1 hs2, RQ_fr hC'.2.1 hs2, FK_FI hFK2, WI_fr hC'.2.2.2 hs2⟩ (sq_tr hs (sq_mono hs2 (by decide)))
          rw [drp_succ, hd, Option.bind_some] at this
          rw [nI_1, h10, h5, lroom_lr1, show (1 : Int32) = nI 1 from rfl, pk_sub_toInt (by have := hbl a; omega) (by omega)]
          exact this
  have hC0 : CI c d σ := hC
  exact key (j + 1) 0 σ (by omega) hC0 (sq_rf _ _)
-- ==== X4_place
def sp_X4_place : sv_P := fun av σ K => match av with
  | [.inr (.inr (4, 0)), .inl t, .inl p, .inl order] => ∃ c : Nat, ∃ d : dD, (CI c d σ ∧ c < 900000) ∧ (∀ v : Int32, ∀ σ2 : sv_S, v = A_place d t p order ∧ CI (c + 6) d σ2 ∧ sq xg σ σ2 → K (some (.inl v)) σ2)
  | _ => False
def tb_X4_place : List (Nat × (Instr × Nat)) := [(0, (.aload_n 0, 1)), (1, (.getfield 10, 3)), (4, (.iload_n 1, 1)), (5, (.invokevirtual 79, 3)), (8, (.ifCond .eq 14, 3)), (11, (.aload_n 0, 1)), (12, (.getfield 10, 3)), (15, (.iload_n 2, 1)), (16, (.invokevirtual 57, 3)), (19, (.ifCond .ne 5, 3)), (22, (.iconst (-1), 1)), (23, (.ireturn, 1)), (24, (.aload_n 0, 1)), (25, (.iload_n 3, 1)), (26, (.invokevirtual 164, 3)), (29, (.ifCond .ne 6, 3)), (32, (.bipush (-2), 2)), (34, (.ireturn, 1)), (35, (.aload_n 0, 1)), (36, (.getfield 21, 3)), (39, (.getfield 53, 3)), (42, (.iload_n 2, 1)), (43, (.iaload, 1)), (44, (.iload_n 1, 1)), (45, (.invokestatic 167, 3)), (48, (.ifCond .ne 6, 3)), (51, (.bipush (-9), 2)), (53, (.ireturn, 1)), (54, (.aload_n 0, 1)), (55, (.getfield 37, 3)), (58, (.iload_n 2, 1)), (59, (.iload_n 3, 1)), (60, (.invokevirtual 170, 3)), (63, (.bipush (-9), 2)), (65, (.if_icmp .eq 6, 3)), (68, (.bipush (-9), 2)), (70, (.ireturn, 1)), (71, (.aload_n 0, 1)), (72, (.getfield 37, 3)), (75, (.getfield 173, 3)), (78, (.iload_n 1, 1)), (79, (.iaload, 1)), (80, (.ireturn, 1))]
set_option maxRecDepth 100000 in
theorem tbk_X4_place : sv_tbok cX4_place tb_X4_place = true := by decide +kernel
def cal_X4_place : List (Nat × (Nat × Nat × sv_P)) := [(79, (2, 2, sp_X2_hasThing)), (57, (2, 2, sp_X2_hasPart)), (164, (2, 4, sp_X4_isOrder)), (167, (2, 90, sp_X4_holds)), (170, (3, 3, sp_X3_fillUpTo))]
def T_X4_place : sv_T := (flX4, sfX4, kcX4, klX4, cal_X4_place)
set_option maxRecDepth 100000 in
theorem Tok_X4_place (l : Launch) : sv_Tok l RX4 sv_all 4 92 T_X4_place := ⟨flokX4, sfokX4, kcokX4, klokX4, List.forall_mem_cons.mpr ⟨⟨fun _ => sv_COv_of (c_X2_hasThing l) sv_clok_all (sv_mem 284 (by decide +kernel) rfl) kw_X2_hasThing.1 kw_X2_hasThing.2.1 kw_X2_hasThing.2.2.1 kw_X2_hasThing.2.2.2 kd_X2_hasThing rfl (by decide) (by decide +kernel) rfl (by decide), fun h => absurd h (by decide)⟩, List.forall_mem_cons.mpr ⟨⟨fun _ => sv_COv_of (c_X2_hasPart l) sv_clok_all (sv_mem 254 (by decide +kernel) rfl) kw_X2_hasPart.1 kw_X2_hasPart.2.1 kw_X2_hasPart.2.2.1 kw_X2_hasPart.2.2.2 kd_X2_hasPart rfl (by decide) (by decide +kernel) rfl (by decide), fun h => absurd h (by decide)⟩, List.forall_mem_cons.mpr ⟨⟨fun _ => sv_COv_of (c_X4_isOrder l) sv_clok_all (sv_mem 478 (by decide +kernel) rfl) kw_X4_isOrder.1 kw_X4_isOrder.2.1 kw_X4_isOrder.2.2.1 kw_X4_isOrder.2.2.2 kd_X4_isOrder rfl (by decide) (by decide +kernel) rfl (by decide), fun h => absurd h (by decide)⟩, List.forall_mem_cons.mpr ⟨⟨fun h => absurd h (by decide), fun _ => sv_COs_gen (c_X4_holds l) (Or.inl (sv_mem 488 (by decide +kernel) rfl)) kw_X4_holds.1 kw_X4_holds.2.1 kw_X4_holds.2.2 kd_X4_holds rfl (by decide) (by decide +kernel)⟩, List.forall_mem_cons.mpr ⟨⟨fun _ => sv_COv_of (c_X3_fillUpTo l) sv_clok_all (sv_mem 489 (by decide +kernel) rfl) kw_X3_fillUpTo.1 kw_X3_fillUpTo.2.1 kw_X3_fillUpTo.2.2.1 kw_X3_fillUpTo.2.2.2 kd_X3_fillUpTo rfl (by decide) (by decide +kernel) rfl (by decide), fun h => absurd h (by decide)⟩, fun _ h => absurd h List.not_mem_nil⟩⟩⟩⟩⟩⟩
theorem kw_X4_place : Cond.instanceMethod yX4_place ∈ sv_tb ∧ Cond.selects yX4_place.cls yX4_place yX4_place ∈ sv_tb ∧ Cond.initialized yX4_place.cls ∈ sv_tb ∧ Cond.code yX4_place cX4_place 4 (some .int) ∈ sv_tb := ⟨sv_mem 475 (by decide +kernel) rfl, sv_mem 476 (by decide +kernel) rfl, sv_mem 51 (by decide +kernel) rfl, sv_mem 477 (by decide +kernel) rfl⟩
theorem kd_X4_place : yX4_place.cls ≠ "java/lang/invoke/MethodHandle" ∧ yX4_place.cls ≠ "java/lang/invoke/VarHandle" ∧ (parseMethodDescriptor yX4_place.desc).map (fun d => d.parameters.length) = some 3 := by decide +kernel
def F_X4_place_0 (Wk : sv_K) (Kr : Option sv_AV → sv_S → Prop) (t : Int32) (p : Int32) (order : Int32) (σ : sv_S) : Prop := (∃ d1 : dD, (RP d1 σ) ∧ ((isN (dT d1) t → (∃ d2 : dD, (RP d2 σ) ∧ ((isN (dP d2) p → (∃ d3 : dD, (RP d3 σ) ∧ ((isN (fct (dT d3)) order → (vp_in p 10 ∧ (((((sv_gA σ 17 0 p.toNatClampNeg) >>> (t &&& 31)) &&& 1 = 1 → (∃ d4 : dD, ∃ n5 : Nat, ∃ o6 : Nat, (RP d4 σ ∧ RQ d4 σ ∧ (n5 ≤ dP d4 ∧ p = nI n5 - 1) ∧ (o6 < fct (dT d4) ∧ order = nI o6)) ∧ (∀ v7 : Int32, ∀ σ8 : sv_S, sq [3, 29, 30] σ σ8 ∧ v7 = stkN d4 o6 n5 ∧ (∀ q, shl d4 (dL d4) (ordX (dT d4) o6) n5 = some q → UI d4 q.1 σ8 ∧ sv_gA σ8 3 0 5 = nI q.2) → ((v7 = (-9 : Int32) → (vp_in t 5 ∧ Kr (some (.inl (sv_gA σ8 30 0 t.toNatClampNeg))) σ8)) ∧ (¬ v7 = (-9 : Int32) → Kr (some (.inl (-9 : Int32))) σ8))))) ∧ (¬ ((sv_gA σ 17 0 p.toNatClampNeg) >>> (t &&& 31)) &&& 1 = 1 → Kr (some (.inl (-9 : Int32))) σ))))) ∧ (¬ isN (fct (dT d3)) order → Kr (some (.inl (-2 : Int32))) σ)))) ∧ (¬ isN (dP d2) p → Kr (some (.inl (-1 : Int32))) σ)))) ∧ (¬ isN (dT d1) t → Kr (some (.inl (-1 : Int32))) σ)))
set_option maxRecDepth 100000 in
theorem bk_X4_place_0 (Wk : sv_K) (Kr : Option sv_AV → sv_S → Prop) (t : Int32) (p : Int32) (order : Int32) (σ : sv_S) (h : F_X4_place_0 Wk Kr t p order σ) : sv_vc tb_X4_place T_X4_place sv_all (some .int) Kr [] Wk 500 0 [some (.inr (.inr (4, 0))), some (.inl t), some (.inl p), some (.inl order)] [] σ := (match h with | ⟨d1, z12p, z12a, z12b⟩ => ⟨d1, z12p, fun z12y => br_f (by decide) ((match (z12a z12y) with | ⟨d2, z11p, z11a, z11b⟩ => ⟨d2, z11p, fun z11y => sb_nt (by decide) ((match (z11a z11y) with | ⟨d3, z10p, z10a, z10b⟩ => ⟨d3, z10p, fun z10y => sb_nt (by decide) (⟨((z10a z10y)).1, (match (((z10a z10y)).2) with | ⟨z9a, z9b⟩ => ⟨fun z9y => sb_nt (by decide) ((z9a z9y)), fun z9y => sb_nf (by decide) ((z9b z9y))⟩)⟩), fun z10y => sb_nf (by decide) ((z10b z10y))⟩)), fun z11y => sb_nf (by decide) ((z11b z11y))⟩)), fun z12y => br_t (by decide) ((z12b z12y))⟩)
set_option maxRecDepth 100000 in
theorem m_X4_place (l : Launch) (hb : ∀ (Wk : sv_K) (Kr : Option sv_AV → sv_S → Prop), (∀ (t : Int32) (p : Int32) (order : Int32) (σ : sv_S), F_X4_place_0 Wk Kr t p order σ → Wk 0 [some (.inr (.inr (4, 0))), some (.inl t), some (.inl p), some (.inl order)] [] σ) → (∀ (t : Int32) (p : Int32) (order : Int32) (σ : sv_S), (∃ c : Nat, ∃ d : dD, (CI c d σ ∧ c < 900000) ∧ (∀ v : Int32, ∀ σ2 : sv_S, v = A_place d t p order ∧ CI (c + 6) d σ2 ∧ sq xg σ σ2 → Kr (some (.inl v)) σ2)) → Wk 0 [some (.inr (.inr (4, 0))), some (.inl t), some (.inl p), some (.inl order)] [] σ)) : sv_C l yX4_place cX4_place 4 (some .int) sv_all 4 92 sp_X4_place := by
  refine sv_meth sv_clok_all tb_X4_place T_X4_place (by decide) tbk_X4_place (Tok_X4_place l) ?_
  intro Wk Kr hc av σ hsp
  have hB := hb Wk Kr (fun t p order σ h => hc [] 500 0 _ _ _ (bk_X4_place_0 Wk Kr t p order σ h))
  unfold sp_X4_place at hsp
  split at hsp
  · exact ⟨⟨by simp, by simp [sv_cat]⟩, hB _ _ _ _ hsp⟩
  · exact hsp.elim
theorem stkN_some {d : dD} {o n : Nat} {q : (Nat → Option Nat) × Nat} (h : shl d (dL d) (ordX (dT d) o) n = some q) : stkN d o n = -9 := by
  unfold stkN
  rw [if_neg]
  intro hf
  have h1 := frs_yes _ _ hf
  unfold stkP at h1
  have h2 : shl d (dL d) (ordX (dT d) o) (frs (stkP d (dL d) o) n + 1) = none := Option.isNone_iff_eq_none.mp h1
  have h3 := shl_none h2 n (by unfold stkP at hf ⊢; omega)
  rw [h] at h3
  cases h3
theorem stkN_none {d : dD} {o n : Nat} (hn : n < 2 ^ 31) (h : shl d (dL d) (ordX (dT d) o) n = none) : stkN d o n ≠ -9 := by
  unfold stkN
  have hlt : frs (stkP d (dL d) o) n < n := by
    rcases Nat.lt_or_ge (frs (stkP d (dL d) o) n) n with g | g
    · exact g
    · have hno := frs_no (stkP d (dL d) o) n
      have hle := frs_le (stkP d (dL d) o) n
      cases n with
      | zero => cases h
      | succ m =>
        have := hno m (by omega)
        unfold stkP at this
        rw [h] at this
        cases this
  rw [if_pos hlt]
  exact m9_ne (by omega)
set_option maxHeartbeats 4000000 in
set_option maxRecDepth 100000 in
theorem c_X4_place (l : Launch) : sv_C l yX4_place cX4_place 4 (some .int) sv_all 4 92 sp_X4_place := by
  refine m_X4_place l ?_
  intro Wk Kr e0 t p order σ ⟨c, d, ⟨hC, hc⟩, h⟩
  have hP := hC.1.1.1
  have hT := hC.1.1.2.1
  have bad : ¬ (isN (dT d) t ∧ isN (dP d) p) → Kr (some (.inl (-1 : Int32))) σ := fun hb => h _ _ ⟨(ch_f hb _ _).symm, CI_mono hC, sq_rf _ _⟩
  apply e0
  refine ⟨d, hC.1, fun ht => ⟨d, hC.1, fun hp => ⟨d, hC.1, fun ho => ?_, fun ho => h _ _ ⟨?_, CI_mono hC, sq_rf _ _⟩⟩, fun hp => bad (fun y => hp y.2)⟩, fun ht => bad (fun y => ht y.1)⟩
  · have g : isN (dT d) t ∧ isN (dP d) p := ⟨ht, hp⟩
    have g2 := ho
    obtain ⟨k, hk, rfl⟩ := ht
    obtain ⟨q, hq, rfl⟩ := hp
    obtain ⟨o, ho, rfl⟩ := ho
    have hol := (fct_le (dT d) (by omega)).1
    rw [nI_clamp (by omega : q < 2 ^ 31), nI_clamp (by omega : k < 2 ^ 31), hC.2.1.2 q hq, bit_sh _ (dL_lt hC.1.1 hC.2.1.1 hq) k (by omega)]
    refine ⟨pk_in q 10 (by omega), fun hb => ⟨d, q + 1, o, ⟨hC.1, hC.2.1, ⟨by omega, (nI_pred q).symm⟩, ho, rfl⟩, fun v7 σ8 ⟨hs, h7, hU⟩ => ⟨fun z => ⟨pk_in k 5 (by omega), h _ _ ⟨?_, CI_fr hC hs, sq_mono hs (by decide)⟩⟩, fun z => h _ _ ⟨?_, CI_fr hC hs, sq_mono hs (by decide)⟩⟩⟩, fun hb => h _ _ ⟨?_, CI_mono hC, sq_rf _ _⟩⟩
    · unfold A_place
      rw [ch_t g, ch_t g2, xn_nI (by omega), xn_nI (by omega), xn_nI (by omega), ch_t hb]
      unfold shp
      cases hsh : shl d (dL d) (ordX (dT d) o) (q + 1) with
      | none => exact absurd (h7.symm.trans z) (stkN_none (by omega) hsh)
      | some r =>
        obtain ⟨⟨u, -, -, -, hu4, -⟩, -⟩ := hU r hsh
        have hin := (shl_in hC.1.1 hC.2.1.1 ho (show q + 1 ≤ dP d by omega) hsh k).mpr (by
          have e : prv (dL d) (q + 1) = dL d q := by
            unfold prv
            rw [if_neg (by omega), Nat.add_sub_cancel]
          rw [e]
          exact hb)
        cases hr : r.1 k with
        | none => exact absurd hr hin
        | some a =>
          show _ = fpI (r.1 k)
          rw [hr]
          exact (hu4 k hk a hr).1
    · unfold A_place
      rw [ch_t g, ch_t g2, xn_nI (by omega), xn_nI (by omega), xn_nI (by omega), ch_t hb]
      unfold shp
      cases hsh : shl d (dL d) (ordX (dT d) o) (q + 1) with
      | none => rfl
      | some r => exact absurd (h7.trans (stkN_some hsh)) z
    · unfold A_place
      rw [ch_t g, ch_t g2, xn_nI (by omega), xn_nI (by omega), ch_f hb]
  · unfold A_place
    rw [ch_t (show isN (dT d) t ∧ isN (dP d) p from ⟨ht, hp⟩), ch_f ho]
-- ==== X4_stuck
def sp_X4_stuck : sv_P := fun av σ K => match av with
  | [.inr (.inr (4, 0)), .inl order] => ∃ c : Nat, ∃ d : dD, (CI c d σ ∧ c < 900000) ∧ (∀ v : Int32, ∀ σ2 : sv_S, v = A_stuck d order ∧ CI (c + 6) d σ2 ∧ sq xg σ σ2 → K (some (.inl v)) σ2)
  | _ => False
def tb_X4_stuck : List (Nat × (Instr × Nat)) := [(0, (.aload_n 0, 1)), (1, (.iload_n 1, 1)), (2, (.invokevirtual 164, 3)), (5, (.ifCond .ne 6, 3)), (8, (.bipush (-2), 2)), (10, (.ireturn, 1)), (11, (.aload_n 0, 1)), (12, (.getfield 37, 3)), (15, (.aload_n 0, 1)), (16, (.getfield 10, 3)), (19, (.getfield 45, 3)), (22, (.iconst 1, 1)), (23, (.isub, 1)), (24, (.iload_n 1, 1)), (25, (.invokevirtual 170, 3)), (28, (.ireturn, 1))]
set_option maxRecDepth 100000 in
theorem tbk_X4_stuck : sv_tbok cX4_stuck tb_X4_stuck = true := by decide +kernel
def cal_X4_stuck : List (Nat × (Nat × Nat × sv_P)) := [(164, (2, 4, sp_X4_isOrder)), (170, (3, 3, sp_X3_fillUpTo))]
def T_X4_stuck : sv_T := (flX4, sfX4, kcX4, klX4, cal_X4_stuck)
set_option maxRecDepth 100000 in
theorem Tok_X4_stuck (l : Launch) : sv_Tok l RX4 sv_all 4 92 T_X4_stuck := ⟨flokX4, sfokX4, kcokX4, klokX4, List.forall_mem_cons.mpr ⟨⟨fun _ => sv_COv_of (c_X4_isOrder l) sv_clok_all (sv_mem 478 (by decide +kernel) rfl) kw_X4_isOrder.1 kw_X4_isOrder.2.1 kw_X4_isOrder.2.2.1 kw_X4_isOrder.2.2.2 kd_X4_isOrder rfl (by decide) (by decide +kernel) rfl (by decide), fun h => absurd h (by decide)⟩, List.forall_mem_cons.mpr ⟨⟨fun _ => sv_COv_of (c_X3_fillUpTo l) sv_clok_all (sv_mem 489 (by decide +kernel) rfl) kw_X3_fillUpTo.1 kw_X3_fillUpTo.2.1 kw_X3_fillUpTo.2.2.1 kw_X3_fillUpTo.2.2.2 kd_X3_fillUpTo rfl (by decide) (by decide +kernel) rfl (by decide), fun h => absurd h (by decide)⟩, fun _ h => absurd h List.not_mem_nil⟩⟩⟩
theorem kw_X4_stuck : Cond.instanceMethod yX4_stuck ∈ sv_tb ∧ Cond.selects yX4_stuck.cls yX4_stuck yX4_stuck ∈ sv_tb ∧ Cond.initialized yX4_stuck.cls ∈ sv_tb ∧ Cond.code yX4_stuck cX4_stuck 2 (some .int) ∈ sv_tb := ⟨sv_mem 518 (by decide +kernel) rfl, sv_mem 519 (by decide +kernel) rfl, sv_mem 51 (by decide +kernel) rfl, sv_mem 520 (by decide +kernel) rfl⟩
theorem kd_X4_stuck : yX4_stuck.cls ≠ "java/lang/invoke/MethodHandle" ∧ yX4_stuck.cls ≠ "java/lang/invoke/VarHandle" ∧ (parseMethodDescriptor yX4_stuck.desc).map (fun d => d.parameters.length) = some 1 := by decide +kernel
def F_X4_stuck_0 (Wk : sv_K) (Kr : Option sv_AV → sv_S → Prop) (order : Int32) (σ : sv_S) : Prop := (∃ d1 : dD, (RP d1 σ) ∧ ((isN (fct (dT d1)) order → (∃ d2 : dD, ∃ n3 : Nat, ∃ o4 : Nat, (RP d2 σ ∧ RQ d2 σ ∧ (n3 ≤ dP d2 ∧ ((sv_gA σ 2 0 0) - (1 : Int32)) = nI n3 - 1) ∧ (o4 < fct (dT d2) ∧ order = nI o4)) ∧ (∀ v5 : Int32, ∀ σ6 : sv_S, sq [3, 29, 30] σ σ6 ∧ v5 = stkN d2 o4 n3 ∧ (∀ q, shl d2 (dL d2) (ordX (dT d2) o4) n3 = some q → UI d2 q.1 σ6 ∧ sv_gA σ6 3 0 5 = nI q.2) → Kr (some (.inl v5)) σ6))) ∧ (¬ isN (fct (dT d1)) order → Kr (some (.inl (-2 : Int32))) σ)))
set_option maxRecDepth 100000 in
theorem bk_X4_stuck_0 (Wk : sv_K) (Kr : Option sv_AV → sv_S → Prop) (order : Int32) (σ : sv_S) (h : F_X4_stuck_0 Wk Kr order σ) : sv_vc tb_X4_stuck T_X4_stuck sv_all (some .int) Kr [] Wk 500 0 [some (.inr (.inr (4, 0))), some (.inl order)] [] σ := (match h with | ⟨d1, z7p, z7a, z7b⟩ => ⟨d1, z7p, fun z7y => sb_nt (by decide) ((z7a z7y)), fun z7y => sb_nf (by decide) ((z7b z7y))⟩)
set_option maxRecDepth 100000 in
theorem m_X4_stuck (l : Launch) (hb : ∀ (Wk : sv_K) (Kr : Option sv_AV → sv_S → Prop), (∀ (order : Int32) (σ : sv_S), F_X4_stuck_0 Wk Kr order σ → Wk 0 [some (.inr (.inr (4, 0))), some (.inl order)] [] σ) → (∀ (order : Int32) (σ : sv_S), (∃ c : Nat, ∃ d : dD, (CI c d σ ∧ c < 900000) ∧ (∀ v : Int32, ∀ σ2 : sv_S, v = A_stuck d order ∧ CI (c + 6) d σ2 ∧ sq xg σ σ2 → Kr (some (.inl v)) σ2)) → Wk 0 [some (.inr (.inr (4, 0))), some (.inl order)] [] σ)) : sv_C l yX4_stuck cX4_stuck 2 (some .int) sv_all 4 92 sp_X4_stuck := by
  refine sv_meth sv_clok_all tb_X4_stuck T_X4_stuck (by decide) tbk_X4_stuck (Tok_X4_stuck l) ?_
  intro Wk Kr hc av σ hsp
  have hB := hb Wk Kr (fun order σ h => hc [] 500 0 _ _ _ (bk_X4_stuck_0 Wk Kr order σ h))
  unfold sp_X4_stuck at hsp
  split at hsp
  · exact ⟨⟨by simp, by simp [sv_cat]⟩, hB _ _ hsp⟩
  · exact hsp.elim
set_option maxHeartbeats 4000000 in
set_option maxRecDepth 100000 in
theorem c_X4_stuck (l : Launch) : sv_C l yX4_stuck cX4_stuck 2 (some .int) sv_all 4 92 sp_X4_stuck := by
  refine m_X4_stuck l ?_
  intro Wk Kr e0 order σ ⟨c, d, ⟨hC, hc⟩, h⟩
  have hT := hC.1.1.2.1
  apply e0
  unfold F_X4_stuck_0
  rw [hC.1.2.1]
  refine ⟨d, hC.1, fun ho => ?_, fun ho => h _ _ ⟨(ch_f ho _ _).symm, CI_mono hC, sq_rf _ _⟩⟩
  have g := ho
  obtain ⟨o, ho, rfl⟩ := ho
  have hol := (fct_le (dT d) (by omega)).1
  refine ⟨d, dP d, o, ⟨hC.1, hC.2.1, ⟨Nat.le_refl _, rfl⟩, ho, rfl⟩, fun v5 σ6 ⟨hs, h5, hU⟩ => h _ _ ⟨?_, CI_fr hC hs, sq_mono hs (by decide)⟩⟩
  unfold A_stuck
  rw [ch_t g, xn_nI (by omega)]
  exact h5
-- ==== X4_order
def sp_X4_order : sv_P := fun av σ K => match av with
  | [.inr (.inr (4, 0))] => ∃ c : Nat, ∃ d : dD, (CI c d σ ∧ c < 900000) ∧ (∀ v : Int32, ∀ σ2 : sv_S, v = A_order d  ∧ CI (c + 6) d σ2 ∧ sq xg σ σ2 → K (some (.inl v)) σ2)
  | _ => False
def tb_X4_order : List (Nat × (Instr × Nat)) := [(0, (.aload_n 0, 1)), (1, (.getfield 10, 3)), (4, (.invokevirtual 176, 3)), (7, (.istore_n 1, 1)), (8, (.iconst 0, 1)), (9, (.istore_n 2, 1)), (10, (.iload_n 2, 1)), (11, (.iload_n 1, 1)), (12, (.if_icmp .ge 33, 3)), (15, (.aload_n 0, 1)), (16, (.getfield 37, 3)), (19, (.aload_n 0, 1)), (20, (.getfield 10, 3)), (23, (.getfield 45, 3)), (26, (.iconst 1, 1)), (27, (.isub, 1)), (28, (.iload_n 2, 1)), (29, (.invokevirtual 170, 3)), (32, (.bipush (-9), 2)), (34, (.if_icmp .ne 5, 3)), (37, (.iload_n 2, 1)), (38, (.ireturn, 1)), (39, (.iinc 2 1, 3)), (42, (.goto (-32), 3)), (45, (.bipush (-9), 2)), (47, (.ireturn, 1))]
set_option maxRecDepth 100000 in
theorem tbk_X4_order : sv_tbok cX4_order tb_X4_order = true := by decide +kernel
def cal_X4_order : List (Nat × (Nat × Nat × sv_P)) := [(176, (1, 2, sp_X2_countOrders)), (170, (3, 3, sp_X3_fillUpTo))]
def T_X4_order : sv_T := (flX4, sfX4, kcX4, klX4, cal_X4_order)
set_option maxRecDepth 100000 in
theorem Tok_X4_order (l : Launch) : sv_Tok l RX4 sv_all 4 92 T_X4_order := ⟨flokX4, sfokX4, kcokX4, klokX4, List.forall_mem_cons.mpr ⟨⟨fun _ => sv_COv_of (c_X2_countOrders l) sv_clok_all (sv_mem 482 (by decide +kernel) rfl) kw_X2_countOrders.1 kw_X2_countOrders.2.1 kw_X2_countOrders.2.2.1 kw_X2_countOrders.2.2.2 kd_X2_countOrders rfl (by decide) (by decide +kernel) rfl (by decide), fun h => absurd h (by decide)⟩, List.forall_mem_cons.mpr ⟨⟨fun _ => sv_COv_of (c_X3_fillUpTo l) sv_clok_all (sv_mem 489 (by decide +kernel) rfl) kw_X3_fillUpTo.1 kw_X3_fillUpTo.2.1 kw_X3_fillUpTo.2.2.1 kw_X3_fillUpTo.2.2.2 kd_X3_fillUpTo rfl (by decide) (by decide +kernel) rfl (by decide), fun h => absurd h (by decide)⟩, fun _ h => absurd h List.not_mem_nil⟩⟩⟩
theorem kw_X4_order : Cond.instanceMethod yX4_order ∈ sv_tb ∧ Cond.selects yX4_order.cls yX4_order yX4_order ∈ sv_tb ∧ Cond.initialized yX4_order.cls ∈ sv_tb ∧ Cond.code yX4_order cX4_order 3 (some .int) ∈ sv_tb := ⟨sv_mem 522 (by decide +kernel) rfl, sv_mem 523 (by decide +kernel) rfl, sv_mem 51 (by decide +kernel) rfl, sv_mem 524 (by decide +kernel) rfl⟩
theorem kd_X4_order : yX4_order.cls ≠ "java/lang/invoke/MethodHandle" ∧ yX4_order.cls ≠ "java/lang/invoke/VarHandle" ∧ (parseMethodDescriptor yX4_order.desc).map (fun d => d.parameters.length) = some 0 := by decide +kernel
def F_X4_order_0 (Wk : sv_K) (Kr : Option sv_AV → sv_S → Prop)  (σ : sv_S) : Prop := (∃ d1 : dD, (RP d1 σ) ∧ (∀ v2 : Int32, v2 = nI (fct (dT d1)) → Wk 10 [some (.inr (.inr (4, 0))), some (.inl v2), some (.inl (0 : Int32))] [] σ))
set_option maxRecDepth 100000 in
theorem bk_X4_order_0 (Wk : sv_K) (Kr : Option sv_AV → sv_S → Prop)  (σ : sv_S) (h : F_X4_order_0 Wk Kr  σ) : sv_vc tb_X4_order T_X4_order sv_all (some .int) Kr [(10, [true, true, true])] Wk 500 0 [some (.inr (.inr (4, 0))), none, none] [] σ := h
def F_X4_order_10 (Wk : sv_K) (Kr : Option sv_AV → sv_S → Prop) (x1 : Int32) (x2 : Int32) (σ : sv_S) : Prop := ((x1 ≤ x2 → Kr (some (.inl (-9 : Int32))) σ) ∧ (¬ x1 ≤ x2 → (∃ d1 : dD, ∃ n2 : Nat, ∃ o3 : Nat, (RP d1 σ ∧ RQ d1 σ ∧ (n2 ≤ dP d1 ∧ ((sv_gA σ 2 0 0) - (1 : Int32)) = nI n2 - 1) ∧ (o3 < fct (dT d1) ∧ x2 = nI o3)) ∧ (∀ v4 : Int32, ∀ σ5 : sv_S, sq [3, 29, 30] σ σ5 ∧ v4 = stkN d1 o3 n2 ∧ (∀ q, shl d1 (dL d1) (ordX (dT d1) o3) n2 = some q → UI d1 q.1 σ5 ∧ sv_gA σ5 3 0 5 = nI q.2) → ((¬ v4 = (-9 : Int32) → Wk 10 [some (.inr (.inr (4, 0))), some (.inl x1), some (.inl (x2 + (1 : Int32)))] [] σ5) ∧ (v4 = (-9 : Int32) → Kr (some (.inl x2)) σ5))))))
set_option maxRecDepth 100000 in
theorem bk_X4_order_10 (Wk : sv_K) (Kr : Option sv_AV → sv_S → Prop) (x1 : Int32) (x2 : Int32) (σ : sv_S) (h : F_X4_order_10 Wk Kr x1 x2 σ) : sv_vc tb_X4_order T_X4_order sv_all (some .int) Kr [(10, [true, true, true])] Wk 500 10 [some (.inr (.inr (4, 0))), some (.inl x1), some (.inl x2)] [] σ := h
set_option maxRecDepth 100000 in
theorem m_X4_order (l : Launch) (hb : ∀ (Wk : sv_K) (Kr : Option sv_AV → sv_S → Prop), (∀  (σ : sv_S), F_X4_order_0 Wk Kr  σ → Wk 0 [some (.inr (.inr (4, 0))), none, none] [] σ) → (∀ (x1 : Int32) (x2 : Int32) (σ : sv_S), F_X4_order_10 Wk Kr x1 x2 σ → Wk 10 [some (.inr (.inr (4, 0))), some (.inl x1), some (.inl x2)] [] σ) → (∀  (σ : sv_S), (∃ c : Nat, ∃ d : dD, (CI c d σ ∧ c < 900000) ∧ (∀ v : Int32, ∀ σ2 : sv_S, v = A_order d  ∧ CI (c + 6) d σ2 ∧ sq xg σ σ2 → Kr (some (.inl v)) σ2)) → Wk 0 [some (.inr (.inr (4, 0))), none, none] [] σ)) : sv_C l yX4_order cX4_order 3 (some .int) sv_all 4 92 sp_X4_order := by
  refine sv_meth sv_clok_all tb_X4_order T_X4_order (by decide) tbk_X4_order (Tok_X4_order l) ?_
  intro Wk Kr hc av σ hsp
  have hB := hb Wk Kr (fun  σ h => hc [(10, [true, true, true])] 500 0 _ _ _ (bk_X4_order_0 Wk Kr  σ h)) (fun x1 x2 σ h => hc [(10, [true, true, true])] 500 10 _ _ _ (bk_X4_order_10 Wk Kr x1 x2 σ h))
  unfold sp_X4_order at hsp
  split at hsp
  · exact ⟨⟨by simp, by simp [sv_cat]⟩, hB  _ hsp⟩
  · exact hsp.elim
set_option maxHeartbeats 4000000 in
set_option maxRecDepth 100000 in
theorem c_X4_order (l : Launch) : sv_C l yX4_order cX4_order 3 (some .int) sv_all 4 92 sp_X4_order := by
  refine m_X4_order l ?_
  intro Wk Kr e0 e10 σ ⟨c, d, ⟨hC, hc⟩, h⟩
  have hP := hC.1.1.1
  have hT := hC.1.1.2.1
  have hol := fct_le (dT d) (by omega)
  have key : ∀ m n σ', n + m = fct (dT d) → sq [3, 29, 30] σ σ' → (∀ j, j < n → stkB d j = false) → Wk 10 [some (.inr (.inr (4, 0))), some (.inl (nI (fct (dT d)))), some (.inl (nI n))] [] σ' := by
    intro m
    induction m with
    | zero =>
      intro n σ' hn hs hno
      apply e10
      refine pk_le (fct (dT d)) n (fun _ => h _ _ ⟨?_, CI_fr hC hs, sq_mono hs (by decide)⟩) (fun z => by omega)
      unfold A_order
      rw [ch_f]
      intro hlt
      have h1 := frs_yes _ _ hlt
      rw [hno _ (by omega)] at h1
      cases h1
    | succ m ih =>
      intro n σ' hn hs hno
      have hR' := RP_fr hC.1 hs
      apply e10
      unfold F_X4_order_10
      rw [hR'.2.1, nI_1]
      refine pk_le (fct (dT d)) n (fun z => by omega) (fun _ => ⟨d, dP d, n, ⟨hR', RQ_fr hC.2.1 hs, ⟨Nat.le_refl _, rfl⟩, by omega, rfl⟩, fun v4 σ5 ⟨hs5, h4, hU⟩ => ⟨fun z => ih (n + 1) σ5 (by omega) (sq_tr hs hs5) (fun j hj => ?_), fun z => h _ _ ⟨?_, CI_fr hC (sq_tr hs hs5), sq_mono (sq_tr hs hs5) (by decide)⟩⟩⟩)
      · by_cases e : j = n
        · subst e
          unfold stkB
          cases hsh : shl d (dL d) (ordX (dT d) j) (dP d) with
          | none => rfl
          | some q => exact absurd (h4.trans (stkN_some hsh)) z
        · exact hno j (by omega)
      · have e : frs (stkB d) (fct (dT d)) = n := frs_eq (by omega) (by
          unfold stkB
          cases hsh : shl d (dL d) (ordX (dT d) n) (dP d) with
          | none => exact absurd (h4.symm.trans z) (stkN_none (by omega) hsh)
          | some q => rfl) hno
        unfold A_order
        rw [e, ch_t (by omega)]
  apply e0
  refine ⟨d, hC.1, fun v2 h2 => ?_⟩
  rw [h2]
  exact key (fct (dT d)) 0 σ (by omega) (sq_rf _ _) (fun j hj => by omega)
-- ==== X4_reach
def sp_X4_reach : sv_P := fun av σ K => match av with
  | [.inr (.inr (4, 0)), .inl order] => ∃ c : Nat, ∃ d : dD, (CI c d σ ∧ c < 900000) ∧ (∀ v : Int32, ∀ σ2 : sv_S, v = A_reach d order ∧ CI (c + 6) d σ2 ∧ sq xg σ σ2 → K (some (.inl v)) σ2)
  | _ => False
def tb_X4_reach : List (Nat × (Instr × Nat)) := [(0, (.aload_n 0, 1)), (1, (.iload_n 1, 1)), (2, (.invokevirtual 164, 3)), (5, (.ifCond .ne 6, 3)), (8, (.bipush (-2), 2)), (10, (.ireturn, 1)), (11, (.aload_n 0, 1)), (12, (.getfield 37, 3)), (15, (.aload_n 0, 1)), (16, (.getfield 10, 3)), (19, (.getfield 45, 3)), (22, (.iconst 1, 1)), (23, (.isub, 1)), (24, (.iload_n 1, 1)), (25, (.invokevirtual 170, 3)), (28, (.bipush (-9), 2)), (30, (.if_icmp .eq 6, 3)), (33, (.bipush (-9), 2)), (35, (.ireturn, 1)), (36, (.aload_n 0, 1)), (37, (.getfield 37, 3)), (40, (.getfield 179, 3)), (43, (.ireturn, 1))]
set_option maxRecDepth 100000 in
theorem tbk_X4_reach : sv_tbok cX4_reach tb_X4_reach = true := by decide +kernel
def cal_X4_reach : List (Nat × (Nat × Nat × sv_P)) := [(164, (2, 4, sp_X4_isOrder)), (170, (3, 3, sp_X3_fillUpTo))]
def T_X4_reach : sv_T := (flX4, sfX4, kcX4, klX4, cal_X4_reach)
set_option maxRecDepth 100000 in
theorem Tok_X4_reach (l : Launch) : sv_Tok l RX4 sv_all 4 92 T_X4_reach := ⟨flokX4, sfokX4, kcokX4, klokX4, List.forall_mem_cons.mpr ⟨⟨fun _ => sv_COv_of (c_X4_isOrder l) sv_clok_all (sv_mem 478 (by decide +kernel) rfl) kw_X4_isOrder.1 kw_X4_isOrder.2.1 kw_X4_isOrder.2.2.1 kw_X4_isOrder.2.2.2 kd_X4_isOrder rfl (by decide) (by decide +kernel) rfl (by decide), fun h => absurd h (by decide)⟩, List.forall_mem_cons.mpr ⟨⟨fun _ => sv_COv_of (c_X3_fillUpTo l) sv_clok_all (sv_mem 489 (by decide +kernel) rfl) kw_X3_fillUpTo.1 kw_X3_fillUpTo.2.1 kw_X3_fillUpTo.2.2.1 kw_X3_fillUpTo.2.2.2 kd_X3_fillUpTo rfl (by decide) (by decide +kernel) rfl (by decide), fun h => absurd h (by decide)⟩, fun _ h => absurd h List.not_mem_nil⟩⟩⟩
theorem kw_X4_reach : Cond.instanceMethod yX4_reach ∈ sv_tb ∧ Cond.selects yX4_reach.cls yX4_reach yX4_reach ∈ sv_tb ∧ Cond.initialized yX4_reach.cls ∈ sv_tb ∧ Cond.code yX4_reach cX4_reach 2 (some .int) ∈ sv_tb := ⟨sv_mem 526 (by decide +kernel) rfl, sv_mem 527 (by decide +kernel) rfl, sv_mem 51 (by decide +kernel) rfl, sv_mem 528 (by decide +kernel) rfl⟩
theorem kd_X4_reach : yX4_reach.cls ≠ "java/lang/invoke/MethodHandle" ∧ yX4_reach.cls ≠ "java/lang/invoke/VarHandle" ∧ (parseMethodDescriptor yX4_reach.desc).map (fun d => d.parameters.length) = some 1 := by decide +kernel
def F_X4_reach_0 (Wk : sv_K) (Kr : Option sv_AV → sv_S → Prop) (order : Int32) (σ : sv_S) : Prop := (∃ d1 : dD, (RP d1 σ) ∧ ((isN (fct (dT d1)) order → (∃ d2 : dD, ∃ n3 : Nat, ∃ o4 : Nat, (RP d2 σ ∧ RQ d2 σ ∧ (n3 ≤ dP d2 ∧ ((sv_gA σ 2 0 0) - (1 : Int32)) = nI n3 - 1) ∧ (o4 < fct (dT d2) ∧ order = nI o4)) ∧ (∀ v5 : Int32, ∀ σ6 : sv_S, sq [3, 29, 30] σ σ6 ∧ v5 = stkN d2 o4 n3 ∧ (∀ q, shl d2 (dL d2) (ordX (dT d2) o4) n3 = some q → UI d2 q.1 σ6 ∧ sv_gA σ6 3 0 5 = nI q.2) → ((v5 = (-9 : Int32) → Kr (some (.inl (sv_gA σ6 3 0 5))) σ6) ∧ (¬ v5 = (-9 : Int32) → Kr (some (.inl (-9 : Int32))) σ6))))) ∧ (¬ isN (fct (dT d1)) order → Kr (some (.inl (-2 : Int32))) σ)))
set_option maxRecDepth 100000 in
theorem bk_X4_reach_0 (Wk : sv_K) (Kr : Option sv_AV → sv_S → Prop) (order : Int32) (σ : sv_S) (h : F_X4_reach_0 Wk Kr order σ) : sv_vc tb_X4_reach T_X4_reach sv_all (some .int) Kr [] Wk 500 0 [some (.inr (.inr (4, 0))), some (.inl order)] [] σ := (match h with | ⟨d1, z7p, z7a, z7b⟩ => ⟨d1, z7p, fun z7y => sb_nt (by decide) ((z7a z7y)), fun z7y => sb_nf (by decide) ((z7b z7y))⟩)
set_option maxRecDepth 100000 in
theorem m_X4_reach (l : Launch) (hb : ∀ (Wk : sv_K) (Kr : Option sv_AV → sv_S → Prop), (∀ (order : Int32) (σ : sv_S), F_X4_reach_0 Wk Kr order σ → Wk 0 [some (.inr (.inr (4, 0))), some (.inl order)] [] σ) → (∀ (order : Int32) (σ : sv_S), (∃ c : Nat, ∃ d : dD, (CI c d σ ∧ c < 900000) ∧ (∀ v : Int32, ∀ σ2 : sv_S, v = A_reach d order ∧ CI (c + 6) d σ2 ∧ sq xg σ σ2 → Kr (some (.inl v)) σ2)) → Wk 0 [some (.inr (.inr (4, 0))), some (.inl order)] [] σ)) : sv_C l yX4_reach cX4_reach 2 (some .int) sv_all 4 92 sp_X4_reach := by
  refine sv_meth sv_clok_all tb_X4_reach T_X4_reach (by decide) tbk_X4_reach (Tok_X4_reach l) ?_
  intro Wk Kr hc av σ hsp
  have hB := hb Wk Kr (fun order σ h => hc [] 500 0 _ _ _ (bk_X4_reach_0 Wk Kr order σ h))
  unfold sp_X4_reach at hsp
  split at hsp
  · exact ⟨⟨by simp, by simp [sv_cat]⟩, hB _ _ hsp⟩
  · exact hsp.elim
set_option maxHeartbeats 4000000 in
set_option maxRecDepth 100000 in
theorem c_X4_reach (l : Launch) : sv_C l yX4_reach cX4_reach 2 (some .int) sv_all 4 92 sp_X4_reach := by
  refine m_X4_reach l ?_
  intro Wk Kr e0 order σ ⟨c, d, ⟨hC, hc⟩, h⟩
  have hP := hC.1.1.1
  have hT := hC.1.1.2.1
  apply e0
  unfold F_X4_reach_0
  rw [hC.1.2.1]
  refine ⟨d, hC.1, fun ho => ?_, fun ho => h _ _ ⟨(ch_f ho _ _).symm, CI_mono hC, sq_rf _ _⟩⟩
  have g := ho
  obtain ⟨o, ho, rfl⟩ := ho
  have hol := (fct_le (dT d) (by omega)).1
  refine ⟨d, dP d, o, ⟨hC.1, hC.2.1, ⟨Nat.le_refl _, rfl⟩, ho, rfl⟩, fun v5 σ6 ⟨hs, h5, hU⟩ => ⟨fun z => h _ _ ⟨?_, CI_fr hC hs, sq_mono hs (by decide)⟩, fun z => h _ _ ⟨?_, CI_fr hC hs, sq_mono hs (by decide)⟩⟩⟩
  · unfold A_reach
    rw [ch_t g, xn_nI (by omega)]
    unfold rch
    cases hsh : shl d (dL d) (ordX (dT d) o) (dP d) with
    | none => exact absurd (h5.symm.trans z) (stkN_none (by omega) hsh)
    | some q => exact (hU q hsh).2
  · unfold A_reach
    rw [ch_t g, xn_nI (by omega)]
    unfold rch
    cases hsh : shl d (dL d) (ordX (dT d) o) (dP d) with
    | none => rfl
    | some q => exact absurd (h5.trans (stkN_some hsh)) z
