-- ==== X0_chooseFor
def sp_X0_chooseFor : sv_P := fun av σ K => match av with
  | [.inr (.inr (0, 0)), .inl t, .inl p, .inl kind, .inl states] => ∃ d : dD, ∃ e : Nat, ∃ q : Nat, ∃ k : Nat, ∃ R : Nat → Nat, (RP d σ ∧ FT σ ∧ (e < dT d ∧ t = nI e) ∧ (q < dP d ∧ p = nI q) ∧ (k < 2 ∧ kind = nI k) ∧ states = nI (3 ^ dT d) ∧ (∀ j, j < 3 ^ dT d → R j ≤ 1100000000 ∧ sv_gA σ 11 q j = nI (R j))) ∧ (∀ σ2 : sv_S, sq [11] σ σ2 ∧ (∀ i j, i ≠ q → sv_gA σ2 11 i j = sv_gA σ 11 i j) ∧ (∀ j, j < 3 ^ dT d → sv_gA σ2 11 q j = nI (cfr d k q e R j)) → K none σ2)
  | _ => False
def tb_X0_chooseFor : List (Nat × (Instr × Nat)) := [(0, (.aload_n 0, 1)), (1, (.getfield 27, 3)), (4, (.iload_n 2, 1)), (5, (.aaload, 1)), (6, (.astore 5, 2)), (8, (.aload_n 0, 1)), (9, (.getfield 39, 3)), (12, (.iload_n 1, 1)), (13, (.iload_n 2, 1)), (14, (.invokevirtual 122, 3)), (17, (.aload_n 0, 1)), (18, (.getfield 39, 3)), (21, (.getfield 125, 3)), (24, (.iload_n 3, 1)), (25, (.aaload, 1)), (26, (.iload_n 2, 1)), (27, (.iaload, 1)), (28, (.imul, 1)), (29, (.istore 6, 2)), (31, (.iload 6, 2)), (33, (.aload_n 0, 1)), (34, (.getfield 39, 3)), (37, (.getfield 128, 3)), (40, (.iconst 1, 1)), (41, (.iaload, 1)), (42, (.imul, 1)), (43, (.istore 7, 2)), (45, (.iload 6, 2)), (47, (.aload_n 0, 1)), (48, (.getfield 39, 3)), (51, (.getfield 128, 3)), (54, (.iconst 2, 1)), (55, (.iaload, 1)), (56, (.imul, 1)), (57, (.istore 8, 2)), (59, (.aload_n 0, 1)), (60, (.getfield 39, 3)), (63, (.iconst 1, 1)), (64, (.iload_n 1, 1)), (65, (.ishl, 1)), (66, (.invokevirtual 83, 3)), (69, (.istore 9, 2)), (71, (.aload_n 0, 1)), (72, (.getfield 39, 3)), (75, (.getfield 90, 3)), (78, (.iload_n 2, 1)), (79, (.iaload, 1)), (80, (.iload_n 1, 1)), (81, (.invokestatic 47, 3)), (84, (.istore 10, 2)), (86, (.getstatic 107, 3)), (89, (.iconst 1, 1)), (90, (.iload_n 1, 1)), (91, (.ishl, 1)), (92, (.iaload, 1)), (93, (.istore 11, 2)), (95, (.aload_n 0, 1)), (96, (.getfield 21, 3)), (99, (.iload_n 1, 1)), (100, (.aaload, 1)), (101, (.astore 12, 2)), (103, (.iload 4, 2)), (105, (.iconst 3, 1)), (106, (.idiv, 1)), (107, (.istore 13, 2)), (109, (.iconst 0, 1)), (110, (.istore 14, 2)), (112, (.iload 14, 2)), (114, (.iload 13, 2)), (116, (.if_icmp .ge 114, 3)), (119, (.aload 12, 2)), (121, (.iload 14, 2)), (123, (.iaload, 1)), (124, (.istore 15, 2)), (126, (.aload 5, 2)), (128, (.iload 15, 2)), (130, (.iaload, 1)), (131, (.iload 7, 2)), (133, (.iadd, 1)), (134, (.istore 16, 2)), (136, (.aload 5, 2)), (138, (.iload 15, 2)), (140, (.iconst 2, 1)), (141, (.iload 11, 2)), (143, (.imul, 1)), (144, (.iadd, 1)), (145, (.iaload, 1)), (146, (.iload 8, 2)), (148, (.iadd, 1)), (149, (.istore 17, 2)), (151, (.iload 10, 2)), (153, (.ifCond .eq 11, 3)), (156, (.iload 17, 2)), (158, (.iload 9, 2)), (160, (.iadd, 1)), (161, (.goto 14, 3)), (164, (.aload 5, 2)), (166, (.iload 15, 2)), (168, (.iload 11, 2)), (170, (.iadd, 1)), (171, (.iaload, 1)), (172, (.iload 8, 2)), (174, (.iadd, 1)), (175, (.istore 18, 2)), (177, (.aload 5, 2)), (179, (.iload 15, 2)), (181, (.iload 16, 2)), (183, (.iload 18, 2)), (185, (.iload 9, 2)), (187, (.iadd, 1)), (188, (.invokestatic 131, 3)), (191, (.iastore, 1)), (192, (.aload 5, 2)), (194, (.iload 15, 2)), (196, (.iload 11, 2)), (198, (.iadd, 1)), (199, (.iload 16, 2)), (201, (.iload 18, 2)), (203, (.invokestatic 131, 3)), (206, (.iastore, 1)), (207, (.aload 5, 2)), (209, (.iload 15, 2)), (211, (.iconst 2, 1)), (212, (.iload 11, 2)), (214, (.imul, 1)), (215, (.iadd, 1)), (216, (.iload 16, 2)), (218, (.iload 17, 2)), (220, (.invokestatic 131, 3)), (223, (.iastore, 1)), (224, (.iinc 14 1, 3)), (227, (.goto (-115), 3)), (230, (.return_, 1))]
set_option maxRecDepth 100000 in
theorem tbk_X0_chooseFor : sv_tbok cX0_chooseFor tb_X0_chooseFor = true := by decide +kernel
def cal_X0_chooseFor : List (Nat × (Nat × Nat × sv_P)) := [(122, (3, 2, sp_X2_usesOf)), (83, (2, 2, sp_X2_carryOf)), (47, (2, 90, sp_X4_holds)), (131, (2, 90, sp_J9_min_7cf53))]
def T_X0_chooseFor : sv_T := (flX0, sfX0, kcX0, klX0, cal_X0_chooseFor)
set_option maxRecDepth 100000 in
theorem Tok_X0_chooseFor (l : Launch) : sv_Tok l RX0 sv_all 3 65 T_X0_chooseFor := ⟨flokX0, sfokX0, kcokX0, klokX0, List.forall_mem_cons.mpr ⟨⟨fun _ => sv_COv_of (c_X2_usesOf l) sv_clok_all (sv_mem 394 (by decide +kernel) rfl) kw_X2_usesOf.1 kw_X2_usesOf.2.1 kw_X2_usesOf.2.2.1 kw_X2_usesOf.2.2.2 kd_X2_usesOf rfl (by decide) (by decide +kernel) rfl (by decide), fun h => absurd h (by decide)⟩, List.forall_mem_cons.mpr ⟨⟨fun _ => sv_COv_of (c_X2_carryOf l) sv_clok_all (sv_mem 347 (by decide +kernel) rfl) kw_X2_carryOf.1 kw_X2_carryOf.2.1 kw_X2_carryOf.2.2.1 kw_X2_carryOf.2.2.2 kd_X2_carryOf rfl (by decide) (by decide +kernel) rfl (by decide), fun h => absurd h (by decide)⟩, List.forall_mem_cons.mpr ⟨⟨fun h => absurd h (by decide), fun _ => sv_COs_gen (c_X4_holds l) (Or.inr ⟨_, List.mem_of_getElem? (i := 1) rfl⟩) kw_X4_holds.1 kw_X4_holds.2.1 kw_X4_holds.2.2 kd_X4_holds rfl (by decide) (by decide +kernel)⟩, List.forall_mem_cons.mpr ⟨⟨fun h => absurd h (by decide), fun _ => sv_COs_min (sv_mem 395 (by decide +kernel) rfl) (by decide) (by decide)⟩, fun _ h => absurd h List.not_mem_nil⟩⟩⟩⟩⟩
theorem kw_X0_chooseFor : Cond.instanceMethod yX0_chooseFor ∈ sv_tb ∧ Cond.selects yX0_chooseFor.cls yX0_chooseFor yX0_chooseFor ∈ sv_tb ∧ Cond.initialized yX0_chooseFor.cls ∈ sv_tb ∧ Cond.code yX0_chooseFor cX0_chooseFor 19 none ∈ sv_tb := ⟨sv_mem 392 (by decide +kernel) rfl, sv_mem 7 (by decide +kernel) rfl, sv_mem 54 (by decide +kernel) rfl, sv_mem 393 (by decide +kernel) rfl⟩
theorem kd_X0_chooseFor : yX0_chooseFor.cls ≠ "java/lang/invoke/MethodHandle" ∧ yX0_chooseFor.cls ≠ "java/lang/invoke/VarHandle" ∧ (parseMethodDescriptor yX0_chooseFor.desc).map (fun d => d.parameters.length) = some 4 := by decide +kernel
def F_X0_chooseFor_0 (Wk : sv_K) (Kr : Option sv_AV → sv_S → Prop) (t : Int32) (p : Int32) (kind : Int32) (states : Int32) (σ : sv_S) : Prop := (vp_in p 11 ∧ (∃ d1 : dD, ∃ k2 : Nat, ∃ q3 : Nat, (RP d1 σ ∧ (k2 < 5 ∧ t = nI k2) ∧ (q3 < dP d1 ∧ p = nI q3)) ∧ (∀ v4 : Int32, v4 = nI (dr d1 k2 q3 + dw d1 k2 q3) → (vp_in kind 2 ∧ (vp_in p 10 ∧ (∃ d5 : dD, ∃ c6 : Nat, (RP d5 σ ∧ (c6 < 32 ∧ ((1 : Int32) <<< (t &&& 31)) = nI c6)) ∧ (∀ v7 : Int32, v7 = nI (carry d5 c6) → (vp_in p 10 ∧ (((((sv_gA σ 28 0 p.toNatClampNeg) >>> (t &&& 31)) &&& 1 = 1 → (vp_in ((1 : Int32) <<< (t &&& 31)) 32 ∧ (vp_in t 5 ∧ Wk 112 [none, none, none, none, none, some (.inr (.inr (11, p.toNatClampNeg))), none, some (.inl ((v4 * (sv_gA σ 22 kind.toNatClampNeg p.toNatClampNeg)) * (sv_gA σ 20 0 1))), some (.inl ((v4 * (sv_gA σ 22 kind.toNatClampNeg p.toNatClampNeg)) * (sv_gA σ 20 0 2))), some (.inl v7), some (.inl (1 : Int32)), some (.inl (sv_tab 44 ((1 : Int32) <<< (t &&& 31)).toNatClampNeg)), some (.inr (.inr (8, t.toNatClampNeg))), some (.inl (states / (3 : Int32))), some (.inl (0 : Int32)), none, none, none, none] [] σ))) ∧ (¬ ((sv_gA σ 28 0 p.toNatClampNeg) >>> (t &&& 31)) &&& 1 = 1 → (vp_in ((1 : Int32) <<< (t &&& 31)) 32 ∧ (vp_in t 5 ∧ Wk 112 [none, none, none, none, none, some (.inr (.inr (11, p.toNatClampNeg))), none, some (.inl ((v4 * (sv_gA σ 22 kind.toNatClampNeg p.toNatClampNeg)) * (sv_gA σ 20 0 1))), some (.inl ((v4 * (sv_gA σ 22 kind.toNatClampNeg p.toNatClampNeg)) * (sv_gA σ 20 0 2))), some (.inl v7), some (.inl (0 : Int32)), some (.inl (sv_tab 44 ((1 : Int32) <<< (t &&& 31)).toNatClampNeg)), some (.inr (.inr (8, t.toNatClampNeg))), some (.inl (states / (3 : Int32))), some (.inl (0 : Int32)), none, none, none, none] [] σ)))))))))))))
set_option maxRecDepth 100000 in
theorem bk_X0_chooseFor_0 (Wk : sv_K) (Kr : Option sv_AV → sv_S → Prop) (t : Int32) (p : Int32) (kind : Int32) (states : Int32) (σ : sv_S) (h : F_X0_chooseFor_0 Wk Kr t p kind states σ) : sv_vc tb_X0_chooseFor T_X0_chooseFor sv_all none Kr [(112, [false, false, false, false, false, true, false, true, true, true, true, true, true, true, true, false, false, false, false])] Wk 500 0 [some (.inr (.inr (0, 0))), some (.inl t), some (.inl p), some (.inl kind), some (.inl states), none, none, none, none, none, none, none, none, none, none, none, none, none, none] [] σ := ⟨(h).1, (match ((h).2) with | ⟨d1, k2, q3, z10p, z10k⟩ => ⟨d1, k2, q3, z10p, fun v4 z10y => ⟨((z10k v4 z10y)).1, ⟨((((z10k v4 z10y)).2)).1, ⟨sb_vin (by decide), ⟨sb_vin (by decide), (match (((((z10k v4 z10y)).2)).2) with | ⟨d5, c6, z9p, z9k⟩ => ⟨d5, c6, z9p, fun v7 z9y => ⟨((z9k v7 z9y)).1, (match (((z9k v7 z9y)).2) with | ⟨z8a, z8b⟩ => ⟨fun z8y => ⟨((z8a z8y)).1, ⟨((((z8a z8y)).2)).1, ⟨by decide, (((((z8a z8y)).2)).2)⟩⟩⟩, fun z8y => ⟨((z8b z8y)).1, ⟨((((z8b z8y)).2)).1, ⟨by decide, (((((z8b z8y)).2)).2)⟩⟩⟩⟩)⟩⟩)⟩⟩⟩⟩⟩)⟩
def F_X0_chooseFor_112 (Wk : sv_K) (Kr : Option sv_AV → sv_S → Prop) (r5 : Nat) (x7 : Int32) (x8 : Int32) (x9 : Int32) (x10 : Int32) (x11 : Int32) (r12 : Nat) (x13 : Int32) (x14 : Int32) (σ : sv_S) : Prop := ((x13 ≤ x14 → Kr none σ) ∧ (¬ x13 ≤ x14 → (vp_in x14 81 ∧ (vp_in (sv_gA σ 8 r12 x14.toNatClampNeg) 243 ∧ (vp_in ((sv_gA σ 8 r12 x14.toNatClampNeg) + ((2 : Int32) * x11)) 243 ∧ ((x10 = (0 : Int32) → (vp_in ((sv_gA σ 8 r12 x14.toNatClampNeg) + x11) 243 ∧ (vp_in (sv_gA σ 8 r12 x14.toNatClampNeg) 243 ∧ (vp_in ((sv_gA σ 8 r12 x14.toNatClampNeg) + x11) 243 ∧ (vp_in ((sv_gA σ 8 r12 x14.toNatClampNeg) + ((2 : Int32) * x11)) 243 ∧ Wk 112 [none, none, none, none, none, some (.inr (.inr (11, r5))), none, some (.inl x7), some (.inl x8), some (.inl x9), some (.inl x10), some (.inl x11), some (.inr (.inr (8, r12))), some (.inl x13), some (.inl (x14 + (1 : Int32))), none, none, none, none] [] (sv_sA (sv_sA (sv_sA σ 11 r5 (sv_gA σ 8 r12 x14.toNatClampNeg).toNatClampNeg (if (((sv_gA σ 11 r5 ((sv_gA σ 8 r12 x14.toNatClampNeg) + x11).toNatClampNeg) + x8) + x9) < ((sv_gA σ 11 r5 (sv_gA σ 8 r12 x14.toNatClampNeg).toNatClampNeg) + x7) then (((sv_gA σ 11 r5 ((sv_gA σ 8 r12 x14.toNatClampNeg) + x11).toNatClampNeg) + x8) + x9) else ((sv_gA σ 11 r5 (sv_gA σ 8 r12 x14.toNatClampNeg).toNatClampNeg) + x7))) 11 r5 ((sv_gA σ 8 r12 x14.toNatClampNeg) + x11).toNatClampNeg (if ((sv_gA σ 11 r5 ((sv_gA σ 8 r12 x14.toNatClampNeg) + x11).toNatClampNeg) + x8) < ((sv_gA σ 11 r5 (sv_gA σ 8 r12 x14.toNatClampNeg).toNatClampNeg) + x7) then ((sv_gA σ 11 r5 ((sv_gA σ 8 r12 x14.toNatClampNeg) + x11).toNatClampNeg) + x8) else ((sv_gA σ 11 r5 (sv_gA σ 8 r12 x14.toNatClampNeg).toNatClampNeg) + x7))) 11 r5 ((sv_gA σ 8 r12 x14.toNatClampNeg) + ((2 : Int32) * x11)).toNatClampNeg (if ((sv_gA σ 11 r5 ((sv_gA σ 8 r12 x14.toNatClampNeg) + ((2 : Int32) * x11)).toNatClampNeg) + x8) < ((sv_gA σ 11 r5 (sv_gA σ 8 r12 x14.toNatClampNeg).toNatClampNeg) + x7) then ((sv_gA σ 11 r5 ((sv_gA σ 8 r12 x14.toNatClampNeg) + ((2 : Int32) * x11)).toNatClampNeg) + x8) else ((sv_gA σ 11 r5 (sv_gA σ 8 r12 x14.toNatClampNeg).toNatClampNeg) + x7)))))))) ∧ (¬ x10 = (0 : Int32) → (vp_in (sv_gA σ 8 r12 x14.toNatClampNeg) 243 ∧ (vp_in ((sv_gA σ 8 r12 x14.toNatClampNeg) + x11) 243 ∧ (vp_in ((sv_gA σ 8 r12 x14.toNatClampNeg) + ((2 : Int32) * x11)) 243 ∧ Wk 112 [none, none, none, none, none, some (.inr (.inr (11, r5))), none, some (.inl x7), some (.inl x8), some (.inl x9), some (.inl x10), some (.inl x11), some (.inr (.inr (8, r12))), some (.inl x13), some (.inl (x14 + (1 : Int32))), none, none, none, none] [] (sv_sA (sv_sA (sv_sA σ 11 r5 (sv_gA σ 8 r12 x14.toNatClampNeg).toNatClampNeg (if ((((sv_gA σ 11 r5 ((sv_gA σ 8 r12 x14.toNatClampNeg) + ((2 : Int32) * x11)).toNatClampNeg) + x8) + x9) + x9) < ((sv_gA σ 11 r5 (sv_gA σ 8 r12 x14.toNatClampNeg).toNatClampNeg) + x7) then ((((sv_gA σ 11 r5 ((sv_gA σ 8 r12 x14.toNatClampNeg) + ((2 : Int32) * x11)).toNatClampNeg) + x8) + x9) + x9) else ((sv_gA σ 11 r5 (sv_gA σ 8 r12 x14.toNatClampNeg).toNatClampNeg) + x7))) 11 r5 ((sv_gA σ 8 r12 x14.toNatClampNeg) + x11).toNatClampNeg (if (((sv_gA σ 11 r5 ((sv_gA σ 8 r12 x14.toNatClampNeg) + ((2 : Int32) * x11)).toNatClampNeg) + x8) + x9) < ((sv_gA σ 11 r5 (sv_gA σ 8 r12 x14.toNatClampNeg).toNatClampNeg) + x7) then (((sv_gA σ 11 r5 ((sv_gA σ 8 r12 x14.toNatClampNeg) + ((2 : Int32) * x11)).toNatClampNeg) + x8) + x9) else ((sv_gA σ 11 r5 (sv_gA σ 8 r12 x14.toNatClampNeg).toNatClampNeg) + x7))) 11 r5 ((sv_gA σ 8 r12 x14.toNatClampNeg) + ((2 : Int32) * x11)).toNatClampNeg (if ((sv_gA σ 11 r5 ((sv_gA σ 8 r12 x14.toNatClampNeg) + ((2 : Int32) * x11)).toNatClampNeg) + x8) < ((sv_gA σ 11 r5 (sv_gA σ 8 r12 x14.toNatClampNeg).toNatClampNeg) + x7) then ((sv_gA σ 11 r5 ((sv_gA σ 8 r12 x14.toNatClampNeg) + ((2 : Int32) * x11)).toNatClampNeg) + x8) else ((sv_gA σ 11 r5 (sv_gA σ 8 r12 x14.toNatClampNeg).toNatClampNeg) + x7)))))))))))))
set_option maxRecDepth 100000 in
theorem bk_X0_chooseFor_112 (Wk : sv_K) (Kr : Option sv_AV → sv_S → Prop) (r5 : Nat) (x7 : Int32) (x8 : Int32) (x9 : Int32) (x10 : Int32) (x11 : Int32) (r12 : Nat) (x13 : Int32) (x14 : Int32) (σ : sv_S) (h : F_X0_chooseFor_112 Wk Kr r5 x7 x8 x9 x10 x11 r12 x13 x14 σ) : sv_vc tb_X0_chooseFor T_X0_chooseFor sv_all none Kr [(112, [false, false, false, false, false, true, false, true, true, true, true, true, true, true, true, false, false, false, false])] Wk 500 112 [none, none, none, none, none, some (.inr (.inr (11, r5))), none, some (.inl x7), some (.inl x8), some (.inl x9), some (.inl x10), some (.inl x11), some (.inr (.inr (8, r12))), some (.inl x13), some (.inl x14), none, none, none, none] [] σ := ⟨fun z1 => ⟨rfl, ((h).1 z1)⟩, fun z1 => ((h).2 z1)⟩
set_option maxRecDepth 100000 in
theorem m_X0_chooseFor (l : Launch) (hb : ∀ (Wk : sv_K) (Kr : Option sv_AV → sv_S → Prop), (∀ (t : Int32) (p : Int32) (kind : Int32) (states : Int32) (σ : sv_S), F_X0_chooseFor_0 Wk Kr t p kind states σ → Wk 0 [some (.inr (.inr (0, 0))), some (.inl t), some (.inl p), some (.inl kind), some (.inl states), none, none, none, none, none, none, none, none, none, none, none, none, none, none] [] σ) → (∀ (r5 : Nat) (x7 : Int32) (x8 : Int32) (x9 : Int32) (x10 : Int32) (x11 : Int32) (r12 : Nat) (x13 : Int32) (x14 : Int32) (σ : sv_S), F_X0_chooseFor_112 Wk Kr r5 x7 x8 x9 x10 x11 r12 x13 x14 σ → Wk 112 [none, none, none, none, none, some (.inr (.inr (11, r5))), none, some (.inl x7), some (.inl x8), some (.inl x9), some (.inl x10), some (.inl x11), some (.inr (.inr (8, r12))), some (.inl x13), some (.inl x14), none, none, none, none] [] σ) → (∀ (t : Int32) (p : Int32) (kind : Int32) (states : Int32) (σ : sv_S), (∃ d : dD, ∃ e : Nat, ∃ q : Nat, ∃ k : Nat, ∃ R : Nat → Nat, (RP d σ ∧ FT σ ∧ (e < dT d ∧ t = nI e) ∧ (q < dP d ∧ p = nI q) ∧ (k < 2 ∧ kind = nI k) ∧ states = nI (3 ^ dT d) ∧ (∀ j, j < 3 ^ dT d → R j ≤ 1100000000 ∧ sv_gA σ 11 q j = nI (R j))) ∧ (∀ σ2 : sv_S, sq [11] σ σ2 ∧ (∀ i j, i ≠ q → sv_gA σ2 11 i j = sv_gA σ 11 i j) ∧ (∀ j, j < 3 ^ dT d → sv_gA σ2 11 q j = nI (cfr d k q e R j)) → Kr none σ2)) → Wk 0 [some (.inr (.inr (0, 0))), some (.inl t), some (.inl p), some (.inl kind), some (.inl states), none, none, none, none, none, none, none, none, none, none, none, none, none, none] [] σ)) : sv_C l yX0_chooseFor cX0_chooseFor 19 none sv_all 3 65 sp_X0_chooseFor := by
  refine sv_meth sv_clok_all tb_X0_chooseFor T_X0_chooseFor (by decide) tbk_X0_chooseFor (Tok_X0_chooseFor l) ?_
  intro Wk Kr hc av σ hsp
  have hB := hb Wk Kr (fun t p kind states σ h => hc [(112, [false, false, false, false, false, true, false, true, true, true, true, true, true, true, true, false, false, false, false])] 500 0 _ _ _ (bk_X0_chooseFor_0 Wk Kr t p kind states σ h)) (fun r5 x7 x8 x9 x10 x11 r12 x13 x14 σ h => hc [(112, [false, false, false, false, false, true, false, true, true, true, true, true, true, true, true, false, false, false, false])] 500 112 _ _ _ (bk_X0_chooseFor_112 Wk Kr r5 x7 x8 x9 x10 x11 r12 x13 x14 σ h))
  unfold sp_X0_chooseFor at hsp
  split at hsp
  · exact ⟨⟨by simp, by simp [sv_cat]⟩, hB _ _ _ _ _ hsp⟩
  · exact hsp.elim
theorem wset_key : ∀ (a b c x y : Bool), ∀ e, e < 5 → ((if a = true then 1 else 0) + (if b = true then 2 else 0) + (if c = true then 4 else 0) + (if x = true then 8 else 0) + (if y = true then 16 else 0) : Nat).testBit e = (if e = 0 then a else if e = 1 then b else if e = 2 then c else if e = 3 then x else y) := by decide +kernel
theorem wset_bit (d : dD) (p : Nat) {e : Nat} (he : e < 5) : (wset d p).testBit e = true ↔ 0 < dw d e p := by
  have h := wset_key (decide (0 < dw d 0 p)) (decide (0 < dw d 1 p)) (decide (0 < dw d 2 p)) (decide (0 < dw d 3 p)) (decide (0 < dw d 4 p)) e he
  simp only [decide_eq_true_eq] at h
  unfold wset
  rw [h]
  rcases (show e = 0 ∨ e = 1 ∨ e = 2 ∨ e = 3 ∨ e = 4 by omega) with rfl | rfl | rfl | rfl | rfl <;> simp
def ix (e j : Nat) : Nat := (j - dg e j * 3 ^ e) / 3 ^ (e + 1) * 3 ^ e + (j - dg e j * 3 ^ e) % 3 ^ e
theorem ou_1 : ∀ n, n < 6 → ∀ e, e < n → ∀ i, i < 3 ^ n / 3 → outs e i + 2 * 3 ^ e < 3 ^ n := by decide +kernel
theorem ou_2 : ∀ e, e < 5 → ∀ j, j < 243 → outs e (ix e j) + dg e j * 3 ^ e = j := by decide +kernel
theorem ou_3 : ∀ e, e < 5 → ∀ i, i < 81 → ∀ v, v < 3 → ix e (outs e i + v * 3 ^ e) = i ∧ dg e (outs e i + v * 3 ^ e) = v := by decide +kernel
theorem ou_4 : ∀ n, n < 6 → ∀ e, e < n → ∀ j, j < 3 ^ n → ix e j < 3 ^ n / 3 := by decide +kernel
theorem dg_lt (t s : Nat) : dg t s < 3 := Nat.mod_lt _ (by omega)
theorem min_nI {x y : Nat} (hx : x < 2 ^ 31) (hy : y < 2 ^ 31) : (if nI y < nI x then nI y else nI x) = nI (min x y) := by
  by_cases q : y < x
  · rw [if_pos (nI_lt q hx), Nat.min_eq_right (by omega)]
  · rw [if_neg (nI_nlt (by omega) hy), Nat.min_eq_left (by omega)]
theorem cIn_le {d : dD} (h : wfP d) {k p t : Nat} (hk : k < 2) (hp : p < dP d) (ht : t < 5) : cIn d k p t ≤ 35640 ∧ cOut d k p t ≤ 35640 ∧ c1 d t ≤ 2000 := by
  have h1 := h.2.2.2.2.1 t p ht hp
  have h2 := (h.2.2.1 k p hk hp).2
  have h3 := h.2.2.2.2.2.2
  have a1 : (dr d t p + dw d t p) * dR d k p ≤ 18 * 99 := Nat.mul_le_mul (by omega) h2
  have a2 : (dr d t p + dw d t p) * dR d k p * dS d 2 ≤ 18 * 99 * 20 := Nat.mul_le_mul a1 (by omega)
  have a3 : (dr d t p + dw d t p) * dR d k p * dS d 1 ≤ 18 * 99 * 20 := Nat.mul_le_mul a1 (by omega)
  exact ⟨a2, a3, carry_le h _⟩
theorem cfr_at {d : dD} {k p e : Nat} {R : Nat → Nat} {i v : Nat} (he : e < 5) (hi : i < 81) (hv : v < 3) : cfr d k p e R (outs e i + v * 3 ^ e) = min (R (outs e i) + cOut d k p e) (if v = 2 then R (outs e i + 2 * 3 ^ e) + cIn d k p e else (if 0 < dw d e p then R (outs e i + 2 * 3 ^ e) + cIn d k p e + c1 d e else R (outs e i + 3 ^ e) + cIn d k p e) + (if v = 0 then c1 d e else 0)) := by
  unfold cfr
  rw [(ou_3 e he i hi v hv).2]
  dsimp only
  rw [Nat.add_sub_cancel]
set_option maxHeartbeats 4000000 in
set_option maxRecDepth 100000 in
theorem c_X0_chooseFor (l : Launch) : sv_C l yX0_chooseFor cX0_chooseFor 19 none sv_all 3 65 sp_X0_chooseFor := by
  refine m_X0_chooseFor l ?_
  intro Wk Kr e0 e112 t p kind states σ ⟨d, e, q, k, R, ⟨hR, hFT, ⟨he, ht⟩, ⟨hq, hp⟩, ⟨hk, hkd⟩, hst, hRow⟩, h⟩
  subst ht
  subst hp
  subst hkd
  subst hst
  have hP := hR.1.1
  have hT := hR.1.2.1
  have h243 := three_pow_le hT
  obtain ⟨bI, bO, bC⟩ := cIn_le hR.1 (t := e) hk hq (by omega)
  have hcnt : 3 ^ dT d / 3 ≤ 81 := by omega
  have key : ∀ x10 : Int32, (x10 = 0 ↔ ¬ 0 < dw d e q) → ∀ m n σ', n + m = 3 ^ dT d / 3 → sq [11] σ σ' → (∀ i j, i ≠ q → sv_gA σ' 11 i j = sv_gA σ 11 i j) → (∀ j, j < 3 ^ dT d → sv_gA σ' 11 q j = if ix e j < n then nI (cfr d k q e R j) else nI (R j)) →
      Wk 112 [none, none, none, none, none, some (.inr (.inr (11, q))), none, some (.inl (nI (cOut d k q e))), some (.inl (nI (cIn d k q e))), some (.inl (nI (c1 d e))), some (.inl x10), some (.inl (nI (3 ^ e))), some (.inr (.inr (8, e))), some (.inl (nI (3 ^ dT d / 3))), some (.inl (nI n)), none, none, none, none] [] σ' := by
    intro x10 hx10 m
    induction m with
    | zero =>
      intro n σ' hn hs h1 h2
      apply e112
      refine pk_le (3 ^ dT d / 3) n (fun z => h _ ⟨hs, h1, fun j hj => ?_⟩) (fun z => by omega)
      rw [h2 j hj, if_pos (by have := ou_4 (dT d) (by omega) e he j hj; omega)]
    | succ m ih =>
      intro n σ' hn hs h1 h2
      have hn81 : n < 81 := by omega
      have hb := ou_1 (dT d) (by omega) e he n (by omega)
      have g0 := ou_3 e (by omega) n hn81 0 (by omega)
      have g1 := ou_3 e (by omega) n hn81 1 (by omega)
      have g2 := ou_3 e (by omega) n hn81 2 (by omega)
      have r0 : sv_gA σ' 11 q (outs e n) = nI (R (outs e n)) := by
        rw [h2 _ (by omega), if_neg (by have := g0.1; rw [Nat.zero_mul, Nat.add_zero] at this; omega)]
      have r1 : sv_gA σ' 11 q (outs e n + 3 ^ e) = nI (R (outs e n + 3 ^ e)) := by
        rw [h2 _ (by omega), if_neg (by have := g1.1; rw [Nat.one_mul] at this; omega)]
      have r2 : sv_gA σ' 11 q (outs e n + 2 * 3 ^ e) = nI (R (outs e n + 2 * 3 ^ e)) := by
        rw [h2 _ (by omega), if_neg (by have := g2.1; omega)]
      have b0 := (hRow (outs e n) (by omega)).1
      have b1 := (hRow (outs e n + 3 ^ e) (by omega)).1
      have b2 := (hRow (outs e n + 2 * 3 ^ e) (by omega)).1
      have f0 := cfr_at (d := d) (k := k) (p := q) (e := e) (R := R) (i := n) (v := 0) (by omega) hn81 (by omega)
      have f1 := cfr_at (d := d) (k := k) (p := q) (e := e) (R := R) (i := n) (v := 1) (by omega) hn81 (by omega)
      have f2 := cfr_at (d := d) (k := k) (p := q) (e := e) (R := R) (i := n) (v := 2) (by omega) hn81 (by omega)
      rw [Nat.zero_mul, Nat.add_zero] at f0
      rw [Nat.one_mul] at f1
      have fin : ∀ v0 v1 v2 : Int32, v0 = nI (cfr d k q e R (outs e n)) → v1 = nI (cfr d k q e R (outs e n + 3 ^ e)) → v2 = nI (cfr d k q e R (outs e n + 2 * 3 ^ e)) → Wk 112 [none, none, none, none, none, some (.inr (.inr (11, q))), none, some (.inl (nI (cOut d k q e))), some (.inl (nI (cIn d k q e))), some (.inl (nI (c1 d e))), some (.inl x10), some (.inl (nI (3 ^ e))), some (.inr (.inr (8, e))), some (.inl (nI (3 ^ dT d / 3))), some (.inl (nI (n + 1))), none, none, none, none] [] (sv_sA (sv_sA (sv_sA σ' 11 q (outs e n) v0) 11 q (outs e n + 3 ^ e) v1) 11 q (outs e n + 2 * 3 ^ e) v2) := by
        intro v0 v1 v2 hv0 hv1 hv2
        have hpos : 0 < 3 ^ e := Nat.pow_pos (by omega)
        refine ih (n + 1) _ (by omega) (sq_tr (sq_tr (sq_tr hs (sq_sA _ _ _ _ (by decide))) (sq_sA _ _ _ _ (by decide))) (sq_sA _ _ _ _ (by decide))) (fun i j hi => by rw [gA_ni _ hi, gA_ni _ hi, gA_ni _ hi]; exact h1 i j hi) (fun j hj => ?_)
        by_cases hjn : ix e j = n
        · rw [if_pos (by omega)]
          have hj2 := ou_2 e (by omega) j (by omega)
          rw [hjn] at hj2
          have hd3 := dg_lt e j
          rcases (show dg e j = 0 ∨ dg e j = 1 ∨ dg e j = 2 by omega) with hd | hd | hd
          · rw [hd, Nat.zero_mul, Nat.add_zero] at hj2
            subst hj2
            rw [gA_nj _ (by omega), gA_nj _ (by omega), gA_same, hv0]
          · rw [hd, Nat.one_mul] at hj2
            subst hj2
            rw [gA_nj _ (by omega), gA_same, hv1]
          · rw [hd] at hj2
            subst hj2
            rw [gA_same, hv2]
        · have n0 : j ≠ outs e n := fun z => hjn (by rw [z]; have := g0.1; rwa [Nat.zero_mul, Nat.add_zero] at this)
          have n1 : j ≠ outs e n + 3 ^ e := fun z => hjn (by rw [z]; have := g1.1; rwa [Nat.one_mul] at this)
          have n2 : j ≠ outs e n + 2 * 3 ^ e := fun z => hjn (by rw [z]; exact g2.1)
          rw [gA_nj _ n2, gA_nj _ n1, gA_nj _ n0, h2 j hj]
          by_cases hlt : ix e j < n
          · rw [if_pos hlt, if_pos (by omega)]
          · rw [if_neg hlt, if_neg (by omega)]
      apply e112
      unfold F_X0_chooseFor_112
      rw [nI_clamp (by omega : n < 2 ^ 31), hs.1 8 (by decide), hFT.2 e n (by omega) hn81]
      rw [show (2 : Int32) = nI 2 from rfl, pk_mul, nI_add, nI_add, nI_clamp (by omega : outs e n < 2 ^ 31), nI_clamp (by omega : outs e n + 3 ^ e < 2 ^ 31), nI_clamp (by omega : outs e n + 2 * 3 ^ e < 2 ^ 31), r0, r1, r2, nI_1]
      simp only [nI_add]
      rw [min_nI (by omega) (by omega), min_nI (by omega) (by omega), min_nI (by omega) (by omega), min_nI (by omega) (by omega), min_nI (by omega) (by omega)]
      refine pk_le (3 ^ dT d / 3) n (fun z => by omega) (fun z => ⟨pk_in n 81 hn81, pk_in (outs e n) 243 (by omega), pk_in (outs e n + 2 * 3 ^ e) 243 (by omega), fun y => ⟨pk_in (outs e n + 3 ^ e) 243 (by omega), pk_in (outs e n) 243 (by omega), pk_in (outs e n + 3 ^ e) 243 (by omega), pk_in (outs e n + 2 * 3 ^ e) 243 (by omega), fin _ _ _ ?_ ?_ ?_⟩, fun y => ⟨pk_in (outs e n) 243 (by omega), pk_in (outs e n + 3 ^ e) 243 (by omega), pk_in (outs e n + 2 * 3 ^ e) 243 (by omega), fin _ _ _ ?_ ?_ ?_⟩⟩)
      · rw [f0, if_neg (by omega), if_neg (hx10.mp y), if_pos rfl]
      · rw [f1, if_neg (by omega), if_neg (hx10.mp y), if_neg (by omega), Nat.add_zero]
      · rw [f2, if_pos rfl]
      · have hw : 0 < dw d e q := Classical.byContradiction fun z => y (hx10.mpr z)
        rw [f0, if_neg (by omega), if_pos hw, if_pos rfl]
      · have hw : 0 < dw d e q := Classical.byContradiction fun z => y (hx10.mpr z)
        rw [f1, if_neg (by omega), if_pos hw, if_neg (by omega), Nat.add_zero]
      · rw [f2, if_pos rfl]
  have h2e : 2 ^ e < 32 := (by decide +kernel : ∀ e, e < 5 → 2 ^ e < 32) e (by omega)
  have hsh : (1 : Int32) <<< (nI e &&& 31) = nI (2 ^ e) := (by decide +kernel : ∀ e, e < 5 → (1 : Int32) <<< (nI e &&& 31) = nI (2 ^ e)) e (by omega)
  apply e0
  unfold F_X0_chooseFor_0
  rw [nI_clamp (by omega : q < 2 ^ 31), nI_clamp (by omega : k < 2 ^ 31), nI_clamp (by omega : e < 2 ^ 31), hsh, nI_clamp (by omega : 2 ^ e < 2 ^ 31), so_tab _ h2e, so_one e (by omega), hR.2.2.2.2.1 k q hk hq, hR.2.2.2.1 1 (by omega), hR.2.2.2.1 2 (by omega), hR.2.2.2.2.2.2.2.2 q hq, show (3 : Int32) = nI 3 from rfl, pk_div (by omega) (by omega) (by omega)]
  refine ⟨pk_in q 11 (by omega), d, e, q, ⟨hR, ⟨by omega, rfl⟩, hq, rfl⟩, fun v4 h4 => ⟨pk_in k 2 hk, pk_in q 10 (by omega), d, 2 ^ e, ⟨hR, h2e, rfl⟩, fun v7 h7 => ⟨pk_in q 10 (by omega), fun y => ?_, fun y => ?_⟩⟩⟩
  · rw [bit_sh _ (wset_lt d q) e (by omega), wset_bit d q (by omega)] at y
    rw [h4, h7, pk_mul, pk_mul, pk_mul]
    exact ⟨pk_in (2 ^ e) 32 h2e, pk_in e 5 (by omega), key 1 ⟨fun z => absurd z (by decide), fun z => absurd y z⟩ (3 ^ dT d / 3) 0 σ (by omega) (sq_rf _ _) (fun _ _ _ => rfl) (fun j hj => by rw [if_neg (by omega)]; exact (hRow j hj).2)⟩
  · rw [bit_sh _ (wset_lt d q) e (by omega), wset_bit d q (by omega)] at y
    rw [h4, h7, pk_mul, pk_mul, pk_mul]
    exact ⟨pk_in (2 ^ e) 32 h2e, pk_in e 5 (by omega), key 0 ⟨fun _ => y, fun _ => rfl⟩ (3 ^ dT d / 3) 0 σ (by omega) (sq_rf _ _) (fun _ _ _ => rfl) (fun j hj => by rw [if_neg (by omega)]; exact (hRow j hj).2)⟩
