-- ==== X5_isAlike
def sp_X5_isAlike : sv_P := fun av σ K => match av with
  | [.inr (.inr (5, 0)), .inl room] => ∃ d : dD, ∃ r : Nat, (RM d σ ∧ (r ≤ 60 ∧ room = nI r)) ∧ ((alR d r → K (some (.inl (1 : Int32))) σ) ∧ (¬ alR d r → K (some (.inl (0 : Int32))) σ))
  | _ => False
def tb_X5_isAlike : List (Nat × (Instr × Nat)) := [(0, (.iload_n 1, 1)), (1, (.ifCond .le 7, 3)), (4, (.iconst 1, 1)), (5, (.goto 4, 3)), (8, (.iconst 0, 1)), (9, (.istore_n 2, 1)), (10, (.iconst 0, 1)), (11, (.istore_n 3, 1)), (12, (.iload_n 3, 1)), (13, (.iconst 1, 1)), (14, (.aload_n 0, 1)), (15, (.getfield 54, 3)), (18, (.ishl, 1)), (19, (.if_icmp .ge 28, 3)), (22, (.iload_n 2, 1)), (23, (.ifCond .eq 16, 3)), (26, (.aload_n 0, 1)), (27, (.iload_n 3, 1)), (28, (.invokevirtual 103, 3)), (31, (.iload_n 1, 1)), (32, (.if_icmp .eq 7, 3)), (35, (.iconst 1, 1)), (36, (.goto 4, 3)), (39, (.iconst 0, 1)), (40, (.istore_n 2, 1)), (41, (.iinc 3 1, 3)), (44, (.goto (-32), 3)), (47, (.iload_n 2, 1)), (48, (.ireturn, 1))]
set_option maxRecDepth 100000 in
theorem tbk_X5_isAlike : sv_tbok cX5_isAlike tb_X5_isAlike = true := by decide +kernel
def cal_X5_isAlike : List (Nat × (Nat × Nat × sv_P)) := [(103, (2, 5, sp_X5_cellsOf))]
def T_X5_isAlike : sv_T := (flX5, sfX5, kcX5, klX5, cal_X5_isAlike)
set_option maxRecDepth 100000 in
theorem Tok_X5_isAlike (l : Launch) : sv_Tok l RX5 sv_all 2 44 T_X5_isAlike := ⟨flokX5, sfokX5, kcokX5, klokX5, List.forall_mem_cons.mpr ⟨⟨fun _ => sv_COv_of (c_X5_cellsOf l) sv_clok_all (sv_mem 716 (by decide +kernel) rfl) kw_X5_cellsOf.1 kw_X5_cellsOf.2.1 kw_X5_cellsOf.2.2.1 kw_X5_cellsOf.2.2.2 kd_X5_cellsOf rfl (by decide) (by decide +kernel) rfl (by decide), fun h => absurd h (by decide)⟩, fun _ h => absurd h List.not_mem_nil⟩⟩
theorem kw_X5_isAlike : Cond.instanceMethod yX5_isAlike ∈ sv_tb ∧ Cond.selects yX5_isAlike.cls yX5_isAlike yX5_isAlike ∈ sv_tb ∧ Cond.initialized yX5_isAlike.cls ∈ sv_tb ∧ Cond.code yX5_isAlike cX5_isAlike 4 (some .boolean) ∈ sv_tb := ⟨sv_mem 803 (by decide +kernel) rfl, sv_mem 41 (by decide +kernel) rfl, sv_mem 56 (by decide +kernel) rfl, sv_mem 804 (by decide +kernel) rfl⟩
theorem kd_X5_isAlike : yX5_isAlike.cls ≠ "java/lang/invoke/MethodHandle" ∧ yX5_isAlike.cls ≠ "java/lang/invoke/VarHandle" ∧ (parseMethodDescriptor yX5_isAlike.desc).map (fun d => d.parameters.length) = some 1 := by decide +kernel
def F_X5_isAlike_0 (Wk : sv_K) (Kr : Option sv_AV → sv_S → Prop) (room : Int32) (σ : sv_S) : Prop := ((room ≤ (0 : Int32) → Wk 12 [some (.inr (.inr (5, 0))), some (.inl room), some (.inl (0 : Int32)), some (.inl (0 : Int32))] [] σ) ∧ (¬ room ≤ (0 : Int32) → Wk 12 [some (.inr (.inr (5, 0))), some (.inl room), some (.inl (1 : Int32)), some (.inl (0 : Int32))] [] σ))
set_option maxRecDepth 100000 in
theorem bk_X5_isAlike_0 (Wk : sv_K) (Kr : Option sv_AV → sv_S → Prop) (room : Int32) (σ : sv_S) (h : F_X5_isAlike_0 Wk Kr room σ) : sv_vc tb_X5_isAlike T_X5_isAlike sv_all (some .boolean) Kr [(12, [true, true, true, true])] Wk 500 0 [some (.inr (.inr (5, 0))), some (.inl room), none, none] [] σ := h
def F_X5_isAlike_12 (Wk : sv_K) (Kr : Option sv_AV → sv_S → Prop) (x1 : Int32) (x2 : Int32) (x3 : Int32) (σ : sv_S) : Prop := ((((1 : Int32) <<< ((sv_gA σ 5 0 1) &&& 31)) ≤ x3 → (narrow .boolean (.int x2) = .int x2 ∧ Kr (some (.inl x2)) σ)) ∧ (¬ ((1 : Int32) <<< ((sv_gA σ 5 0 1) &&& 31)) ≤ x3 → ((x2 = (0 : Int32) → Wk 12 [some (.inr (.inr (5, 0))), some (.inl x1), some (.inl (0 : Int32)), some (.inl (x3 + (1 : Int32)))] [] σ) ∧ (¬ x2 = (0 : Int32) → (∃ d1 : dD, ∃ c2 : Nat, (RM d1 σ ∧ (c2 < 32 ∧ x3 = nI c2)) ∧ (∀ v3 : Int32, v3 = nI (cells d1 c2) → ((v3 = x1 → Wk 12 [some (.inr (.inr (5, 0))), some (.inl x1), some (.inl (0 : Int32)), some (.inl (x3 + (1 : Int32)))] [] σ) ∧ (¬ v3 = x1 → Wk 12 [some (.inr (.inr (5, 0))), some (.inl x1), some (.inl (1 : Int32)), some (.inl (x3 + (1 : Int32)))] [] σ))))))))
set_option maxRecDepth 100000 in
theorem bk_X5_isAlike_12 (Wk : sv_K) (Kr : Option sv_AV → sv_S → Prop) (x1 : Int32) (x2 : Int32) (x3 : Int32) (σ : sv_S) (h : F_X5_isAlike_12 Wk Kr x1 x2 x3 σ) : sv_vc tb_X5_isAlike T_X5_isAlike sv_all (some .boolean) Kr [(12, [true, true, true, true])] Wk 500 12 [some (.inr (.inr (5, 0))), some (.inl x1), some (.inl x2), some (.inl x3)] [] σ := h
set_option maxRecDepth 100000 in
theorem m_X5_isAlike (l : Launch) (hb : ∀ (Wk : sv_K) (Kr : Option sv_AV → sv_S → Prop), (∀ (room : Int32) (σ : sv_S), F_X5_isAlike_0 Wk Kr room σ → Wk 0 [some (.inr (.inr (5, 0))), some (.inl room), none, none] [] σ) → (∀ (x1 : Int32) (x2 : Int32) (x3 : Int32) (σ : sv_S), F_X5_isAlike_12 Wk Kr x1 x2 x3 σ → Wk 12 [some (.inr (.inr (5, 0))), some (.inl x1), some (.inl x2), some (.inl x3)] [] σ) → (∀ (room : Int32) (σ : sv_S), (∃ d : dD, ∃ r : Nat, (RM d σ ∧ (r ≤ 60 ∧ room = nI r)) ∧ ((alR d r → Kr (some (.inl (1 : Int32))) σ) ∧ (¬ alR d r → Kr (some (.inl (0 : Int32))) σ))) → Wk 0 [some (.inr (.inr (5, 0))), some (.inl room), none, none] [] σ)) : sv_C l yX5_isAlike cX5_isAlike 4 (some .boolean) sv_all 2 44 sp_X5_isAlike := by
  refine sv_meth sv_clok_all tb_X5_isAlike T_X5_isAlike (by decide) tbk_X5_isAlike (Tok_X5_isAlike l) ?_
  intro Wk Kr hc av σ hsp
  have hB := hb Wk Kr (fun room σ h => hc [(12, [true, true, true, true])] 500 0 _ _ _ (bk_X5_isAlike_0 Wk Kr room σ h)) (fun x1 x2 x3 σ h => hc [(12, [true, true, true, true])] 500 12 _ _ _ (bk_X5_isAlike_12 Wk Kr x1 x2 x3 σ h))
  unfold sp_X5_isAlike at hsp
  split at hsp
  · exact ⟨⟨by simp, by simp [sv_cat]⟩, hB _ _ hsp⟩
  · exact hsp.elim
set_option maxHeartbeats 4000000 in
set_option maxRecDepth 100000 in
theorem c_X5_isAlike (l : Launch) : sv_C l yX5_isAlike cX5_isAlike 4 (some .boolean) sv_all 2 44 sp_X5_isAlike := by
  refine m_X5_isAlike l ?_
  intro Wk Kr e0 e12 room σ ⟨d, r, ⟨hR, hr, hrm⟩, h1, h0⟩
  subst hrm
  have hT := hR.1.2.1
  have h32 := two_pow_le hR.1
  have key : ∀ n, n ≤ 2 ^ dT d → ∀ x : Int32, (x = 0 ∨ x = 1) → (x = 1 ↔ (0 < r ∧ ∀ c, c < n → cells d c ≠ r)) → Wk 12 [some (.inr (.inr (5, 0))), some (.inl (nI r)), some (.inl x), some (.inl (nI n))] [] σ := by
    refine lpN (fun n hn ih x hx hxe => ?_)
    apply e12
    unfold F_X5_isAlike_12
    rw [hR.2.2.2.1, sh_pow hT, nI_1]
    refine pk_le (2 ^ dT d) n (fun y => ?_) (fun y => ?_)
    · rw [show n = 2 ^ dT d by omega] at hxe
      rcases hx with rfl | rfl
      · exact ⟨rfl, h0 (fun a => absurd (hxe.mpr a) (by decide))⟩
      · exact ⟨rfl, h1 (hxe.mp rfl)⟩
    · have ih := ih y
      refine ⟨fun a => ih 0 (Or.inl rfl) ?_, fun a => ⟨d, n, ⟨hR, by omega, rfl⟩, fun v3 h3 => ?_⟩⟩
      · refine ⟨fun b => absurd b (by decide), fun b => ?_⟩
        have := hxe.mpr ⟨b.1, fun c hc => b.2 c (by omega)⟩
        rw [a] at this
        exact absurd this (by decide)
      · have hx1 := hxe.mp (hx.resolve_left a)
        subst h3
        have hcl := cells_le hR.1 n
        refine pk_eq (cells d n) r (fun b => ih 0 (Or.inl rfl) ?_) (fun b => ih 1 (Or.inr rfl) ?_)
        · exact ⟨fun z => absurd z (by decide), fun z => absurd b (z.2 n (by omega))⟩
        · refine ⟨fun _ => ⟨hx1.1, fun c hc => ?_⟩, fun _ => rfl⟩
          by_cases e : c = n
          · rw [e]; exact b
          · exact hx1.2 c (by omega)
  apply e0
  refine pk_le r 0 (fun y => key 0 (Nat.zero_le _) 0 (Or.inl rfl) ?_) (fun y => key 0 (Nat.zero_le _) 1 (Or.inr rfl) ?_)
  · exact ⟨fun z => absurd z (by decide), fun z => by omega⟩
  · exact ⟨fun _ => ⟨y, fun c hc => by omega⟩, fun _ => rfl⟩
-- ==== X5_knows
def sp_X5_knows : sv_P := fun av σ K => match av with
  | [.inr (.inr (5, 0))] => ∃ d : dD, (RM d σ ∧ MI d σ) ∧ (∀ σ2 : sv_S, sq mg σ σ2 ∧ RM d σ2 ∧ MK d σ2 → K none σ2)
  | _ => False
def tb_X5_knows : List (Nat × (Instr × Nat)) := [(0, (.aload_n 0, 1)), (1, (.getfield 61, 3)), (4, (.ifCond .eq 4, 3)), (7, (.return_, 1)), (8, (.iconst 0, 1)), (9, (.istore_n 1, 1)), (10, (.iload_n 1, 1)), (11, (.iconst 2, 1)), (12, (.if_icmp .ge 64, 3)), (15, (.iconst 0, 1)), (16, (.istore_n 2, 1)), (17, (.iload_n 2, 1)), (18, (.bipush 60, 2)), (20, (.if_icmp .gt 50, 3)), (23, (.aload_n 0, 1)), (24, (.getfield 37, 3)), (27, (.bipush 61, 2)), (29, (.iload_n 1, 1)), (30, (.imul, 1)), (31, (.iload_n 2, 1)), (32, (.iadd, 1)), (33, (.aload_n 0, 1)), (34, (.iload_n 2, 1)), (35, (.invokevirtual 155, 3)), (38, (.ifCond .eq 19, 3)), (41, (.aload_n 0, 1)), (42, (.getfield 37, 3)), (45, (.bipush 61, 2)), (47, (.iload_n 1, 1)), (48, (.imul, 1)), (49, (.iload_n 2, 1)), (50, (.iadd, 1)), (51, (.iconst 1, 1)), (52, (.isub, 1)), (53, (.iaload, 1)), (54, (.goto 9, 3)), (57, (.aload_n 0, 1)), (58, (.iload_n 1, 1)), (59, (.iload_n 2, 1)), (60, (.invokevirtual 121, 3)), (63, (.iastore, 1)), (64, (.iinc 2 1, 3)), (67, (.goto (-50), 3)), (70, (.iinc 1 1, 3)), (73, (.goto (-63), 3)), (76, (.aload_n 0, 1)), (77, (.iconst 1, 1)), (78, (.putfield 61, 3)), (81, (.return_, 1))]
set_option maxRecDepth 100000 in
theorem tbk_X5_knows : sv_tbok cX5_knows tb_X5_knows = true := by decide +kernel
def cal_X5_knows : List (Nat × (Nat × Nat × sv_P)) := [(155, (2, 5, sp_X5_isAlike)), (121, (3, 5, sp_X5_triesBest))]
def T_X5_knows : sv_T := (flX5, sfX5, kcX5, klX5, cal_X5_knows)
set_option maxRecDepth 100000 in
theorem Tok_X5_knows (l : Launch) : sv_Tok l RX5 sv_all 4 101 T_X5_knows := ⟨flokX5, sfokX5, kcokX5, klokX5, List.forall_mem_cons.mpr ⟨⟨fun _ => sv_COv_of (c_X5_isAlike l) sv_clok_all (sv_mem 801 (by decide +kernel) rfl) kw_X5_isAlike.1 kw_X5_isAlike.2.1 kw_X5_isAlike.2.2.1 kw_X5_isAlike.2.2.2 kd_X5_isAlike rfl (by decide) (by decide +kernel) rfl (by decide), fun h => absurd h (by decide)⟩, List.forall_mem_cons.mpr ⟨⟨fun _ => sv_COv_of (c_X5_triesBest l) sv_clok_all (sv_mem 689 (by decide +kernel) rfl) kw_X5_triesBest.1 kw_X5_triesBest.2.1 kw_X5_triesBest.2.2.1 kw_X5_triesBest.2.2.2 kd_X5_triesBest rfl (by decide) (by decide +kernel) rfl (by decide), fun h => absurd h (by decide)⟩, fun _ h => absurd h List.not_mem_nil⟩⟩⟩
theorem kw_X5_knows : Cond.instanceMethod yX5_knows ∈ sv_tb ∧ Cond.selects yX5_knows.cls yX5_knows yX5_knows ∈ sv_tb ∧ Cond.initialized yX5_knows.cls ∈ sv_tb ∧ Cond.code yX5_knows cX5_knows 3 none ∈ sv_tb := ⟨sv_mem 799 (by decide +kernel) rfl, sv_mem 40 (by decide +kernel) rfl, sv_mem 56 (by decide +kernel) rfl, sv_mem 800 (by decide +kernel) rfl⟩
theorem kd_X5_knows : yX5_knows.cls ≠ "java/lang/invoke/MethodHandle" ∧ yX5_knows.cls ≠ "java/lang/invoke/VarHandle" ∧ (parseMethodDescriptor yX5_knows.desc).map (fun d => d.parameters.length) = some 0 := by decide +kernel
def F_X5_knows_0 (Wk : sv_K) (Kr : Option sv_AV → sv_S → Prop)  (σ : sv_S) : Prop := (((sv_gA σ 5 0 11) = (0 : Int32) → Wk 10 [some (.inr (.inr (5, 0))), some (.inl (0 : Int32)), none] [] σ) ∧ (¬ (sv_gA σ 5 0 11) = (0 : Int32) → Kr none σ))
set_option maxRecDepth 100000 in
theorem bk_X5_knows_0 (Wk : sv_K) (Kr : Option sv_AV → sv_S → Prop)  (σ : sv_S) (h : F_X5_knows_0 Wk Kr  σ) : sv_vc tb_X5_knows T_X5_knows sv_all none Kr [(10, [true, true, false]), (17, [true, true, true])] Wk 500 0 [some (.inr (.inr (5, 0))), none, none] [] σ := ⟨fun z1 => ((h).1 z1), fun z1 => ⟨rfl, ((h).2 z1)⟩⟩
def F_X5_knows_10 (Wk : sv_K) (Kr : Option sv_AV → sv_S → Prop) (x1 : Int32) (σ : sv_S) : Prop := (((2 : Int32) ≤ x1 → Kr none (sv_sA σ 5 0 11 (1 : Int32))) ∧ (¬ (2 : Int32) ≤ x1 → Wk 17 [some (.inr (.inr (5, 0))), some (.inl x1), some (.inl (0 : Int32))] [] σ))
set_option maxRecDepth 100000 in
theorem bk_X5_knows_10 (Wk : sv_K) (Kr : Option sv_AV → sv_S → Prop) (x1 : Int32) (σ : sv_S) (h : F_X5_knows_10 Wk Kr x1 σ) : sv_vc tb_X5_knows T_X5_knows sv_all none Kr [(10, [true, true, false]), (17, [true, true, true])] Wk 500 10 [some (.inr (.inr (5, 0))), some (.inl x1), none] [] σ := ⟨fun z1 => ⟨⟨rfl, rfl⟩, ⟨rfl, ((h).1 z1)⟩⟩, fun z1 => ((h).2 z1)⟩
def F_X5_knows_17 (Wk : sv_K) (Kr : Option sv_AV → sv_S → Prop) (x1 : Int32) (x2 : Int32) (σ : sv_S) : Prop := (((60 : Int32) < x2 → Wk 10 [some (.inr (.inr (5, 0))), some (.inl (x1 + (1 : Int32))), none] [] σ) ∧ (¬ (60 : Int32) < x2 → (∃ d1 : dD, ∃ r2 : Nat, (RM d1 σ ∧ (r2 ≤ 60 ∧ x2 = nI r2)) ∧ ((alR d1 r2 → (vp_in ((((61 : Int32) * x1) + x2) - (1 : Int32)) 122 ∧ (vp_in (((61 : Int32) * x1) + x2) 122 ∧ Wk 17 [some (.inr (.inr (5, 0))), some (.inl x1), some (.inl (x2 + (1 : Int32)))] [] (sv_sA σ 40 0 (((61 : Int32) * x1) + x2).toNatClampNeg (sv_gA σ 40 0 ((((61 : Int32) * x1) + x2) - (1 : Int32)).toNatClampNeg))))) ∧ (¬ alR d1 r2 → (∃ d3 : dD, ∃ k4 : Nat, ∃ r5 : Nat, (RM d3 σ ∧ (k4 < 2 ∧ x1 = nI k4) ∧ (r5 ≤ 60 ∧ x2 = nI r5)) ∧ (∀ v6 : Int32, ∀ σ7 : sv_S, v6 = nI (bst d3 k4 r5) ∧ sq tg σ σ7 ∧ (∀ p, p < dP d3 → sv_gA σ7 37 0 p = nI (bsp d3 k4 r5 p)) → (vp_in (((61 : Int32) * x1) + x2) 122 ∧ Wk 17 [some (.inr (.inr (5, 0))), some (.inl x1), some (.inl (x2 + (1 : Int32)))] [] (sv_sA σ7 40 0 (((61 : Int32) * x1) + x2).toNatClampNeg v6)))))))))
set_option maxRecDepth 100000 in
theorem bk_X5_knows_17 (Wk : sv_K) (Kr : Option sv_AV → sv_S → Prop) (x1 : Int32) (x2 : Int32) (σ : sv_S) (h : F_X5_knows_17 Wk Kr x1 x2 σ) : sv_vc tb_X5_knows T_X5_knows sv_all none Kr [(10, [true, true, false]), (17, [true, true, true])] Wk 500 17 [some (.inr (.inr (5, 0))), some (.inl x1), some (.inl x2)] [] σ := ⟨fun z9 => ((h).1 z9), fun z9 => (match ((h).2 z9) with | ⟨d1, r2, z8p, z8a, z8b⟩ => ⟨d1, r2, z8p, fun z8y => br_f (by decide) ((z8a z8y)), fun z8y => br_t (by decide) ((z8b z8y))⟩)⟩
set_option maxRecDepth 100000 in
theorem m_X5_knows (l : Launch) (hb : ∀ (Wk : sv_K) (Kr : Option sv_AV → sv_S → Prop), (∀  (σ : sv_S), F_X5_knows_0 Wk Kr  σ → Wk 0 [some (.inr (.inr (5, 0))), none, none] [] σ) → (∀ (x1 : Int32) (σ : sv_S), F_X5_knows_10 Wk Kr x1 σ → Wk 10 [some (.inr (.inr (5, 0))), some (.inl x1), none] [] σ) → (∀ (x1 : Int32) (x2 : Int32) (σ : sv_S), F_X5_knows_17 Wk Kr x1 x2 σ → Wk 17 [some (.inr (.inr (5, 0))), some (.inl x1), some (.inl x2)] [] σ) → (∀  (σ : sv_S), (∃ d : dD, (RM d σ ∧ MI d σ) ∧ (∀ σ2 : sv_S, sq mg σ σ2 ∧ RM d σ2 ∧ MK d σ2 → Kr none σ2)) → Wk 0 [some (.inr (.inr (5, 0))), none, none] [] σ)) : sv_C l yX5_knows cX5_knows 3 none sv_all 4 101 sp_X5_knows := by
  refine sv_meth sv_clok_all tb_X5_knows T_X5_knows (by decide) tbk_X5_knows (Tok_X5_knows l) ?_
  intro Wk Kr hc av σ hsp
  have hB := hb Wk Kr (fun  σ h => hc [(10, [true, true, false]), (17, [true, true, true])] 500 0 _ _ _ (bk_X5_knows_0 Wk Kr  σ h)) (fun x1 σ h => hc [(10, [true, true, false]), (17, [true, true, true])] 500 10 _ _ _ (bk_X5_knows_10 Wk Kr x1 σ h)) (fun x1 x2 σ h => hc [(10, [true, true, false]), (17, [true, true, true])] 500 17 _ _ _ (bk_X5_knows_17 Wk Kr x1 x2 σ h))
  unfold sp_X5_knows at hsp
  split at hsp
  · exact ⟨⟨by simp, by simp [sv_cat]⟩, hB  _ hsp⟩
  · exact hsp.elim
set_option maxHeartbeats 4000000 in
set_option maxRecDepth 100000 in
theorem c_X5_knows (l : Launch) : sv_C l yX5_knows cX5_knows 3 none sv_all 4 101 sp_X5_knows := by
  refine m_X5_knows l ?_
  intro Wk Kr e0 e10 e17 σ ⟨d, ⟨hR, hI⟩, h⟩
  have k10 : ∀ k, k ≤ 2 → ∀ σ', sq (40 :: tg) σ σ' → (∀ i r, i < k → r ≤ 60 → sv_gA σ' 40 0 (61 * i + r) = nI (bst d i r)) → Wk 10 [some (.inr (.inr (5, 0))), some (.inl (nI k)), none] [] σ' := by
    refine lpN (fun k hk ih σ' hs hc => ?_)
    have hR' := RM_fr hR hs
    apply e10
    refine pk_le 2 k (fun y => h _ ⟨sq_tr (sq_mono hs (by decide)) (sq_sA _ _ _ _ (by decide)), ?_, gA_same _ _ _ _ _, fun i r hi hr => ?_⟩) (fun y => ?_)
    · obtain ⟨h0, hl, h1, h2, h3, h4, h5, h6, h7, h8⟩ := hR'
      refine ⟨h0, hl, ?_, ?_, fun k p hk hp => ?_, fun t ht => ?_, fun t p ht hp => ?_, fun t p ht hp => ?_, fun k hk => ?_, fun p hp => ?_⟩
      · simp [sv_gA_s]; exact h1
      · simp [sv_gA_s]; exact h2
      · simp [sv_gA_s]; exact h3 k p hk hp
      · simp [sv_gA_s]; exact h4 t ht
      · simp [sv_gA_s]; exact h5 t p ht hp
      · simp [sv_gA_s]; exact h6 t p ht hp
      · simp [sv_gA_s]; exact h7 k hk
      · simp [sv_gA_s]; exact h8 p hp
    · rw [gA_ng _ (by decide)]
      exact hc i r (by omega) hr
    · have k17 : ∀ n, n ≤ 61 → ∀ σ', sq (40 :: tg) σ σ' → (∀ i r, i < k → r ≤ 60 → sv_gA σ' 40 0 (61 * i + r) = nI (bst d i r)) → (∀ r, r < n → sv_gA σ' 40 0 (61 * k + r) = nI (bst d k r)) → Wk 17 [some (.inr (.inr (5, 0))), some (.inl (nI k)), some (.inl (nI n))] [] σ' := by
        refine lpN (fun n hn ih2 σ' hs hc hc2 => ?_)
        have hR' := RM_fr hR hs
        apply e17
        unfold F_X5_knows_17
        rw [ix61, nI_1, nI_1]
        refine pk_lt 60 n (fun z => ih y σ' hs (fun i r hi hr => ?_)) (fun z => ⟨d, n, ⟨hR', z, rfl⟩, fun a => ?_, fun a => ⟨d, k, n, ⟨hR', ⟨y, rfl⟩, z, rfl⟩, fun v6 σ7 ⟨h6, hs7, _⟩ => ⟨pk_in (61 * k + n) 122 (by omega), ?_⟩⟩⟩)
        · by_cases e : i = k
          · rw [e]
            exact hc2 r (by omega)
          · exact hc i r (by omega) hr
        · have ha := a.1
          rw [show (1 : Int32) = nI 1 from rfl, pk_sub (by omega), nI_clamp (by omega), nI_clamp (by omega), show 61 * k + n - 1 = 61 * k + (n - 1) by omega, hc2 (n - 1) (by omega), ← bst_alR a]
          refine ⟨pk_in (61 * k + (n - 1)) 122 (by omega), pk_in (61 * k + n) 122 (by omega), ih2 (by omega) _ (sq_tr hs (sq_sA _ _ _ _ (by decide))) (fun i r hi hr => ?_) (fun r hr => ?_)⟩
          · rw [gA_nj _ (by omega)]
            exact hc i r hi hr
          · by_cases e : r = n
            · rw [e, gA_same]
            · rw [gA_nj _ (by omega)]
              exact hc2 r (by omega)
        · rw [nI_clamp (by omega)]
          refine ih2 (by omega) _ (sq_tr hs (sq_tr (sq_mono hs7 (by decide)) (sq_sA _ _ _ _ (by decide)))) (fun i r hi hr => ?_) (fun r hr => ?_)
          · rw [gA_nj _ (by omega), hs7.1 _ (by decide)]
            exact hc i r hi hr
          · by_cases e : r = n
            · rw [e, gA_same, h6]
            · rw [gA_nj _ (by omega), hs7.1 _ (by decide)]
              exact hc2 r (by omega)
      exact k17 0 (by omega) σ' hs hc (fun r hr => by omega)
  apply e0
  refine ⟨fun z => k10 0 (by omega) σ (sq_rf _ _) (fun i r hi _ => by omega), fun z => h _ ⟨sq_rf _ _, hR, hI.resolve_left z⟩⟩
-- ==== X5_room
def sp_X5_room : sv_P := fun av σ K => match av with
  | [.inr (.inr (5, 0)), .inl kind, .inl nv] => ∃ d : dD, (RM d σ ∧ MI d σ) ∧ (∀ v : Int32, ∀ σ2 : sv_S, v = A_room d kind nv ∧ (RM d σ2 ∧ MI d σ2) ∧ sq mg σ σ2 → K (some (.inl v)) σ2)
  | _ => False
def tb_X5_room : List (Nat × (Instr × Nat)) := [(0, (.iload_n 1, 1)), (1, (.invokestatic 127, 3)), (4, (.ifCond .eq 13, 3)), (7, (.iload_n 2, 1)), (8, (.iconst 0, 1)), (9, (.ldc 158, 2)), (11, (.invokestatic 50, 3)), (14, (.ifCond .ne 6, 3)), (17, (.bipush (-2), 2)), (19, (.ireturn, 1)), (20, (.aload_n 0, 1)), (21, (.invokevirtual 159, 3)), (24, (.iconst 0, 1)), (25, (.istore_n 3, 1)), (26, (.iload_n 3, 1)), (27, (.bipush 60, 2)), (29, (.if_icmp .gt 26, 3)), (32, (.aload_n 0, 1)), (33, (.getfield 37, 3)), (36, (.bipush 61, 2)), (38, (.iload_n 1, 1)), (39, (.imul, 1)), (40, (.iload_n 3, 1)), (41, (.iadd, 1)), (42, (.iaload, 1)), (43, (.iload_n 2, 1)), (44, (.if_icmp .gt 5, 3)), (47, (.iload_n 3, 1)), (48, (.ireturn, 1)), (49, (.iinc 3 1, 3)), (52, (.goto (-26), 3)), (55, (.bipush (-9), 2)), (57, (.ireturn, 1))]
set_option maxRecDepth 100000 in
theorem tbk_X5_room : sv_tbok cX5_room tb_X5_room = true := by decide +kernel
def cal_X5_room : List (Nat × (Nat × Nat × sv_P)) := [(127, (1, 90, sp_X5_isKind)), (50, (3, 90, sp_X5_within)), (159, (1, 5, sp_X5_knows))]
def T_X5_room : sv_T := (flX5, sfX5, kcX5, klX5, cal_X5_room)
set_option maxRecDepth 100000 in
theorem Tok_X5_room (l : Launch) : sv_Tok l RX5 sv_all 5 123 T_X5_room := ⟨flokX5, sfokX5, kcokX5, klokX5, List.forall_mem_cons.mpr ⟨⟨fun h => absurd h (by decide), fun _ => sv_COs_gen (c_X5_isKind l) (Or.inl (sv_mem 682 (by decide +kernel) rfl)) kw_X5_isKind.1 kw_X5_isKind.2.1 kw_X5_isKind.2.2 kd_X5_isKind rfl (by decide) (by decide +kernel)⟩, List.forall_mem_cons.mpr ⟨⟨fun h => absurd h (by decide), fun _ => sv_COs_gen (c_X5_within l) (Or.inl (sv_mem 623 (by decide +kernel) rfl)) kw_X5_within.1 kw_X5_within.2.1 kw_X5_within.2.2 kd_X5_within rfl (by decide) (by decide +kernel)⟩, List.forall_mem_cons.mpr ⟨⟨fun _ => sv_COv_of (c_X5_knows l) sv_clok_all (sv_mem 797 (by decide +kernel) rfl) kw_X5_knows.1 kw_X5_knows.2.1 kw_X5_knows.2.2.1 kw_X5_knows.2.2.2 kd_X5_knows rfl (by decide) (by decide +kernel) rfl (by decide), fun h => absurd h (by decide)⟩, fun _ h => absurd h List.not_mem_nil⟩⟩⟩⟩
theorem kw_X5_room : Cond.instanceMethod yX5_room ∈ sv_tb ∧ Cond.selects yX5_room.cls yX5_room yX5_room ∈ sv_tb ∧ Cond.initialized yX5_room.cls ∈ sv_tb ∧ Cond.code yX5_room cX5_room 4 (some .int) ∈ sv_tb := ⟨sv_mem 793 (by decide +kernel) rfl, sv_mem 794 (by decide +kernel) rfl, sv_mem 56 (by decide +kernel) rfl, sv_mem 795 (by decide +kernel) rfl⟩
theorem kd_X5_room : yX5_room.cls ≠ "java/lang/invoke/MethodHandle" ∧ yX5_room.cls ≠ "java/lang/invoke/VarHandle" ∧ (parseMethodDescriptor yX5_room.desc).map (fun d => d.parameters.length) = some 2 := by decide +kernel
def F_X5_room_0 (Wk : sv_K) (Kr : Option sv_AV → sv_S → Prop) (kind : Int32) (nv : Int32) (σ : sv_S) : Prop := (((ok2 kind → ((((0 : Int32) ≤ nv ∧ nv ≤ (9999999 : Int32) → (∃ d1 : dD, (RM d1 σ ∧ MI d1 σ) ∧ (∀ σ3 : sv_S, sq mg σ σ3 ∧ RM d1 σ3 ∧ MK d1 σ3 → Wk 26 [some (.inr (.inr (5, 0))), some (.inl kind), some (.inl nv), some (.inl (0 : Int32))] [] σ3))) ∧ (¬ ((0 : Int32) ≤ nv ∧ nv ≤ (9999999 : Int32)) → Kr (some (.inl (-2 : Int32))) σ)))) ∧ (¬ ok2 kind → Kr (some (.inl (-2 : Int32))) σ)))
set_option maxRecDepth 100000 in
theorem bk_X5_room_0 (Wk : sv_K) (Kr : Option sv_AV → sv_S → Prop) (kind : Int32) (nv : Int32) (σ : sv_S) (h : F_X5_room_0 Wk Kr kind nv σ) : sv_vc tb_X5_room T_X5_room sv_all (some .int) Kr [(26, [true, true, true, true])] Wk 500 0 [some (.inr (.inr (5, 0))), some (.inl kind), some (.inl nv), none] [] σ := (match h with | ⟨z5a, z5b⟩ => ⟨fun z5y => br_f (by decide) ((match (z5a z5y) with | ⟨z4a, z4b⟩ => ⟨fun z4y => sb_nt (by decide) ((z4a z4y)), fun z4y => sb_nf (by decide) ((z4b z4y))⟩)), fun z5y => br_t (by decide) ((z5b z5y))⟩)
def F_X5_room_26 (Wk : sv_K) (Kr : Option sv_AV → sv_S → Prop) (x1 : Int32) (x2 : Int32) (x3 : Int32) (σ : sv_S) : Prop := (((60 : Int32) < x3 → Kr (some (.inl (-9 : Int32))) σ) ∧ (¬ (60 : Int32) < x3 → (vp_in (((61 : Int32) * x1) + x3) 122 ∧ ((x2 < (sv_gA σ 40 0 (((61 : Int32) * x1) + x3).toNatClampNeg) → Wk 26 [some (.inr (.inr (5, 0))), some (.inl x1), some (.inl x2), some (.inl (x3 + (1 : Int32)))] [] σ) ∧ (¬ x2 < (sv_gA σ 40 0 (((61 : Int32) * x1) + x3).toNatClampNeg) → Kr (some (.inl x3)) σ)))))
set_option maxRecDepth 100000 in
theorem bk_X5_room_26 (Wk : sv_K) (Kr : Option sv_AV → sv_S → Prop) (x1 : Int32) (x2 : Int32) (x3 : Int32) (σ : sv_S) (h : F_X5_room_26 Wk Kr x1 x2 x3 σ) : sv_vc tb_X5_room T_X5_room sv_all (some .int) Kr [(26, [true, true, true, true])] Wk 500 26 [some (.inr (.inr (5, 0))), some (.inl x1), some (.inl x2), some (.inl x3)] [] σ := h
set_option maxRecDepth 100000 in
theorem m_X5_room (l : Launch) (hb : ∀ (Wk : sv_K) (Kr : Option sv_AV → sv_S → Prop), (∀ (kind : Int32) (nv : Int32) (σ : sv_S), F_X5_room_0 Wk Kr kind nv σ → Wk 0 [some (.inr (.inr (5, 0))), some (.inl kind), some (.inl nv), none] [] σ) → (∀ (x1 : Int32) (x2 : Int32) (x3 : Int32) (σ : sv_S), F_X5_room_26 Wk Kr x1 x2 x3 σ → Wk 26 [some (.inr (.inr (5, 0))), some (.inl x1), some (.inl x2), some (.inl x3)] [] σ) → (∀ (kind : Int32) (nv : Int32) (σ : sv_S), (∃ d : dD, (RM d σ ∧ MI d σ) ∧ (∀ v : Int32, ∀ σ2 : sv_S, v = A_room d kind nv ∧ (RM d σ2 ∧ MI d σ2) ∧ sq mg σ σ2 → Kr (some (.inl v)) σ2)) → Wk 0 [some (.inr (.inr (5, 0))), some (.inl kind), some (.inl nv), none] [] σ)) : sv_C l yX5_room cX5_room 4 (some .int) sv_all 5 123 sp_X5_room := by
  refine sv_meth sv_clok_all tb_X5_room T_X5_room (by decide) tbk_X5_room (Tok_X5_room l) ?_
  intro Wk Kr hc av σ hsp
  have hB := hb Wk Kr (fun kind nv σ h => hc [(26, [true, true, true, true])] 500 0 _ _ _ (bk_X5_room_0 Wk Kr kind nv σ h)) (fun x1 x2 x3 σ h => hc [(26, [true, true, true, true])] 500 26 _ _ _ (bk_X5_room_26 Wk Kr x1 x2 x3 σ h))
  unfold sp_X5_room at hsp
  split at hsp
  · exact ⟨⟨by simp, by simp [sv_cat]⟩, hB _ _ _ hsp⟩
  · exact hsp.elim
set_option maxHeartbeats 4000000 in
set_option maxRecDepth 100000 in
theorem c_X5_room (l : Launch) : sv_C l yX5_room cX5_room 4 (some .int) sv_all 5 123 sp_X5_room := by
  refine m_X5_room l ?_
  intro Wk Kr e0 e26 kind v σ ⟨d, ⟨hC, hI⟩, h⟩
  have bad : ¬ (ok2 kind ∧ ((0 : Int32) ≤ v ∧ v ≤ 9999999)) → Kr (some (.inl (-2 : Int32))) σ := fun hb => h _ _ ⟨(ch_f hb _ _).symm, ⟨hC, hI⟩, sq_rf _ _⟩
  apply e0
  refine ⟨fun h1 => ⟨fun h2 => ⟨d, ⟨hC, hI⟩, fun σ3 ⟨hs, hR, hK⟩ => ?_⟩, fun h2 => bad (fun y => h2 y.2)⟩, fun h1 => bad (fun y => h1 y.1)⟩
  have g : ok2 kind ∧ ((0 : Int32) ≤ v ∧ v ≤ 9999999) := ⟨h1, h2⟩
  obtain ⟨k, hk, rfl, -⟩ := ok2_of h1
  obtain ⟨w, -, hw, rfl⟩ := lit_in (a := 0) (b := 9999999) (by omega) h2 (by omega)
  have A : ∀ x, x = fpI (lr1 d k (w : Int)) → Kr (some (.inl x)) σ3 := fun x hx => h _ _ ⟨by unfold A_room; rw [ch_t g, xn_nI (by omega), nI_toInt (by omega), lroom_lr1]; exact hx, ⟨hR, Or.inr hK⟩, hs⟩
  suffices key : ∀ n, n ≤ 61 → (∀ j, j < n → ¬ (bst d k j : Int) ≤ (w : Int)) → Wk 26 [some (.inr (.inr (5, 0))), some (.inl (nI k)), some (.inl (nI w)), some (.inl (nI n))] [] σ3 from key 0 (by omega) (fun j hj => by omega)
  refine lpN (fun n hn ih hno => ?_)
  apply e26
  unfold F_X5_room_26
  rw [ix61, nI_1, nI_clamp (by omega)]
  refine pk_lt 60 n (fun y => A _ ?_) (fun y => ⟨pk_in (61 * k + n) 122 (by omega), ?_⟩)
  · rw [lr1_none (fun j hj => hno j (by omega))]
    rfl
  · rw [hK.2 k n hk y]
    have hb := bst_lt hC.1 (r := n) hk
    refine pk_lt w (bst d k n) (fun z => ih (by omega) (fun j hj => ?_)) (fun z => A _ ?_)
    · by_cases e : j = n
      · rw [e]; omega
      · exact hno j (by omega)
    · rw [lr1_some y (by omega) hno]
      rfl
-- ==== X5_drop
def sp_X5_drop : sv_P := fun av σ K => match av with
  | [.inr (.inr (5, 0)), .inl kind, .inl k] => ∃ d : dD, (RM d σ ∧ MI d σ) ∧ (∀ v : Int32, ∀ σ2 : sv_S, v = A_drop d kind k ∧ (RM d σ2 ∧ MI d σ2) ∧ sq mg σ σ2 → K (some (.inl v)) σ2)
  | _ => False
def tb_X5_drop : List (Nat × (Instr × Nat)) := [(0, (.iload_n 1, 1)), (1, (.invokestatic 127, 3)), (4, (.ifCond .eq 13, 3)), (7, (.iload_n 2, 1)), (8, (.iconst 0, 1)), (9, (.bipush 59, 2)), (11, (.invokestatic 50, 3)), (14, (.ifCond .ne 6, 3)), (17, (.bipush (-2), 2)), (19, (.ireturn, 1)), (20, (.aload_n 0, 1)), (21, (.invokevirtual 159, 3)), (24, (.iconst 0, 1)), (25, (.istore_n 3, 1)), (26, (.iconst 1, 1)), (27, (.istore 4, 2)), (29, (.iload 4, 2)), (31, (.bipush 60, 2)), (33, (.if_icmp .gt 49, 3)), (36, (.aload_n 0, 1)), (37, (.getfield 37, 3)), (40, (.bipush 61, 2)), (42, (.iload_n 1, 1)), (43, (.imul, 1)), (44, (.iload 4, 2)), (46, (.iadd, 1)), (47, (.iaload, 1)), (48, (.aload_n 0, 1)), (49, (.getfield 37, 3)), (52, (.bipush 61, 2)), (54, (.iload_n 1, 1)), (55, (.imul, 1)), (56, (.iload 4, 2)), (58, (.iadd, 1)), (59, (.iconst 1, 1)), (60, (.isub, 1)), (61, (.iaload, 1)), (62, (.if_icmp .ge 14, 3)), (65, (.iload_n 3, 1)), (66, (.iload_n 2, 1)), (67, (.if_icmp .ne 6, 3)), (70, (.iload 4, 2)), (72, (.ireturn, 1)), (73, (.iinc 3 1, 3)), (76, (.iinc 4 1, 3)), (79, (.goto (-50), 3)), (82, (.bipush (-9), 2)), (84, (.ireturn, 1))]
set_option maxRecDepth 100000 in
theorem tbk_X5_drop : sv_tbok cX5_drop tb_X5_drop = true := by decide +kernel
def cal_X5_drop : List (Nat × (Nat × Nat × sv_P)) := [(127, (1, 90, sp_X5_isKind)), (50, (3, 90, sp_X5_within)), (159, (1, 5, sp_X5_knows))]
def T_X5_drop : sv_T := (flX5, sfX5, kcX5, klX5, cal_X5_drop)
set_option maxRecDepth 100000 in
theorem Tok_X5_drop (l : Launch) : sv_Tok l RX5 sv_all 5 123 T_X5_drop := ⟨flokX5, sfokX5, kcokX5, klokX5, List.forall_mem_cons.mpr ⟨⟨fun h => absurd h (by decide), fun _ => sv_COs_gen (c_X5_isKind l) (Or.inl (sv_mem 682 (by decide +kernel) rfl)) kw_X5_isKind.1 kw_X5_isKind.2.1 kw_X5_isKind.2.2 kd_X5_isKind rfl (by decide) (by decide +kernel)⟩, List.forall_mem_cons.mpr ⟨⟨fun h => absurd h (by decide), fun _ => sv_COs_gen (c_X5_within l) (Or.inl (sv_mem 623 (by decide +kernel) rfl)) kw_X5_within.1 kw_X5_within.2.1 kw_X5_within.2.2 kd_X5_within rfl (by decide) (by decide +kernel)⟩, List.forall_mem_cons.mpr ⟨⟨fun _ => sv_COv_of (c_X5_knows l) sv_clok_all (sv_mem 797 (by decide +kernel) rfl) kw_X5_knows.1 kw_X5_knows.2.1 kw_X5_knows.2.2.1 kw_X5_knows.2.2.2 kd_X5_knows rfl (by decide) (by decide +kernel) rfl (by decide), fun h => absurd h (by decide)⟩, fun _ h => absurd h List.not_mem_nil⟩⟩⟩⟩
theorem kw_X5_drop : Cond.instanceMethod yX5_drop ∈ sv_tb ∧ Cond.selects yX5_drop.cls yX5_drop yX5_drop ∈ sv_tb ∧ Cond.initialized yX5_drop.cls ∈ sv_tb ∧ Cond.code yX5_drop cX5_drop 5 (some .int) ∈ sv_tb := ⟨sv_mem 806 (by decide +kernel) rfl, sv_mem 807 (by decide +kernel) rfl, sv_mem 56 (by decide +kernel) rfl, sv_mem 808 (by decide +kernel) rfl⟩
theorem kd_X5_drop : yX5_drop.cls ≠ "java/lang/invoke/MethodHandle" ∧ yX5_drop.cls ≠ "java/lang/invoke/VarHandle" ∧ (parseMethodDescriptor yX5_drop.desc).map (fun d => d.parameters.length) = some 2 := by decide +kernel
def F_X5_drop_0 (Wk : sv_K) (Kr : Option sv_AV → sv_S → Prop) (kind : Int32) (k : Int32) (σ : sv_S) : Prop := (((ok2 kind → ((((0 : Int32) ≤ k ∧ k ≤ (59 : Int32) → (∃ d1 : dD, (RM d1 σ ∧ MI d1 σ) ∧ (∀ σ3 : sv_S, sq mg σ σ3 ∧ RM d1 σ3 ∧ MK d1 σ3 → Wk 29 [some (.inr (.inr (5, 0))), some (.inl kind), some (.inl k), some (.inl (0 : Int32)), some (.inl (1 : Int32))] [] σ3))) ∧ (¬ ((0 : Int32) ≤ k ∧ k ≤ (59 : Int32)) → Kr (some (.inl (-2 : Int32))) σ)))) ∧ (¬ ok2 kind → Kr (some (.inl (-2 : Int32))) σ)))
set_option maxRecDepth 100000 in
theorem bk_X5_drop_0 (Wk : sv_K) (Kr : Option sv_AV → sv_S → Prop) (kind : Int32) (k : Int32) (σ : sv_S) (h : F_X5_drop_0 Wk Kr kind k σ) : sv_vc tb_X5_drop T_X5_drop sv_all (some .int) Kr [(29, [true, true, true, true, true])] Wk 500 0 [some (.inr (.inr (5, 0))), some (.inl kind), some (.inl k), none, none] [] σ := (match h with | ⟨z5a, z5b⟩ => ⟨fun z5y => br_f (by decide) ((match (z5a z5y) with | ⟨z4a, z4b⟩ => ⟨fun z4y => sb_nt (by decide) ((z4a z4y)), fun z4y => sb_nf (by decide) ((z4b z4y))⟩)), fun z5y => br_t (by decide) ((z5b z5y))⟩)
def F_X5_drop_29 (Wk : sv_K) (Kr : Option sv_AV → sv_S → Prop) (x1 : Int32) (x2 : Int32) (x3 : Int32) (x4 : Int32) (σ : sv_S) : Prop := (((60 : Int32) < x4 → Kr (some (.inl (-9 : Int32))) σ) ∧ (¬ (60 : Int32) < x4 → (vp_in (((61 : Int32) * x1) + x4) 122 ∧ (vp_in ((((61 : Int32) * x1) + x4) - (1 : Int32)) 122 ∧ (((sv_gA σ 40 0 ((((61 : Int32) * x1) + x4) - (1 : Int32)).toNatClampNeg) ≤ (sv_gA σ 40 0 (((61 : Int32) * x1) + x4).toNatClampNeg) → Wk 29 [some (.inr (.inr (5, 0))), some (.inl x1), some (.inl x2), some (.inl x3), some (.inl (x4 + (1 : Int32)))] [] σ) ∧ (¬ (sv_gA σ 40 0 ((((61 : Int32) * x1) + x4) - (1 : Int32)).toNatClampNeg) ≤ (sv_gA σ 40 0 (((61 : Int32) * x1) + x4).toNatClampNeg) → ((¬ x3 = x2 → Wk 29 [some (.inr (.inr (5, 0))), some (.inl x1), some (.inl x2), some (.inl (x3 + (1 : Int32))), some (.inl (x4 + (1 : Int32)))] [] σ) ∧ (x3 = x2 → Kr (some (.inl x4)) σ))))))))
set_option maxRecDepth 100000 in
theorem bk_X5_drop_29 (Wk : sv_K) (Kr : Option sv_AV → sv_S → Prop) (x1 : Int32) (x2 : Int32) (x3 : Int32) (x4 : Int32) (σ : sv_S) (h : F_X5_drop_29 Wk Kr x1 x2 x3 x4 σ) : sv_vc tb_X5_drop T_X5_drop sv_all (some .int) Kr [(29, [true, true, true, true, true])] Wk 500 29 [some (.inr (.inr (5, 0))), some (.inl x1), some (.inl x2), some (.inl x3), some (.inl x4)] [] σ := h
set_option maxRecDepth 100000 in
theorem m_X5_drop (l : Launch) (hb : ∀ (Wk : sv_K) (Kr : Option sv_AV → sv_S → Prop), (∀ (kind : Int32) (k : Int32) (σ : sv_S), F_X5_drop_0 Wk Kr kind k σ → Wk 0 [some (.inr (.inr (5, 0))), some (.inl kind), some (.inl k), none, none] [] σ) → (∀ (x1 : Int32) (x2 : Int32) (x3 : Int32) (x4 : Int32) (σ : sv_S), F_X5_drop_29 Wk Kr x1 x2 x3 x4 σ → Wk 29 [some (.inr (.inr (5, 0))), some (.inl x1), some (.inl x2), some (.inl x3), some (.inl x4)] [] σ) → (∀ (kind : Int32) (k : Int32) (σ : sv_S), (∃ d : dD, (RM d σ ∧ MI d σ) ∧ (∀ v : Int32, ∀ σ2 : sv_S, v = A_drop d kind k ∧ (RM d σ2 ∧ MI d σ2) ∧ sq mg σ σ2 → Kr (some (.inl v)) σ2)) → Wk 0 [some (.inr (.inr (5, 0))), some (.inl kind), some (.inl k), none, none] [] σ)) : sv_C l yX5_drop cX5_drop 5 (some .int) sv_all 5 123 sp_X5_drop := by
  refine sv_meth sv_clok_all tb_X5_drop T_X5_drop (by decide) tbk_X5_drop (Tok_X5_drop l) ?_
  intro Wk Kr hc av σ hsp
  have hB := hb Wk Kr (fun kind k σ h => hc [(29, [true, true, true, true, true])] 500 0 _ _ _ (bk_X5_drop_0 Wk Kr kind k σ h)) (fun x1 x2 x3 x4 σ h => hc [(29, [true, true, true, true, true])] 500 29 _ _ _ (bk_X5_drop_29 Wk Kr x1 x2 x3 x4 σ h))
  unfold sp_X5_drop at hsp
  split at hsp
  · exact ⟨⟨by simp, by simp [sv_cat]⟩, hB _ _ _ hsp⟩
  · exact hsp.elim
set_option maxHeartbeats 4000000 in
set_option maxRecDepth 100000 in
theorem c_X5_drop (l : Launch) : sv_C l yX5_drop cX5_drop 5 (some .int) sv_all 5 123 sp_X5_drop := by
  refine m_X5_drop l ?_
  intro Wk Kr e0 e29 kind jj σ ⟨d, ⟨hC, hI⟩, h⟩
  have bad : ¬ (ok2 kind ∧ ((0 : Int32) ≤ jj ∧ jj ≤ 59)) → Kr (some (.inl (-2 : Int32))) σ := fun hb => h _ _ ⟨(ch_f hb _ _).symm, ⟨hC, hI⟩, sq_rf _ _⟩
  apply e0
  refine ⟨fun h1 => ⟨fun h2 => ⟨d, ⟨hC, hI⟩, fun σ3 ⟨hs, hR, hK⟩ => ?_⟩, fun h2 => bad (fun y => h2 y.2)⟩, fun h1 => bad (fun y => h1 y.1)⟩
  have g : ok2 kind ∧ ((0 : Int32) ≤ jj ∧ jj ≤ 59) := ⟨h1, h2⟩
  obtain ⟨k, hk, rfl, -⟩ := ok2_of h1
  obtain ⟨j, -, hj, rfl⟩ := lit_in (a := 0) (b := 59) (by omega) h2 (by omega)
  have A : ∀ x, x = fpI (drp d k (j + 1)) → Kr (some (.inl x)) σ3 := fun x hx => h _ _ ⟨by unfold A_drop; rw [ch_t g, xn_nI (by omega), xn_nI (by omega)]; exact hx, ⟨hR, Or.inr hK⟩, hs⟩
  have key : ∀ m, m ≤ 60 → ∀ n r0, n ≤ j → drp d k n = some r0 → r0 ≤ m → bst d k m = bst d k r0 → Wk 29 [some (.inr (.inr (5, 0))), some (.inl (nI k)), some (.inl (nI j)), some (.inl (nI n)), some (.inl (nI (m + 1)))] [] σ3 := by
    refine lpN (fun m hm ih n r0 hn hd hr0 hb0 => ?_)
    apply e29
    unfold F_X5_drop_29
    rw [ix61, nI_1, nI_1, show (1 : Int32) = nI 1 from rfl, pk_sub (by omega), nI_clamp (by omega), nI_clamp (by omega), show 61 * k + (m + 1) - 1 = 61 * k + m by omega]
    refine pk_lt 60 (m + 1) (fun y => A _ ?_) (fun y => ⟨pk_in (61 * k + (m + 1)) 122 (by omega), pk_in (61 * k + m) 122 (by omega), ?_⟩)
    · have hnone : drp d k (n + 1) = none := by
        rw [drp_succ, hd, Option.bind_some]
        refine lr1_none (fun i hi => ?_)
        have := bst_mono (d := d) (r := i) (r' := m) (by omega) k
        omega
      rw [drp_none hnone (j + 1) (by omega)]
      rfl
    · rw [hK.2 k (m + 1) hk (by omega), hK.2 k m hk (by omega)]
      have hb1 := bst_lt hC.1 (r := m) hk
      have hb2 := bst_lt hC.1 (r := m + 1) hk
      have hmo := bst_mono (d := d) (r := m) (r' := m + 1) (by omega) k
      refine pk_le (bst d k m) (bst d k (m + 1)) (fun z => ih (by omega) n r0 hn hd (by omega) (by omega)) (fun z => ?_)
      have hsome : drp d k (n + 1) = some (m + 1) := by
        rw [drp_succ, hd, Option.bind_some]
        refine lr1_some (by omega) (by omega) (fun i hi => ?_)
        have := bst_mono (d := d) (r := i) (r' := m) (by omega) k
        omega
      refine ⟨fun w => ih (by omega) (n + 1) (m + 1) ?_ hsome (Nat.le_refl _) rfl, fun w => A _ ?_⟩
      · have : n ≠ j := fun e => w (by rw [e])
        omega
      · have : n = j := (nI_eq (by omega) (by omega)).mp w
        rw [← this, hsome]
        rfl
  exact key 0 (by omega) 0 0 (by omega) rfl (by omega) rfl
