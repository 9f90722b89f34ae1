-- ==== X5_laysOrder
def sp_X5_laysOrder : sv_P := fun av σ K => match av with
  | [.inr (.inr (5, 0)), .inl order] => ∃ d : dD, ∃ o : Nat, (RM d σ ∧ (o < fct (dT d) ∧ order = nI o)) ∧ (∀ σ2 : sv_S, sq [41] σ σ2 ∧ (∀ k, k < dT d → sv_gA σ2 41 0 k = nI (ordX (dT d) o k)) → K none σ2)
  | _ => False
def tb_X5_laysOrder : List (Nat × (Instr × Nat)) := [(0, (.iconst 0, 1)), (1, (.istore_n 2, 1)), (2, (.iload_n 1, 1)), (3, (.istore_n 3, 1)), (4, (.iconst 0, 1)), (5, (.istore 4, 2)), (7, (.iload 4, 2)), (9, (.aload_n 0, 1)), (10, (.getfield 54, 3)), (13, (.if_icmp .ge 92, 3)), (16, (.aload_n 0, 1)), (17, (.getfield 54, 3)), (20, (.iconst 1, 1)), (21, (.isub, 1)), (22, (.iload 4, 2)), (24, (.isub, 1)), (25, (.invokestatic 162, 3)), (28, (.istore 5, 2)), (30, (.iload_n 3, 1)), (31, (.iload 5, 2)), (33, (.idiv, 1)), (34, (.istore 6, 2)), (36, (.iload_n 3, 1)), (37, (.iload 5, 2)), (39, (.irem, 1)), (40, (.istore_n 3, 1)), (41, (.iconst 0, 1)), (42, (.istore 7, 2)), (44, (.iload_n 2, 1)), (45, (.iload 7, 2)), (47, (.invokestatic 78, 3)), (50, (.ifCond .ne 8, 3)), (53, (.iload 6, 2)), (55, (.ifCond .le 28, 3)), (58, (.iload 6, 2)), (60, (.iload_n 2, 1)), (61, (.iload 7, 2)), (63, (.invokestatic 78, 3)), (66, (.ifCond .eq 7, 3)), (69, (.iconst 0, 1)), (70, (.goto 4, 3)), (73, (.iconst 1, 1)), (74, (.isub, 1)), (75, (.istore 6, 2)), (77, (.iinc 7 1, 3)), (80, (.goto (-36), 3)), (83, (.aload_n 0, 1)), (84, (.getfield 40, 3)), (87, (.iload 4, 2)), (89, (.iload 7, 2)), (91, (.iastore, 1)), (92, (.iload_n 2, 1)), (93, (.iconst 1, 1)), (94, (.iload 7, 2)), (96, (.ishl, 1)), (97, (.ior, 1)), (98, (.istore_n 2, 1)), (99, (.iinc 4 1, 3)), (102, (.goto (-95), 3)), (105, (.return_, 1))]
set_option maxRecDepth 100000 in
theorem tbk_X5_laysOrder : sv_tbok cX5_laysOrder tb_X5_laysOrder = true := by decide +kernel
def cal_X5_laysOrder : List (Nat × (Nat × Nat × sv_P)) := [(162, (1, 90, sp_X5_factorial)), (78, (2, 90, sp_X5_has))]
def T_X5_laysOrder : sv_T := (flX5, sfX5, kcX5, klX5, cal_X5_laysOrder)
set_option maxRecDepth 100000 in
theorem Tok_X5_laysOrder (l : Launch) : sv_Tok l RX5 sv_all 1 22 T_X5_laysOrder := ⟨flokX5, sfokX5, kcokX5, klokX5, List.forall_mem_cons.mpr ⟨⟨fun h => absurd h (by decide), fun _ => sv_COs_gen (c_X5_factorial l) (Or.inl (sv_mem 817 (by decide +kernel) rfl)) kw_X5_factorial.1 kw_X5_factorial.2.1 kw_X5_factorial.2.2 kd_X5_factorial rfl (by decide) (by decide +kernel)⟩, List.forall_mem_cons.mpr ⟨⟨fun h => absurd h (by decide), fun _ => sv_COs_gen (c_X5_has l) (Or.inl (sv_mem 701 (by decide +kernel) rfl)) kw_X5_has.1 kw_X5_has.2.1 kw_X5_has.2.2 kd_X5_has rfl (by decide) (by decide +kernel)⟩, fun _ h => absurd h List.not_mem_nil⟩⟩⟩
theorem kw_X5_laysOrder : Cond.instanceMethod yX5_laysOrder ∈ sv_tb ∧ Cond.selects yX5_laysOrder.cls yX5_laysOrder yX5_laysOrder ∈ sv_tb ∧ Cond.initialized yX5_laysOrder.cls ∈ sv_tb ∧ Cond.code yX5_laysOrder cX5_laysOrder 8 none ∈ sv_tb := ⟨sv_mem 826 (by decide +kernel) rfl, sv_mem 44 (by decide +kernel) rfl, sv_mem 56 (by decide +kernel) rfl, sv_mem 827 (by decide +kernel) rfl⟩
theorem kd_X5_laysOrder : yX5_laysOrder.cls ≠ "java/lang/invoke/MethodHandle" ∧ yX5_laysOrder.cls ≠ "java/lang/invoke/VarHandle" ∧ (parseMethodDescriptor yX5_laysOrder.desc).map (fun d => d.parameters.length) = some 1 := by decide +kernel
def F_X5_laysOrder_0 (Wk : sv_K) (Kr : Option sv_AV → sv_S → Prop) (order : Int32) (σ : sv_S) : Prop := Wk 7 [some (.inr (.inr (5, 0))), none, some (.inl (0 : Int32)), some (.inl order), some (.inl (0 : Int32)), none, none, none] [] σ
set_option maxRecDepth 100000 in
theorem bk_X5_laysOrder_0 (Wk : sv_K) (Kr : Option sv_AV → sv_S → Prop) (order : Int32) (σ : sv_S) (h : F_X5_laysOrder_0 Wk Kr order σ) : sv_vc tb_X5_laysOrder T_X5_laysOrder sv_all none Kr [(7, [true, false, true, true, true, false, false, false]), (44, [true, false, true, true, true, false, true, true])] Wk 500 0 [some (.inr (.inr (5, 0))), some (.inl order), none, none, none, none, none, none] [] σ := h
def F_X5_laysOrder_7 (Wk : sv_K) (Kr : Option sv_AV → sv_S → Prop) (x2 : Int32) (x3 : Int32) (x4 : Int32) (σ : sv_S) : Prop := (((sv_gA σ 5 0 1) ≤ x4 → Kr none σ) ∧ (¬ (sv_gA σ 5 0 1) ≤ x4 → (∃ e1 : Nat, (e1 ≤ 5 ∧ (((sv_gA σ 5 0 1) - (1 : Int32)) - x4) = nI e1) ∧ (∀ v2 : Int32, v2 = nI (fct e1) → (¬ v2 = 0 ∧ (¬ v2 = 0 ∧ Wk 44 [some (.inr (.inr (5, 0))), none, some (.inl x2), some (.inl (x3 - x3 / v2 * v2)), some (.inl x4), none, some (.inl (x3 / v2)), some (.inl (0 : Int32))] [] σ))))))
set_option maxRecDepth 100000 in
theorem bk_X5_laysOrder_7 (Wk : sv_K) (Kr : Option sv_AV → sv_S → Prop) (x2 : Int32) (x3 : Int32) (x4 : Int32) (σ : sv_S) (h : F_X5_laysOrder_7 Wk Kr x2 x3 x4 σ) : sv_vc tb_X5_laysOrder T_X5_laysOrder sv_all none Kr [(7, [true, false, true, true, true, false, false, false]), (44, [true, false, true, true, true, false, true, true])] Wk 500 7 [some (.inr (.inr (5, 0))), none, some (.inl x2), some (.inl x3), some (.inl x4), none, none, none] [] σ := ⟨fun z3 => ⟨rfl, ((h).1 z3)⟩, fun z3 => ((h).2 z3)⟩
def F_X5_laysOrder_44 (Wk : sv_K) (Kr : Option sv_AV → sv_S → Prop) (x2 : Int32) (x3 : Int32) (x4 : Int32) (x6 : Int32) (x7 : Int32) (σ : sv_S) : Prop := ((((x2 >>> (x7 &&& 31)) &&& 1 = 1 → ((((x2 >>> (x7 &&& 31)) &&& 1 = 1 → Wk 44 [some (.inr (.inr (5, 0))), none, some (.inl x2), some (.inl x3), some (.inl x4), none, some (.inl (x6 - (0 : Int32))), some (.inl (x7 + (1 : Int32)))] [] σ) ∧ (¬ (x2 >>> (x7 &&& 31)) &&& 1 = 1 → Wk 44 [some (.inr (.inr (5, 0))), none, some (.inl x2), some (.inl x3), some (.inl x4), none, some (.inl (x6 - (1 : Int32))), some (.inl (x7 + (1 : Int32)))] [] σ)))) ∧ (¬ (x2 >>> (x7 &&& 31)) &&& 1 = 1 → ((x6 ≤ (0 : Int32) → (vp_in x4 5 ∧ Wk 7 [some (.inr (.inr (5, 0))), none, some (.inl (x2 ||| ((1 : Int32) <<< (x7 &&& 31)))), some (.inl x3), some (.inl (x4 + (1 : Int32))), none, none, none] [] (sv_sA σ 41 0 x4.toNatClampNeg x7))) ∧ (¬ x6 ≤ (0 : Int32) → ((((x2 >>> (x7 &&& 31)) &&& 1 = 1 → Wk 44 [some (.inr (.inr (5, 0))), none, some (.inl x2), some (.inl x3), some (.inl x4), none, some (.inl (x6 - (0 : Int32))), some (.inl (x7 + (1 : Int32)))] [] σ) ∧ (¬ (x2 >>> (x7 &&& 31)) &&& 1 = 1 → Wk 44 [some (.inr (.inr (5, 0))), none, some (.inl x2), some (.inl x3), some (.inl x4), none, some (.inl (x6 - (1 : Int32))), some (.inl (x7 + (1 : Int32)))] [] σ))))))))
set_option maxRecDepth 100000 in
theorem bk_X5_laysOrder_44 (Wk : sv_K) (Kr : Option sv_AV → sv_S → Prop) (x2 : Int32) (x3 : Int32) (x4 : Int32) (x6 : Int32) (x7 : Int32) (σ : sv_S) (h : F_X5_laysOrder_44 Wk Kr x2 x3 x4 x6 x7 σ) : sv_vc tb_X5_laysOrder T_X5_laysOrder sv_all none Kr [(7, [true, false, true, true, true, false, false, false]), (44, [true, false, true, true, true, false, true, true])] Wk 500 44 [some (.inr (.inr (5, 0))), none, some (.inl x2), some (.inl x3), some (.inl x4), none, some (.inl x6), some (.inl x7)] [] σ := (match h with | ⟨z4a, z4b⟩ => ⟨fun z4y => sb_nt (by decide) ((match (z4a z4y) with | ⟨z1a, z1b⟩ => ⟨fun z1y => br_f (by decide) ((z1a z1y)), fun z1y => br_t (by decide) ((z1b z1y))⟩)), fun z4y => sb_nf (by decide) (⟨fun z3 => (((z4b z4y)).1 z3), fun z3 => (match (((z4b z4y)).2 z3) with | ⟨z2a, z2b⟩ => ⟨fun z2y => br_f (by decide) ((z2a z2y)), fun z2y => br_t (by decide) ((z2b z2y))⟩)⟩)⟩)
set_option maxRecDepth 100000 in
theorem m_X5_laysOrder (l : Launch) (hb : ∀ (Wk : sv_K) (Kr : Option sv_AV → sv_S → Prop), (∀ (order : Int32) (σ : sv_S), F_X5_laysOrder_0 Wk Kr order σ → Wk 0 [some (.inr (.inr (5, 0))), some (.inl order), none, none, none, none, none, none] [] σ) → (∀ (x2 : Int32) (x3 : Int32) (x4 : Int32) (σ : sv_S), F_X5_laysOrder_7 Wk Kr x2 x3 x4 σ → Wk 7 [some (.inr (.inr (5, 0))), none, some (.inl x2), some (.inl x3), some (.inl x4), none, none, none] [] σ) → (∀ (x2 : Int32) (x3 : Int32) (x4 : Int32) (x6 : Int32) (x7 : Int32) (σ : sv_S), F_X5_laysOrder_44 Wk Kr x2 x3 x4 x6 x7 σ → Wk 44 [some (.inr (.inr (5, 0))), none, some (.inl x2), some (.inl x3), some (.inl x4), none, some (.inl x6), some (.inl x7)] [] σ) → (∀ (order : Int32) (σ : sv_S), (∃ d : dD, ∃ o : Nat, (RM d σ ∧ (o < fct (dT d) ∧ order = nI o)) ∧ (∀ σ2 : sv_S, sq [41] σ σ2 ∧ (∀ k, k < dT d → sv_gA σ2 41 0 k = nI (ordX (dT d) o k)) → Kr none σ2)) → Wk 0 [some (.inr (.inr (5, 0))), some (.inl order), none, none, none, none, none, none] [] σ)) : sv_C l yX5_laysOrder cX5_laysOrder 8 none sv_all 1 22 sp_X5_laysOrder := by
  refine sv_meth sv_clok_all tb_X5_laysOrder T_X5_laysOrder (by decide) tbk_X5_laysOrder (Tok_X5_laysOrder l) ?_
  intro Wk Kr hc av σ hsp
  have hB := hb Wk Kr (fun order σ h => hc [(7, [true, false, true, true, true, false, false, false]), (44, [true, false, true, true, true, false, true, true])] 500 0 _ _ _ (bk_X5_laysOrder_0 Wk Kr order σ h)) (fun x2 x3 x4 σ h => hc [(7, [true, false, true, true, true, false, false, false]), (44, [true, false, true, true, true, false, true, true])] 500 7 _ _ _ (bk_X5_laysOrder_7 Wk Kr x2 x3 x4 σ h)) (fun x2 x3 x4 x6 x7 σ h => hc [(7, [true, false, true, true, true, false, false, false]), (44, [true, false, true, true, true, false, true, true])] 500 44 _ _ _ (bk_X5_laysOrder_44 Wk Kr x2 x3 x4 x6 x7 σ h))
  unfold sp_X5_laysOrder at hsp
  split at hsp
  · exact ⟨⟨by simp, by simp [sv_cat]⟩, hB _ _ hsp⟩
  · exact hsp.elim
theorem msc_succ (used n skip t : Nat) : msc used (n + 1) skip t = if used.testBit t = true then msc used n skip (t + 1) else if skip = 0 then t else msc used n (skip - 1) (t + 1) := rfl
set_option maxHeartbeats 4000000 in
set_option maxRecDepth 100000 in
theorem c_X5_laysOrder (l : Launch) : sv_C l yX5_laysOrder cX5_laysOrder 8 none sv_all 1 22 sp_X5_laysOrder := by
  refine m_X5_laysOrder l ?_
  intro Wk Kr e0 e7 e44 order σ ⟨d, o, ⟨hR, ho, hord⟩, h⟩
  subst hord
  have hT := hR.1.2.1
  suffices key : ∀ i, i ≤ dT d → ∀ σ', sq [41] σ σ' → (∀ k, k < i → sv_gA σ' 41 0 k = nI (ordX (dT d) o k)) → Wk 7 [some (.inr (.inr (5, 0))), none, some (.inl (nI (mrd (dT d) o i).2)), some (.inl (nI (mrd (dT d) o i).1)), some (.inl (nI i)), none, none, none] [] σ' from e0 _ _ (key 0 (by omega) σ (sq_rf _ _) (fun k hk => by omega))
  refine lpN (fun i hi ih σ' hs hr => ?_)
  have hR' := RM_fr hR hs
  apply e7
  unfold F_X5_laysOrder_7
  rw [hR'.2.2.2.1]
  refine pk_le (dT d) i (fun z => h _ ⟨hs, fun k hk => hr k (by omega)⟩) (fun z => ?_)
  have ei : nI (dT d) - 1 - nI i = nI (dT d - 1 - i) := by
    rw [show (1 : Int32) = nI 1 from rfl, pk_sub (by omega), pk_sub (by omega)]
  obtain ⟨hm1, hm2, hm3⟩ := mrd_ord (dT d) (by omega) o ho i z
  have hf := fct_lt (dT d - 1 - i) (by omega)
  have hol := ord_lt (dT d) (by omega) o ho i z
  refine ⟨dT d - 1 - i, ⟨by omega, ei⟩, fun v2 h2 => ?_⟩
  subst h2
  have hne : ¬ nI (fct (dT d - 1 - i)) = 0 := fun y => by
    have := (nI_eq (by omega) (by omega)).mp (show nI (fct (dT d - 1 - i)) = nI 0 from y)
    omega
  rw [pk_rem (by omega) (by omega) (by omega), pk_div (by omega) (by omega) (by omega)]
  refine ⟨hne, hne, ?_⟩
  have hdl : (mrd (dT d) o i).1 / fct (dT d - 1 - i) < 200 := Nat.lt_of_le_of_lt (Nat.div_le_self _ _) hm2
  have inner : ∀ n t skip, t + n = 5 → skip < 200 → msc (mrd (dT d) o i).2 n skip t = ordX (dT d) o i → Wk 44 [some (.inr (.inr (5, 0))), none, some (.inl (nI (mrd (dT d) o i).2)), some (.inl (nI ((mrd (dT d) o i).1 % fct (dT d - 1 - i)))), some (.inl (nI i)), none, some (.inl (nI skip)), some (.inl (nI t))] [] σ' := by
    intro n
    induction n with
    | zero =>
      intro t skip ht hsk he
      exfalso
      have : t = ordX (dT d) o i := he
      omega
    | succ n ihn =>
      intro t skip ht hsk he
      rw [msc_succ] at he
      apply e44
      unfold F_X5_laysOrder_44
      rw [bit_sh _ hm3 t (by omega), nI_1, nI_1, nI_clamp (by omega), show nI skip - 0 = nI skip by rw [show (0 : Int32) = nI 0 from rfl, pk_sub (by omega), Nat.sub_zero]]
      refine ⟨fun a => ⟨fun _ => ?_, fun b => absurd a b⟩, fun a => pk_le skip 0 (fun b => ⟨pk_in i 5 (by omega), ?_⟩) (fun b => ⟨fun c => absurd c a, fun _ => ?_⟩)⟩
      · rw [if_pos a] at he
        exact ihn (t + 1) skip (by omega) hsk he
      · rw [if_neg a, if_pos (by omega)] at he
        have h2t := two_lt t (by omega)
        rw [sh1 (by omega), or_nI _ hm3 _ h2t]
        have := ih z (sv_sA σ' 41 0 i (nI t)) (sq_tr hs (sq_sA _ _ _ _ (by decide))) (fun k hk => by
          by_cases e : k = i
          · rw [e, gA_same, he]
          · rw [gA_nj _ e]
            exact hr k (by omega))
        have e2 : (mrd (dT d) o (i + 1)).2 = (mrd (dT d) o i).2 ||| 2 ^ t := by
          show (mrd (dT d) o i).2 ||| 2 ^ (msc (mrd (dT d) o i).2 5 ((mrd (dT d) o i).1 / fct (dT d - 1 - i)) 0) = _
          rw [hm1, ← he]
        rw [e2] at this
        exact this
      · rw [if_neg a, if_neg (by omega)] at he
        rw [show (1 : Int32) = nI 1 from rfl, pk_sub (by omega)]
        exact ihn (t + 1) (skip - 1) (by omega) (by omega) he
  exact inner 5 0 _ (by omega) hdl hm1
-- ==== X5_isFreeFor
def sp_X5_isFreeFor : sv_P := fun av σ K => match av with
  | [.inr (.inr (5, 0)), .inl t, .inl fro] => ∃ d : dD, ∃ pl : Nat → Option Nat, ∃ e : Nat, ∃ a : Nat, (RM d σ ∧ MP d pl σ ∧ (e < dT d ∧ t = nI e) ∧ (a ≤ 60 ∧ fro = nI a)) ∧ ((frP d pl e a → K (some (.inl (1 : Int32))) σ) ∧ (¬ frP d pl e a → K (some (.inl (0 : Int32))) σ))
  | _ => False
def tb_X5_isFreeFor : List (Nat × (Instr × Nat)) := [(0, (.iload_n 2, 1)), (1, (.aload_n 0, 1)), (2, (.getfield 13, 3)), (5, (.iload_n 1, 1)), (6, (.iaload, 1)), (7, (.iadd, 1)), (8, (.aload_n 0, 1)), (9, (.getfield 22, 3)), (12, (.iconst 0, 1)), (13, (.iaload, 1)), (14, (.if_icmp .gt 7, 3)), (17, (.iconst 1, 1)), (18, (.goto 4, 3)), (21, (.iconst 0, 1)), (22, (.istore_n 3, 1)), (23, (.iconst 0, 1)), (24, (.istore 4, 2)), (26, (.iload 4, 2)), (28, (.aload_n 0, 1)), (29, (.getfield 54, 3)), (32, (.if_icmp .ge 68, 3)), (35, (.iload_n 3, 1)), (36, (.ifCond .eq 56, 3)), (39, (.aload_n 0, 1)), (40, (.getfield 43, 3)), (43, (.iload 4, 2)), (45, (.iaload, 1)), (46, (.bipush (-9), 2)), (48, (.if_icmp .eq 40, 3)), (51, (.aload_n 0, 1)), (52, (.getfield 43, 3)), (55, (.iload 4, 2)), (57, (.iaload, 1)), (58, (.aload_n 0, 1)), (59, (.getfield 13, 3)), (62, (.iload 4, 2)), (64, (.iaload, 1)), (65, (.iadd, 1)), (66, (.iload_n 2, 1)), (67, (.if_icmp .le 21, 3)), (70, (.iload_n 2, 1)), (71, (.aload_n 0, 1)), (72, (.getfield 13, 3)), (75, (.iload_n 1, 1)), (76, (.iaload, 1)), (77, (.iadd, 1)), (78, (.aload_n 0, 1)), (79, (.getfield 43, 3)), (82, (.iload 4, 2)), (84, (.iaload, 1)), (85, (.if_icmp .gt 7, 3)), (88, (.iconst 1, 1)), (89, (.goto 4, 3)), (92, (.iconst 0, 1)), (93, (.istore_n 3, 1)), (94, (.iinc 4 1, 3)), (97, (.goto (-71), 3)), (100, (.iload_n 3, 1)), (101, (.ireturn, 1))]
set_option maxRecDepth 100000 in
theorem tbk_X5_isFreeFor : sv_tbok cX5_isFreeFor tb_X5_isFreeFor = true := by decide +kernel
def cal_X5_isFreeFor : List (Nat × (Nat × Nat × sv_P)) := []
def T_X5_isFreeFor : sv_T := (flX5, sfX5, kcX5, klX5, cal_X5_isFreeFor)
set_option maxRecDepth 100000 in
theorem Tok_X5_isFreeFor (l : Launch) : sv_Tok l RX5 sv_all 0 0 T_X5_isFreeFor := ⟨flokX5, sfokX5, kcokX5, klokX5, fun _ h => absurd h List.not_mem_nil⟩
theorem kw_X5_isFreeFor : Cond.instanceMethod yX5_isFreeFor ∈ sv_tb ∧ Cond.selects yX5_isFreeFor.cls yX5_isFreeFor yX5_isFreeFor ∈ sv_tb ∧ Cond.initialized yX5_isFreeFor.cls ∈ sv_tb ∧ Cond.code yX5_isFreeFor cX5_isFreeFor 5 (some .boolean) ∈ sv_tb := ⟨sv_mem 838 (by decide +kernel) rfl, sv_mem 47 (by decide +kernel) rfl, sv_mem 56 (by decide +kernel) rfl, sv_mem 839 (by decide +kernel) rfl⟩
theorem kd_X5_isFreeFor : yX5_isFreeFor.cls ≠ "java/lang/invoke/MethodHandle" ∧ yX5_isFreeFor.cls ≠ "java/lang/invoke/VarHandle" ∧ (parseMethodDescriptor yX5_isFreeFor.desc).map (fun d => d.parameters.length) = some 2 := by decide +kernel
def F_X5_isFreeFor_0 (Wk : sv_K) (Kr : Option sv_AV → sv_S → Prop) (t : Int32) (fro : Int32) (σ : sv_S) : Prop := (vp_in t 5 ∧ (((sv_gA σ 35 0 0) < (fro + (sv_gA σ 32 0 t.toNatClampNeg)) → Wk 26 [some (.inr (.inr (5, 0))), some (.inl t), some (.inl fro), some (.inl (0 : Int32)), some (.inl (0 : Int32))] [] σ) ∧ (¬ (sv_gA σ 35 0 0) < (fro + (sv_gA σ 32 0 t.toNatClampNeg)) → Wk 26 [some (.inr (.inr (5, 0))), some (.inl t), some (.inl fro), some (.inl (1 : Int32)), some (.inl (0 : Int32))] [] σ)))
set_option maxRecDepth 100000 in
theorem bk_X5_isFreeFor_0 (Wk : sv_K) (Kr : Option sv_AV → sv_S → Prop) (t : Int32) (fro : Int32) (σ : sv_S) (h : F_X5_isFreeFor_0 Wk Kr t fro σ) : sv_vc tb_X5_isFreeFor T_X5_isFreeFor sv_all (some .boolean) Kr [(26, [true, true, true, true, true])] Wk 500 0 [some (.inr (.inr (5, 0))), some (.inl t), some (.inl fro), none, none] [] σ := ⟨(h).1, ⟨sb_vin (by decide), ((h).2)⟩⟩
def F_X5_isFreeFor_26 (Wk : sv_K) (Kr : Option sv_AV → sv_S → Prop) (x1 : Int32) (x2 : Int32) (x3 : Int32) (x4 : Int32) (σ : sv_S) : Prop := (((sv_gA σ 5 0 1) ≤ x4 → (narrow .boolean (.int x3) = .int x3 ∧ Kr (some (.inl x3)) σ)) ∧ (¬ (sv_gA σ 5 0 1) ≤ x4 → ((x3 = (0 : Int32) → Wk 26 [some (.inr (.inr (5, 0))), some (.inl x1), some (.inl x2), some (.inl (0 : Int32)), some (.inl (x4 + (1 : Int32)))] [] σ) ∧ (¬ x3 = (0 : Int32) → (vp_in x4 5 ∧ (((sv_gA σ 42 0 x4.toNatClampNeg) = (-9 : Int32) → Wk 26 [some (.inr (.inr (5, 0))), some (.inl x1), some (.inl x2), some (.inl (1 : Int32)), some (.inl (x4 + (1 : Int32)))] [] σ) ∧ (¬ (sv_gA σ 42 0 x4.toNatClampNeg) = (-9 : Int32) → (vp_in x4 5 ∧ (vp_in x4 5 ∧ ((((sv_gA σ 42 0 x4.toNatClampNeg) + (sv_gA σ 32 0 x4.toNatClampNeg)) ≤ x2 → Wk 26 [some (.inr (.inr (5, 0))), some (.inl x1), some (.inl x2), some (.inl (1 : Int32)), some (.inl (x4 + (1 : Int32)))] [] σ) ∧ (¬ ((sv_gA σ 42 0 x4.toNatClampNeg) + (sv_gA σ 32 0 x4.toNatClampNeg)) ≤ x2 → (vp_in x1 5 ∧ (vp_in x4 5 ∧ (((sv_gA σ 42 0 x4.toNatClampNeg) < (x2 + (sv_gA σ 32 0 x1.toNatClampNeg)) → Wk 26 [some (.inr (.inr (5, 0))), some (.inl x1), some (.inl x2), some (.inl (0 : Int32)), some (.inl (x4 + (1 : Int32)))] [] σ) ∧ (¬ (sv_gA σ 42 0 x4.toNatClampNeg) < (x2 + (sv_gA σ 32 0 x1.toNatClampNeg)) → Wk 26 [some (.inr (.inr (5, 0))), some (.inl x1), some (.inl x2), some (.inl (1 : Int32)), some (.inl (x4 + (1 : Int32)))] [] σ)))))))))))))))
set_option maxRecDepth 100000 in
theorem bk_X5_isFreeFor_26 (Wk : sv_K) (Kr : Option sv_AV → sv_S → Prop) (x1 : Int32) (x2 : Int32) (x3 : Int32) (x4 : Int32) (σ : sv_S) (h : F_X5_isFreeFor_26 Wk Kr x1 x2 x3 x4 σ) : sv_vc tb_X5_isFreeFor T_X5_isFreeFor sv_all (some .boolean) Kr [(26, [true, true, true, true, true])] Wk 500 26 [some (.inr (.inr (5, 0))), some (.inl x1), some (.inl x2), some (.inl x3), some (.inl x4)] [] σ := h
set_option maxRecDepth 100000 in
theorem m_X5_isFreeFor (l : Launch) (hb : ∀ (Wk : sv_K) (Kr : Option sv_AV → sv_S → Prop), (∀ (t : Int32) (fro : Int32) (σ : sv_S), F_X5_isFreeFor_0 Wk Kr t fro σ → Wk 0 [some (.inr (.inr (5, 0))), some (.inl t), some (.inl fro), none, none] [] σ) → (∀ (x1 : Int32) (x2 : Int32) (x3 : Int32) (x4 : Int32) (σ : sv_S), F_X5_isFreeFor_26 Wk Kr x1 x2 x3 x4 σ → Wk 26 [some (.inr (.inr (5, 0))), some (.inl x1), some (.inl x2), some (.inl x3), some (.inl x4)] [] σ) → (∀ (t : Int32) (fro : Int32) (σ : sv_S), (∃ d : dD, ∃ pl : Nat → Option Nat, ∃ e : Nat, ∃ a : Nat, (RM d σ ∧ MP d pl σ ∧ (e < dT d ∧ t = nI e) ∧ (a ≤ 60 ∧ fro = nI a)) ∧ ((frP d pl e a → Kr (some (.inl (1 : Int32))) σ) ∧ (¬ frP d pl e a → Kr (some (.inl (0 : Int32))) σ))) → Wk 0 [some (.inr (.inr (5, 0))), some (.inl t), some (.inl fro), none, none] [] σ)) : sv_C l yX5_isFreeFor cX5_isFreeFor 5 (some .boolean) sv_all 0 0 sp_X5_isFreeFor := by
  refine sv_meth sv_clok_all tb_X5_isFreeFor T_X5_isFreeFor (by decide) tbk_X5_isFreeFor (Tok_X5_isFreeFor l) ?_
  intro Wk Kr hc av σ hsp
  have hB := hb Wk Kr (fun t fro σ h => hc [(26, [true, true, true, true, true])] 500 0 _ _ _ (bk_X5_isFreeFor_0 Wk Kr t fro σ h)) (fun x1 x2 x3 x4 σ h => hc [(26, [true, true, true, true, true])] 500 26 _ _ _ (bk_X5_isFreeFor_26 Wk Kr x1 x2 x3 x4 σ h))
  unfold sp_X5_isFreeFor at hsp
  split at hsp
  · exact ⟨⟨by simp, by simp [sv_cat]⟩, hB _ _ _ hsp⟩
  · exact hsp.elim
set_option maxHeartbeats 4000000 in
set_option maxRecDepth 100000 in
theorem c_X5_isFreeFor (l : Launch) : sv_C l yX5_isFreeFor cX5_isFreeFor 5 (some .boolean) sv_all 0 0 sp_X5_isFreeFor := by
  refine m_X5_isFreeFor l ?_
  intro Wk Kr e0 e26 t from' σ ⟨d, pl, e, a, ⟨hR, hM, ⟨he, ht⟩, ha, hf⟩, h1, h0⟩
  subst ht
  subst hf
  have hT := hR.1.2.1
  have hZ := hR.1.2.2.2.1
  have hS := hR.1.2.2.2.2.2.2.1
  have hze := hZ e he
  have key : ∀ n, n ≤ dT d → ∀ x : Int32, (x = 0 ∨ x = 1) → (x = 1 ↔ (a + dZ d e ≤ dS d 0 ∧ ∀ y, y < n → ∀ q, pl y = some q → q + dZ d y ≤ a ∨ a + dZ d e ≤ q)) → Wk 26 [some (.inr (.inr (5, 0))), some (.inl (nI e)), some (.inl (nI a)), some (.inl x), some (.inl (nI n))] [] σ := by
    refine lpN (fun n hn ih x hx hxe => ?_)
    apply e26
    unfold F_X5_isFreeFor_26
    rw [hR.2.2.2.1, nI_1, nI_clamp (by omega), nI_clamp (by omega)]
    refine pk_le (dT d) n (fun y => ?_) (fun y => ?_)
    · rw [show n = dT d by omega] at hxe
      rcases hx with rfl | rfl
      · exact ⟨rfl, h0 (fun b => absurd (hxe.mpr b) (by decide))⟩
      · exact ⟨rfl, h1 (hxe.mp rfl)⟩
    · have ih := ih y
      have hin := pk_in (x := nI n) n 5 (by omega)
      have hie := pk_in (x := nI e) e 5 (by omega)
      rw [hM.1 n y, hR.2.2.2.2.2.1 n y, hR.2.2.2.2.2.1 e he]
      refine ⟨fun b => ih 0 (Or.inl rfl) ?_, fun b => ⟨hin, ?_⟩⟩
      · refine ⟨fun c => absurd c (by decide), fun c => ?_⟩
        have := hxe.mpr ⟨c.1, fun z hz => c.2 z (by omega)⟩
        rw [b] at this
        exact absurd this (by decide)
      · have hx1 := hxe.mp (hx.resolve_left b)
        cases hp : pl n with
        | none =>
          refine ⟨fun _ => ih 1 (Or.inr rfl) ?_, fun c => absurd rfl c⟩
          refine ⟨fun _ => ⟨hx1.1, fun z hz q hq => ?_⟩, fun _ => rfl⟩
          by_cases ez : z = n
          · rw [ez, hp] at hq
            cases hq
          · exact hx1.2 z (by omega) q hq
        | some q0 =>
          have hq60 := hM.2 n q0 y hp
          refine ⟨fun c => absurd c (m9_ne (show q0 < 2 ^ 31 by omega)), fun _ => ⟨hin, hin, ?_⟩⟩
          rw [show fpI (some q0) = nI q0 from rfl, nI_add, nI_add]
          have hzn := hZ n y
          refine pk_le (q0 + dZ d n) a (fun c => ih 1 (Or.inr rfl) ?_) (fun c => ⟨hie, hin, pk_lt q0 (a + dZ d e) (fun g => ih 0 (Or.inl rfl) ?_) (fun g => ih 1 (Or.inr rfl) ?_)⟩)
          · refine ⟨fun _ => ⟨hx1.1, fun z hz q hq => ?_⟩, fun _ => rfl⟩
            by_cases ez : z = n
            · rw [ez, hp] at hq
              cases hq
              rw [ez]
              exact Or.inl c
            · exact hx1.2 z (by omega) q hq
          · refine ⟨fun z => absurd z (by decide), fun z => ?_⟩
            have := z.2 n (by omega) q0 hp
            omega
          · refine ⟨fun _ => ⟨hx1.1, fun z hz q hq => ?_⟩, fun _ => rfl⟩
            by_cases ez : z = n
            · rw [ez, hp] at hq
              cases hq
              exact Or.inr g
            · exact hx1.2 z (by omega) q hq
  apply e0
  unfold F_X5_isFreeFor_0
  rw [nI_clamp (by omega), hR.2.2.2.2.2.1 e he, hR.2.2.2.2.2.2.2.2.1 0 (by omega), nI_add]
  refine ⟨pk_in e 5 (by omega), pk_lt (dS d 0) (a + dZ d e) (fun y => key 0 (by omega) 0 (Or.inl rfl) ?_) (fun y => key 0 (by omega) 1 (Or.inr rfl) ?_)⟩
  · exact ⟨fun z => absurd z (by decide), fun z => by omega⟩
  · exact ⟨fun _ => ⟨y, fun z hz => by omega⟩, fun _ => rfl⟩
-- ==== X5_findsPlace
def sp_X5_findsPlace : sv_P := fun av σ K => match av with
  | [.inr (.inr (5, 0)), .inl t] => ∃ d : dD, ∃ pl : Nat → Option Nat, ∃ rc : Nat, ∃ e : Nat, (RM d σ ∧ MP d pl σ ∧ (e < dT d ∧ t = nI e) ∧ (sv_gA σ 5 0 15 = nI rc ∧ rc ≤ 60)) ∧ (∀ v : Int32, ∀ σ2 : sv_S, pq [42] σ σ2 ∧ fndP d pl rc e v σ2 → K (some (.inl v)) σ2)
  | _ => False
def tb_X5_findsPlace : List (Nat × (Instr × Nat)) := [(0, (.iconst 0, 1)), (1, (.istore_n 2, 1)), (2, (.iload_n 2, 1)), (3, (.aload_n 0, 1)), (4, (.getfield 22, 3)), (7, (.iconst 0, 1)), (8, (.iaload, 1)), (9, (.if_icmp .ge 61, 3)), (12, (.aload_n 0, 1)), (13, (.iload_n 1, 1)), (14, (.iload_n 2, 1)), (15, (.invokevirtual 165, 3)), (18, (.ifCond .eq 46, 3)), (21, (.aload_n 0, 1)), (22, (.getfield 43, 3)), (25, (.iload_n 1, 1)), (26, (.iload_n 2, 1)), (27, (.iastore, 1)), (28, (.aload_n 0, 1)), (29, (.iload_n 2, 1)), (30, (.aload_n 0, 1)), (31, (.getfield 13, 3)), (34, (.iload_n 1, 1)), (35, (.iaload, 1)), (36, (.iadd, 1)), (37, (.aload_n 0, 1)), (38, (.getfield 168, 3)), (41, (.if_icmp .le 14, 3)), (44, (.iload_n 2, 1)), (45, (.aload_n 0, 1)), (46, (.getfield 13, 3)), (49, (.iload_n 1, 1)), (50, (.iaload, 1)), (51, (.iadd, 1)), (52, (.goto 7, 3)), (55, (.aload_n 0, 1)), (56, (.getfield 168, 3)), (59, (.putfield 168, 3)), (62, (.iconst 1, 1)), (63, (.ireturn, 1)), (64, (.iinc 2 1, 3)), (67, (.goto (-65), 3)), (70, (.iconst 0, 1)), (71, (.ireturn, 1))]
set_option maxRecDepth 100000 in
theorem tbk_X5_findsPlace : sv_tbok cX5_findsPlace tb_X5_findsPlace = true := by decide +kernel
def cal_X5_findsPlace : List (Nat × (Nat × Nat × sv_P)) := [(165, (3, 5, sp_X5_isFreeFor))]
def T_X5_findsPlace : sv_T := (flX5, sfX5, kcX5, klX5, cal_X5_findsPlace)
set_option maxRecDepth 100000 in
theorem Tok_X5_findsPlace (l : Launch) : sv_Tok l RX5 sv_all 1 24 T_X5_findsPlace := ⟨flokX5, sfokX5, kcokX5, klokX5, List.forall_mem_cons.mpr ⟨⟨fun _ => sv_COv_of (c_X5_isFreeFor l) sv_clok_all (sv_mem 836 (by decide +kernel) rfl) kw_X5_isFreeFor.1 kw_X5_isFreeFor.2.1 kw_X5_isFreeFor.2.2.1 kw_X5_isFreeFor.2.2.2 kd_X5_isFreeFor rfl (by decide) (by decide +kernel) rfl (by decide), fun h => absurd h (by decide)⟩, fun _ h => absurd h List.not_mem_nil⟩⟩
theorem kw_X5_findsPlace : Cond.instanceMethod yX5_findsPlace ∈ sv_tb ∧ Cond.selects yX5_findsPlace.cls yX5_findsPlace yX5_findsPlace ∈ sv_tb ∧ Cond.initialized yX5_findsPlace.cls ∈ sv_tb ∧ Cond.code yX5_findsPlace cX5_findsPlace 3 (some .boolean) ∈ sv_tb := ⟨sv_mem 834 (by decide +kernel) rfl, sv_mem 46 (by decide +kernel) rfl, sv_mem 56 (by decide +kernel) rfl, sv_mem 835 (by decide +kernel) rfl⟩
theorem kd_X5_findsPlace : yX5_findsPlace.cls ≠ "java/lang/invoke/MethodHandle" ∧ yX5_findsPlace.cls ≠ "java/lang/invoke/VarHandle" ∧ (parseMethodDescriptor yX5_findsPlace.desc).map (fun d => d.parameters.length) = some 1 := by decide +kernel
def F_X5_findsPlace_0 (Wk : sv_K) (Kr : Option sv_AV → sv_S → Prop) (t : Int32) (σ : sv_S) : Prop := Wk 2 [some (.inr (.inr (5, 0))), some (.inl t), some (.inl (0 : Int32))] [] σ
set_option maxRecDepth 100000 in
theorem bk_X5_findsPlace_0 (Wk : sv_K) (Kr : Option sv_AV → sv_S → Prop) (t : Int32) (σ : sv_S) (h : F_X5_findsPlace_0 Wk Kr t σ) : sv_vc tb_X5_findsPlace T_X5_findsPlace sv_all (some .boolean) Kr [(2, [true, true, true])] Wk 500 0 [some (.inr (.inr (5, 0))), some (.inl t), none] [] σ := h
def F_X5_findsPlace_2 (Wk : sv_K) (Kr : Option sv_AV → sv_S → Prop) (x1 : Int32) (x2 : Int32) (σ : sv_S) : Prop := (((sv_gA σ 35 0 0) ≤ x2 → Kr (some (.inl (0 : Int32))) σ) ∧ (¬ (sv_gA σ 35 0 0) ≤ x2 → (∃ d1 : dD, ∃ pl2 : Nat → Option Nat, ∃ e3 : Nat, ∃ a4 : Nat, (RM d1 σ ∧ MP d1 pl2 σ ∧ (e3 < dT d1 ∧ x1 = nI e3) ∧ (a4 ≤ 60 ∧ x2 = nI a4)) ∧ ((frP d1 pl2 e3 a4 → (vp_in x1 5 ∧ (vp_in x1 5 ∧ (((x2 + (sv_gA σ 32 0 x1.toNatClampNeg)) ≤ (sv_gA σ 5 0 15) → Kr (some (.inl (1 : Int32))) (sv_sA (sv_sA σ 42 0 x1.toNatClampNeg x2) 5 0 15 (sv_gA σ 5 0 15))) ∧ (¬ (x2 + (sv_gA σ 32 0 x1.toNatClampNeg)) ≤ (sv_gA σ 5 0 15) → (vp_in x1 5 ∧ Kr (some (.inl (1 : Int32))) (sv_sA (sv_sA σ 42 0 x1.toNatClampNeg x2) 5 0 15 (x2 + (sv_gA σ 32 0 x1.toNatClampNeg))))))))) ∧ (¬ frP d1 pl2 e3 a4 → Wk 2 [some (.inr (.inr (5, 0))), some (.inl x1), some (.inl (x2 + (1 : Int32)))] [] σ)))))
set_option maxRecDepth 100000 in
theorem bk_X5_findsPlace_2 (Wk : sv_K) (Kr : Option sv_AV → sv_S → Prop) (x1 : Int32) (x2 : Int32) (σ : sv_S) (h : F_X5_findsPlace_2 Wk Kr x1 x2 σ) : sv_vc tb_X5_findsPlace T_X5_findsPlace sv_all (some .boolean) Kr [(2, [true, true, true])] Wk 500 2 [some (.inr (.inr (5, 0))), some (.inl x1), some (.inl x2)] [] σ := ⟨sb_vin (by decide), ⟨fun z7 => ⟨rfl, ((h).1 z7)⟩, fun z7 => (match ((h).2 z7) with | ⟨d1, pl2, e3, a4, z6p, z6a, z6b⟩ => ⟨d1, pl2, e3, a4, z6p, fun z6y => br_f (by decide) (⟨((z6a z6y)).1, ⟨((((z6a z6y)).2)).1, ⟨fun z5 => ⟨rfl, (((((((z6a z6y)).2)).2)).1 z5)⟩, fun z5 => ⟨((((((((z6a z6y)).2)).2)).2 z5)).1, ⟨rfl, (((((((((z6a z6y)).2)).2)).2 z5)).2)⟩⟩⟩⟩⟩), fun z6y => br_t (by decide) ((z6b z6y))⟩)⟩⟩
set_option maxRecDepth 100000 in
theorem m_X5_findsPlace (l : Launch) (hb : ∀ (Wk : sv_K) (Kr : Option sv_AV → sv_S → Prop), (∀ (t : Int32) (σ : sv_S), F_X5_findsPlace_0 Wk Kr t σ → Wk 0 [some (.inr (.inr (5, 0))), some (.inl t), none] [] σ) → (∀ (x1 : Int32) (x2 : Int32) (σ : sv_S), F_X5_findsPlace_2 Wk Kr x1 x2 σ → Wk 2 [some (.inr (.inr (5, 0))), some (.inl x1), some (.inl x2)] [] σ) → (∀ (t : Int32) (σ : sv_S), (∃ d : dD, ∃ pl : Nat → Option Nat, ∃ rc : Nat, ∃ e : Nat, (RM d σ ∧ MP d pl σ ∧ (e < dT d ∧ t = nI e) ∧ (sv_gA σ 5 0 15 = nI rc ∧ rc ≤ 60)) ∧ (∀ v : Int32, ∀ σ2 : sv_S, pq [42] σ σ2 ∧ fndP d pl rc e v σ2 → Kr (some (.inl v)) σ2)) → Wk 0 [some (.inr (.inr (5, 0))), some (.inl t), none] [] σ)) : sv_C l yX5_findsPlace cX5_findsPlace 3 (some .boolean) sv_all 1 24 sp_X5_findsPlace := by
  refine sv_meth sv_clok_all tb_X5_findsPlace T_X5_findsPlace (by decide) tbk_X5_findsPlace (Tok_X5_findsPlace l) ?_
  intro Wk Kr hc av σ hsp
  have hB := hb Wk Kr (fun t σ h => hc [(2, [true, true, true])] 500 0 _ _ _ (bk_X5_findsPlace_0 Wk Kr t σ h)) (fun x1 x2 σ h => hc [(2, [true, true, true])] 500 2 _ _ _ (bk_X5_findsPlace_2 Wk Kr x1 x2 σ h))
  unfold sp_X5_findsPlace at hsp
  split at hsp
  · exact ⟨⟨by simp, by simp [sv_cat]⟩, hB _ _ hsp⟩
  · exact hsp.elim
set_option maxHeartbeats 4000000 in
set_option maxRecDepth 100000 in
theorem c_X5_findsPlace (l : Launch) : sv_C l yX5_findsPlace cX5_findsPlace 3 (some .boolean) sv_all 1 24 sp_X5_findsPlace := by
  refine m_X5_findsPlace l ?_
  intro Wk Kr e0 e2 t σ ⟨d, pl, rc, e, ⟨hR, hM, ⟨he, ht⟩, hrc, hrc6⟩, h⟩
  subst ht
  have hT := hR.1.2.1
  have hS := hR.1.2.2.2.2.2.2.1
  have hze := hR.1.2.2.2.1 e he
  suffices key : ∀ n, n ≤ dS d 0 → (∀ j, j < n → ¬ frP d pl e j) → Wk 2 [some (.inr (.inr (5, 0))), some (.inl (nI e)), some (.inl (nI n))] [] σ from e0 _ _ (key 0 (by omega) (fun j hj => by omega))
  refine lpN (fun n hn ih hno => ?_)
  apply e2
  unfold F_X5_findsPlace_2
  rw [hR.2.2.2.2.2.2.2.2.1 0 (by omega), nI_1, nI_clamp (by omega), hR.2.2.2.2.2.1 e he, hrc, nI_add]
  refine pk_le (dS d 0) n (fun y => h _ _ ⟨pq_rf _ _, ?_⟩) (fun y => ⟨d, pl, e, n, ⟨hR, hM, ⟨he, rfl⟩, by omega, rfl⟩, fun a => ?_, fun a => ih y (fun j hj => ?_)⟩)
  · have hnone : fplace d pl e = none := fplace_none (fun j hj => by
      rcases Nat.lt_or_ge j n with g | g
      · exact hno j g hj
      · have := hj.1
        omega)
    exact ⟨fun a ha => (by rw [hnone] at ha; cases ha), fun _ => rfl⟩
  · have hfp := fplace_some hR.1 he a hno
    have ha := a.1
    have hin := pk_in (x := nI e) e 5 (by omega)
    have fin : ∀ v : Int32, v = nI (max rc (n + dZ d e)) → Kr (some (.inl (1 : Int32))) (sv_sA (sv_sA σ 42 0 e (nI n)) 5 0 15 v) := by
      intro v hv
      refine h _ _ ⟨pq_tr (pq_of (gl := [42]) (sq_sA _ _ _ _ (by decide)) (by decide) (by decide)) (pq_15 _ _), ?_⟩
      refine ⟨fun a2 ha2 => ?_, fun hn2 => by rw [hfp] at hn2; cases hn2⟩
      rw [hfp] at ha2
      obtain rfl := Option.some.inj ha2
      refine ⟨rfl, ⟨fun x hx => ?_, fun x q hx hq => ?_⟩, ?_, by omega⟩
      · rw [gA_ng _ (by decide)]
        unfold plset
        by_cases ex : x = e
        · rw [if_pos ex, ex, gA_same]
          rfl
        · rw [if_neg ex, gA_nj _ ex]
          exact hM.1 x hx
      · unfold plset at hq
        by_cases ex : x = e
        · rw [if_pos ex] at hq
          cases hq
          rw [ex]
          omega
        · rw [if_neg ex] at hq
          exact hM.2 x q hx hq
      · rw [gA_same]
        exact hv
    refine ⟨hin, hin, pk_le (n + dZ d e) rc (fun g => fin _ ?_) (fun g => ⟨hin, fin _ ?_⟩)⟩
    · rw [Nat.max_eq_left g]
    · rw [Nat.max_eq_right (by omega)]
  · by_cases ej : j = n
    · rw [ej]
      exact a
    · exact hno j (by omega)
-- ==== X5_lays
def sp_X5_lays : sv_P := fun av σ K => match av with
  | [.inr (.inr (5, 0)), .inl p] => ∃ d : dD, ∃ pl : Nat → Option Nat, ∃ rc : Nat, ∃ q : Nat, ∃ o : Nat, (RM d σ ∧ MP d pl σ ∧ (q < dP d ∧ p = nI q) ∧ (sv_gA σ 5 0 15 = nI rc ∧ rc ≤ 60) ∧ (o < fct (dT d) ∧ ∀ k, k < dT d → sv_gA σ 41 0 k = nI (ordX (dT d) o k)) ∧ (∀ t, t < dT d → (pl t ≠ none ↔ (prv (dL d) q).testBit t = true))) ∧ (∀ v : Int32, ∀ σ2 : sv_S, pq [42] σ σ2 ∧ layP d (plAll d (ordX (dT d) o) (fetL (dL d) q) (dT d) (plgone pl (nd (prv (dL d) q) (dL d q)), rc)) v σ2 → K (some (.inl v)) σ2)
  | _ => False
def tb_X5_lays : List (Nat × (Instr × Nat)) := [(0, (.iconst 0, 1)), (1, (.istore_n 2, 1)), (2, (.iload_n 2, 1)), (3, (.aload_n 0, 1)), (4, (.getfield 54, 3)), (7, (.if_icmp .ge 39, 3)), (10, (.aload_n 0, 1)), (11, (.getfield 43, 3)), (14, (.iload_n 2, 1)), (15, (.aload_n 0, 1)), (16, (.getfield 25, 3)), (19, (.iload_n 1, 1)), (20, (.iaload, 1)), (21, (.iload_n 2, 1)), (22, (.invokestatic 78, 3)), (25, (.ifCond .eq 12, 3)), (28, (.aload_n 0, 1)), (29, (.getfield 43, 3)), (32, (.iload_n 2, 1)), (33, (.iaload, 1)), (34, (.goto 5, 3)), (37, (.bipush (-9), 2)), (39, (.iastore, 1)), (40, (.iinc 2 1, 3)), (43, (.goto (-41), 3)), (46, (.iconst 0, 1)), (47, (.istore_n 2, 1)), (48, (.iload_n 2, 1)), (49, (.aload_n 0, 1)), (50, (.getfield 54, 3)), (53, (.if_icmp .ge 35, 3)), (56, (.aload_n 0, 1)), (57, (.getfield 40, 3)), (60, (.iload_n 2, 1)), (61, (.iaload, 1)), (62, (.istore_n 3, 1)), (63, (.aload_n 0, 1)), (64, (.iload_n 3, 1)), (65, (.iload_n 1, 1)), (66, (.invokevirtual 139, 3)), (69, (.ifCond .eq 13, 3)), (72, (.aload_n 0, 1)), (73, (.iload_n 3, 1)), (74, (.invokevirtual 171, 3)), (77, (.ifCond .ne 5, 3)), (80, (.iconst 0, 1)), (81, (.ireturn, 1)), (82, (.iinc 2 1, 3)), (85, (.goto (-37), 3)), (88, (.iconst 1, 1)), (89, (.ireturn, 1))]
set_option maxRecDepth 100000 in
theorem tbk_X5_lays : sv_tbok cX5_lays tb_X5_lays = true := by decide +kernel
def cal_X5_lays : List (Nat × (Nat × Nat × sv_P)) := [(78, (2, 90, sp_X5_has)), (139, (3, 5, sp_X5_comesIn)), (171, (2, 5, sp_X5_findsPlace))]
def T_X5_lays : sv_T := (flX5, sfX5, kcX5, klX5, cal_X5_lays)
set_option maxRecDepth 100000 in
theorem Tok_X5_lays (l : Launch) : sv_Tok l RX5 sv_all 2 46 T_X5_lays := ⟨flokX5, sfokX5, kcokX5, klokX5, List.forall_mem_cons.mpr ⟨⟨fun h => absurd h (by decide), fun _ => sv_COs_gen (c_X5_has l) (Or.inl (sv_mem 701 (by decide +kernel) rfl)) kw_X5_has.1 kw_X5_has.2.1 kw_X5_has.2.2 kd_X5_has rfl (by decide) (by decide +kernel)⟩, List.forall_mem_cons.mpr ⟨⟨fun _ => sv_COv_of (c_X5_comesIn l) sv_clok_all (sv_mem 768 (by decide +kernel) rfl) kw_X5_comesIn.1 kw_X5_comesIn.2.1 kw_X5_comesIn.2.2.1 kw_X5_comesIn.2.2.2 kd_X5_comesIn rfl (by decide) (by decide +kernel) rfl (by decide), fun h => absurd h (by decide)⟩, List.forall_mem_cons.mpr ⟨⟨fun _ => sv_COv_of (c_X5_findsPlace l) sv_clok_all (sv_mem 832 (by decide +kernel) rfl) kw_X5_findsPlace.1 kw_X5_findsPlace.2.1 kw_X5_findsPlace.2.2.1 kw_X5_findsPlace.2.2.2 kd_X5_findsPlace rfl (by decide) (by decide +kernel) rfl (by decide), fun h => absurd h (by decide)⟩, fun _ h => absurd h List.not_mem_nil⟩⟩⟩⟩
theorem kw_X5_lays : Cond.instanceMethod yX5_lays ∈ sv_tb ∧ Cond.selects yX5_lays.cls yX5_lays yX5_lays ∈ sv_tb ∧ Cond.initialized yX5_lays.cls ∈ sv_tb ∧ Cond.code yX5_lays cX5_lays 4 (some .boolean) ∈ sv_tb := ⟨sv_mem 830 (by decide +kernel) rfl, sv_mem 45 (by decide +kernel) rfl, sv_mem 56 (by decide +kernel) rfl, sv_mem 831 (by decide +kernel) rfl⟩
theorem kd_X5_lays : yX5_lays.cls ≠ "java/lang/invoke/MethodHandle" ∧ yX5_lays.cls ≠ "java/lang/invoke/VarHandle" ∧ (parseMethodDescriptor yX5_lays.desc).map (fun d => d.parameters.length) = some 1 := by decide +kernel
def F_X5_lays_0 (Wk : sv_K) (Kr : Option sv_AV → sv_S → Prop) (p : Int32) (σ : sv_S) : Prop := Wk 2 [some (.inr (.inr (5, 0))), some (.inl p), some (.inl (0 : Int32)), none] [] σ
set_option maxRecDepth 100000 in
theorem bk_X5_lays_0 (Wk : sv_K) (Kr : Option sv_AV → sv_S → Prop) (p : Int32) (σ : sv_S) (h : F_X5_lays_0 Wk Kr p σ) : sv_vc tb_X5_lays T_X5_lays sv_all (some .boolean) Kr [(2, [true, true, true, false]), (48, [true, true, true, false])] Wk 500 0 [some (.inr (.inr (5, 0))), some (.inl p), none, none] [] σ := h
def F_X5_lays_2 (Wk : sv_K) (Kr : Option sv_AV → sv_S → Prop) (x1 : Int32) (x2 : Int32) (σ : sv_S) : Prop := (((sv_gA σ 5 0 1) ≤ x2 → Wk 48 [some (.inr (.inr (5, 0))), some (.inl x1), some (.inl (0 : Int32)), none] [] σ) ∧ (¬ (sv_gA σ 5 0 1) ≤ x2 → (vp_in x1 10 ∧ (((((sv_gA σ 36 0 x1.toNatClampNeg) >>> (x2 &&& 31)) &&& 1 = 1 → (vp_in x2 5 ∧ (vp_in x2 5 ∧ Wk 2 [some (.inr (.inr (5, 0))), some (.inl x1), some (.inl (x2 + (1 : Int32))), none] [] (sv_sA σ 42 0 x2.toNatClampNeg (sv_gA σ 42 0 x2.toNatClampNeg))))) ∧ (¬ ((sv_gA σ 36 0 x1.toNatClampNeg) >>> (x2 &&& 31)) &&& 1 = 1 → (vp_in x2 5 ∧ Wk 2 [some (.inr (.inr (5, 0))), some (.inl x1), some (.inl (x2 + (1 : Int32))), none] [] (sv_sA σ 42 0 x2.toNatClampNeg (-9 : Int32)))))))))
set_option maxRecDepth 100000 in
theorem bk_X5_lays_2 (Wk : sv_K) (Kr : Option sv_AV → sv_S → Prop) (x1 : Int32) (x2 : Int32) (σ : sv_S) (h : F_X5_lays_2 Wk Kr x1 x2 σ) : sv_vc tb_X5_lays T_X5_lays sv_all (some .boolean) Kr [(2, [true, true, true, false]), (48, [true, true, true, false])] Wk 500 2 [some (.inr (.inr (5, 0))), some (.inl x1), some (.inl x2), none] [] σ := ⟨fun z2 => ((h).1 z2), fun z2 => ⟨(((h).2 z2)).1, (match ((((h).2 z2)).2) with | ⟨z1a, z1b⟩ => ⟨fun z1y => br_f (by decide) ((z1a z1y)), fun z1y => br_t (by decide) ((z1b z1y))⟩)⟩⟩
def F_X5_lays_48 (Wk : sv_K) (Kr : Option sv_AV → sv_S → Prop) (x1 : Int32) (x2 : Int32) (σ : sv_S) : Prop := (((sv_gA σ 5 0 1) ≤ x2 → Kr (some (.inl (1 : Int32))) σ) ∧ (¬ (sv_gA σ 5 0 1) ≤ x2 → (vp_in x2 5 ∧ (∃ d1 : dD, ∃ e2 : Nat, ∃ q3 : Nat, (RM d1 σ ∧ (e2 < dT d1 ∧ (sv_gA σ 41 0 x2.toNatClampNeg) = nI e2) ∧ (q3 < dP d1 ∧ x1 = nI q3)) ∧ (((fetL (dL d1) q3).testBit e2 = true → (∃ d4 : dD, ∃ pl5 : Nat → Option Nat, ∃ rc6 : Nat, ∃ e7 : Nat, (RM d4 σ ∧ MP d4 pl5 σ ∧ (e7 < dT d4 ∧ (sv_gA σ 41 0 x2.toNatClampNeg) = nI e7) ∧ (sv_gA σ 5 0 15 = nI rc6 ∧ rc6 ≤ 60)) ∧ (∀ v8 : Int32, ∀ σ9 : sv_S, pq [42] σ σ9 ∧ fndP d4 pl5 rc6 e7 v8 σ9 → ((¬ v8 = (0 : Int32) → Wk 48 [some (.inr (.inr (5, 0))), some (.inl x1), some (.inl (x2 + (1 : Int32))), none] [] σ9) ∧ (v8 = (0 : Int32) → Kr (some (.inl (0 : Int32))) σ9))))) ∧ (¬ (fetL (dL d1) q3).testBit e2 = true → Wk 48 [some (.inr (.inr (5, 0))), some (.inl x1), some (.inl (x2 + (1 : Int32))), none] [] σ))))))
set_option maxRecDepth 100000 in
theorem bk_X5_lays_48 (Wk : sv_K) (Kr : Option sv_AV → sv_S → Prop) (x1 : Int32) (x2 : Int32) (σ : sv_S) (h : F_X5_lays_48 Wk Kr x1 x2 σ) : sv_vc tb_X5_lays T_X5_lays sv_all (some .boolean) Kr [(2, [true, true, true, false]), (48, [true, true, true, false])] Wk 500 48 [some (.inr (.inr (5, 0))), some (.inl x1), some (.inl x2), none] [] σ := ⟨fun z13 => ⟨rfl, ((h).1 z13)⟩, fun z13 => ⟨(((h).2 z13)).1, (match ((((h).2 z13)).2) with | ⟨d1, e2, q3, z12p, z12a, z12b⟩ => ⟨d1, e2, q3, z12p, fun z12y => br_f (by decide) ((match (z12a z12y) with | ⟨d4, pl5, rc6, e7, z11p, z11k⟩ => ⟨d4, pl5, rc6, e7, z11p, fun v8 σ9 z11y => ⟨fun z10 => (((z11k v8 σ9 z11y)).1 z10), fun z10 => ⟨rfl, (((z11k v8 σ9 z11y)).2 z10)⟩⟩⟩)), fun z12y => br_t (by decide) ((z12b z12y))⟩)⟩⟩
set_option maxRecDepth 100000 in
theorem m_X5_lays (l : Launch) (hb : ∀ (Wk : sv_K) (Kr : Option sv_AV → sv_S → Prop), (∀ (p : Int32) (σ : sv_S), F_X5_lays_0 Wk Kr p σ → Wk 0 [some (.inr (.inr (5, 0))), some (.inl p), none, none] [] σ) → (∀ (x1 : Int32) (x2 : Int32) (σ : sv_S), F_X5_lays_2 Wk Kr x1 x2 σ → Wk 2 [some (.inr (.inr (5, 0))), some (.inl x1), some (.inl x2), none] [] σ) → (∀ (x1 : Int32) (x2 : Int32) (σ : sv_S), F_X5_lays_48 Wk Kr x1 x2 σ → Wk 48 [some (.inr (.inr (5, 0))), some (.inl x1), some (.inl x2), none] [] σ) → (∀ (p : Int32) (σ : sv_S), (∃ d : dD, ∃ pl : Nat → Option Nat, ∃ rc : Nat, ∃ q : Nat, ∃ o : Nat, (RM d σ ∧ MP d pl σ ∧ (q < dP d ∧ p = nI q) ∧ (sv_gA σ 5 0 15 = nI rc ∧ rc ≤ 60) ∧ (o < fct (dT d) ∧ ∀ k, k < dT d → sv_gA σ 41 0 k = nI (ordX (dT d) o k)) ∧ (∀ t, t < dT d → (pl t ≠ none ↔ (prv (dL d) q).testBit t = true))) ∧ (∀ v : Int32, ∀ σ2 : sv_S, pq [42] σ σ2 ∧ layP d (plAll d (ordX (dT d) o) (fetL (dL d) q) (dT d) (plgone pl (nd (prv (dL d) q) (dL d q)), rc)) v σ2 → Kr (some (.inl v)) σ2)) → Wk 0 [some (.inr (.inr (5, 0))), some (.inl p), none, none] [] σ)) : sv_C l yX5_lays cX5_lays 4 (some .boolean) sv_all 2 46 sp_X5_lays := by
  refine sv_meth sv_clok_all tb_X5_lays T_X5_lays (by decide) tbk_X5_lays (Tok_X5_lays l) ?_
  intro Wk Kr hc av σ hsp
  have hB := hb Wk Kr (fun p σ h => hc [(2, [true, true, true, false]), (48, [true, true, true, false])] 500 0 _ _ _ (bk_X5_lays_0 Wk Kr p σ h)) (fun x1 x2 σ h => hc [(2, [true, true, true, false]), (48, [true, true, true, false])] 500 2 _ _ _ (bk_X5_lays_2 Wk Kr x1 x2 σ h)) (fun x1 x2 σ h => hc [(2, [true, true, true, false]), (48, [true, true, true, false])] 500 48 _ _ _ (bk_X5_lays_48 Wk Kr x1 x2 σ h))
  unfold sp_X5_lays at hsp
  split at hsp
  · exact ⟨⟨by simp, by simp [sv_cat]⟩, hB _ _ hsp⟩
  · exact hsp.elim
set_option maxHeartbeats 4000000 in
set_option maxRecDepth 100000 in
theorem c_X5_lays (l : Launch) : sv_C l yX5_lays cX5_lays 4 (some .boolean) sv_all 2 46 sp_X5_lays := by
  refine m_X5_lays l ?_
  intro Wk Kr e0 e2 e48 p σ ⟨d, pl, rc, q, o, ⟨hR, hM, ⟨hq, hp⟩, ⟨hrc, hrc6⟩, ⟨ho, hor⟩, hin⟩, h⟩
  subst hp
  have hT := hR.1.2.1
  have hP := hR.1.1
  have hL := L32 hR.1 hR.2.1
  have hpv := prv_lt (L := dL d) (P := dP d) hL (show q ≤ dP d by omega)
  have k48 : ∀ n, n ≤ dT d → ∀ σ' q1, pq [42] σ σ' → plAll d (ordX (dT d) o) (fetL (dL d) q) n (plgone pl (nd (prv (dL d) q) (dL d q)), rc) = some q1 → MP d q1.1 σ' → sv_gA σ' 5 0 15 = nI q1.2 → q1.2 ≤ 60 → Wk 48 [some (.inr (.inr (5, 0))), some (.inl (nI q)), some (.inl (nI n)), none] [] σ' := by
    refine lpN (fun n hn ih σ' q1 hs hpa hM1 h15 h60 => ?_)
    have hR' := RM_pq hR hs
    apply e48
    unfold F_X5_lays_48
    rw [hR'.2.2.2.1, nI_1, nI_clamp (by omega)]
    refine pk_le (dT d) n (fun y => h _ _ ⟨hs, ?_⟩) (fun y => ?_)
    · rw [show n = dT d by omega] at hpa
      rw [hpa]
      exact ⟨rfl, hM1, h15, h60⟩
    · have hol := ord_lt (dT d) (by omega) o ho n y
      have horn : sv_gA σ' 41 0 n = nI (ordX (dT d) o n) := by
        rw [hs.1.1 _ (by decide)]
        exact hor n y
      have hps := plAll_succ d (ordX (dT d) o) (fetL (dL d) q) n (plgone pl (nd (prv (dL d) q) (dL d q)), rc)
      rw [hpa, Option.bind_some] at hps
      unfold plstep at hps
      refine ⟨pk_in n 5 (by omega), d, ordX (dT d) o n, q, ⟨hR', ⟨hol, horn⟩, hq, rfl⟩, fun a => ⟨d, q1.1, q1.2, ordX (dT d) o n, ⟨hR', hM1, ⟨hol, horn⟩, h15, h60⟩, fun v8 σ9 ⟨hs9, hfp⟩ => ?_⟩, fun a => ?_⟩
      · rw [if_pos a] at hps
        cases hc : fplace d q1.1 (ordX (dT d) o n) with
        | none =>
          rw [hc] at hps
          have hv : v8 = 0 := hfp.2 hc
          subst hv
          refine ⟨fun z => absurd rfl z, fun _ => h _ _ ⟨pq_tr hs hs9, ?_⟩⟩
          rw [plAll_none hps (dT d) (by omega)]
          rfl
        | some b =>
          rw [hc] at hps
          obtain ⟨hv, hM2, h152, h602⟩ := hfp.1 b hc
          subst hv
          exact ⟨fun _ => ih y σ9 _ (pq_tr hs hs9) hps hM2 h152 h602, fun z => absurd z (by decide)⟩
      · rw [if_neg a] at hps
        exact ih y σ' q1 hs hps hM1 h15 h60
  have k2 : ∀ n, n ≤ dT d → ∀ σ', sq [42] σ σ' → (∀ t, t < dT d → sv_gA σ' 42 0 t = if t < n then fpI (plgone pl (nd (prv (dL d) q) (dL d q)) t) else fpI (pl t)) → Wk 2 [some (.inr (.inr (5, 0))), some (.inl (nI q)), some (.inl (nI n)), none] [] σ' := by
    refine lpN (fun n hn ih σ' hs hpl => ?_)
    have hR' := RM_fr hR hs
    apply e2
    unfold F_X5_lays_2
    rw [hR'.2.2.2.1, nI_1, nI_clamp (by omega), nI_clamp (by omega), hR'.2.2.2.2.2.2.2.2.2 q hq]
    refine pk_le (dT d) n (fun y => k48 0 (by omega) σ' _ (pq_of hs (by decide) (by decide)) rfl ⟨fun t ht => ?_, fun t a ht ha => ?_⟩ ?_ hrc6) (fun y => ⟨pk_in q 10 (by omega), ?_⟩)
    · rw [hpl t ht, if_pos (by omega)]
    · show a + dZ d t ≤ 60
      have ha : plgone pl (nd (prv (dL d) q) (dL d q)) t = some a := ha
      unfold plgone at ha
      by_cases c : (nd (prv (dL d) q) (dL d q)).testBit t = true
      · rw [if_pos c] at ha
        cases ha
      · rw [if_neg c] at ha
        exact hM.2 t a ht ha
    · rw [hs.1 _ (by decide)]
      exact hrc
    · have hin5 := pk_in (x := nI n) n 5 (by omega)
      have hb := nd_bit _ hpv _ (hL q hq) n (by omega)
      rw [bit_sh _ (hL q hq) n (by omega)]
      have go : ∀ v : Int32, v = fpI (plgone pl (nd (prv (dL d) q) (dL d q)) n) → Wk 2 [some (.inr (.inr (5, 0))), some (.inl (nI q)), some (.inl (nI (n + 1))), none] [] (sv_sA σ' 42 0 n v) := by
        intro v hv
        refine ih y _ (sq_tr hs (sq_sA _ _ _ _ (by decide))) (fun t ht => ?_)
        by_cases e : t = n
        · rw [e, gA_same, if_pos (by omega), hv]
        · rw [gA_nj _ e, hpl t ht]
          by_cases c : t < n
          · rw [if_pos c, if_pos (by omega)]
          · rw [if_neg c, if_neg (by omega)]
      refine ⟨fun a => ⟨hin5, hin5, go _ ?_⟩, fun a => ⟨hin5, go _ ?_⟩⟩
      · rw [hpl n y, if_neg (by omega)]
        unfold plgone
        rw [if_neg (fun z => (hb.mp z).2 a)]
      · unfold plgone
        by_cases c : (prv (dL d) q).testBit n = true
        · rw [if_pos (hb.mpr ⟨c, a⟩)]
          rfl
        · rw [if_neg (fun z => c (hb.mp z).1)]
          cases hpn : pl n with
          | none => rfl
          | some b => exact absurd ((hin n y).mp (by rw [hpn]; exact fun z => by cases z)) c
  exact e0 _ _ (k2 0 (by omega) σ (sq_rf _ _) (fun t ht => by rw [if_neg (by omega)]; exact hM.1 t ht))
-- ==== X5_laysTo
def sp_X5_laysTo : sv_P := fun av σ K => match av with
  | [.inr (.inr (5, 0)), .inl last, .inl order] => ∃ d : dD, ∃ n : Nat, ∃ o : Nat, (RM d σ ∧ (n ≤ dP d ∧ last = nI n - 1) ∧ (o < fct (dT d) ∧ order = nI o)) ∧ (∀ v : Int32, ∀ σ2 : sv_S, pq [42, 41] σ σ2 ∧ v = stkN d o n ∧ (∀ q, shl d (dL d) (ordX (dT d) o) n = some q → MP d q.1 σ2 ∧ sv_gA σ2 5 0 15 = nI q.2) → K (some (.inl v)) σ2)
  | _ => False
def tb_X5_laysTo : List (Nat × (Instr × Nat)) := [(0, (.aload_n 0, 1)), (1, (.iload_n 2, 1)), (2, (.invokevirtual 174, 3)), (5, (.aload_n 0, 1)), (6, (.iconst 0, 1)), (7, (.putfield 168, 3)), (10, (.iconst 0, 1)), (11, (.istore_n 3, 1)), (12, (.iload_n 3, 1)), (13, (.iconst 5, 1)), (14, (.if_icmp .ge 17, 3)), (17, (.aload_n 0, 1)), (18, (.getfield 43, 3)), (21, (.iload_n 3, 1)), (22, (.bipush (-9), 2)), (24, (.iastore, 1)), (25, (.iinc 3 1, 3)), (28, (.goto (-16), 3)), (31, (.iconst 0, 1)), (32, (.istore_n 3, 1)), (33, (.iload_n 3, 1)), (34, (.iload_n 1, 1)), (35, (.if_icmp .gt 19, 3)), (38, (.aload_n 0, 1)), (39, (.iload_n 3, 1)), (40, (.invokevirtual 177, 3)), (43, (.ifCond .ne 5, 3)), (46, (.iload_n 3, 1)), (47, (.ireturn, 1)), (48, (.iinc 3 1, 3)), (51, (.goto (-18), 3)), (54, (.bipush (-9), 2)), (56, (.ireturn, 1))]
set_option maxRecDepth 100000 in
theorem tbk_X5_laysTo : sv_tbok cX5_laysTo tb_X5_laysTo = true := by decide +kernel
def cal_X5_laysTo : List (Nat × (Nat × Nat × sv_P)) := [(174, (2, 5, sp_X5_laysOrder)), (177, (2, 5, sp_X5_lays))]
def T_X5_laysTo : sv_T := (flX5, sfX5, kcX5, klX5, cal_X5_laysTo)
set_option maxRecDepth 100000 in
theorem Tok_X5_laysTo (l : Launch) : sv_Tok l RX5 sv_all 3 69 T_X5_laysTo := ⟨flokX5, sfokX5, kcokX5, klokX5, List.forall_mem_cons.mpr ⟨⟨fun _ => sv_COv_of (c_X5_laysOrder l) sv_clok_all (sv_mem 824 (by decide +kernel) rfl) kw_X5_laysOrder.1 kw_X5_laysOrder.2.1 kw_X5_laysOrder.2.2.1 kw_X5_laysOrder.2.2.2 kd_X5_laysOrder rfl (by decide) (by decide +kernel) rfl (by decide), fun h => absurd h (by decide)⟩, List.forall_mem_cons.mpr ⟨⟨fun _ => sv_COv_of (c_X5_lays l) sv_clok_all (sv_mem 828 (by decide +kernel) rfl) kw_X5_lays.1 kw_X5_lays.2.1 kw_X5_lays.2.2.1 kw_X5_lays.2.2.2 kd_X5_lays rfl (by decide) (by decide +kernel) rfl (by decide), fun h => absurd h (by decide)⟩, fun _ h => absurd h List.not_mem_nil⟩⟩⟩
theorem kw_X5_laysTo : Cond.instanceMethod yX5_laysTo ∈ sv_tb ∧ Cond.selects yX5_laysTo.cls yX5_laysTo yX5_laysTo ∈ sv_tb ∧ Cond.initialized yX5_laysTo.cls ∈ sv_tb ∧ Cond.code yX5_laysTo cX5_laysTo 4 (some .int) ∈ sv_tb := ⟨sv_mem 822 (by decide +kernel) rfl, sv_mem 43 (by decide +kernel) rfl, sv_mem 56 (by decide +kernel) rfl, sv_mem 823 (by decide +kernel) rfl⟩
theorem kd_X5_laysTo : yX5_laysTo.cls ≠ "java/lang/invoke/MethodHandle" ∧ yX5_laysTo.cls ≠ "java/lang/invoke/VarHandle" ∧ (parseMethodDescriptor yX5_laysTo.desc).map (fun d => d.parameters.length) = some 2 := by decide +kernel
def F_X5_laysTo_0 (Wk : sv_K) (Kr : Option sv_AV → sv_S → Prop) (last : Int32) (order : Int32) (σ : sv_S) : Prop := (∃ d1 : dD, ∃ o2 : Nat, (RM d1 σ ∧ (o2 < fct (dT d1) ∧ order = nI o2)) ∧ (∀ σ4 : sv_S, sq [41] σ σ4 ∧ (∀ k, k < dT d1 → sv_gA σ4 41 0 k = nI (ordX (dT d1) o2 k)) → Wk 12 [some (.inr (.inr (5, 0))), some (.inl last), none, some (.inl (0 : Int32))] [] (sv_sA σ4 5 0 15 (0 : Int32))))
set_option maxRecDepth 100000 in
theorem bk_X5_laysTo_0 (Wk : sv_K) (Kr : Option sv_AV → sv_S → Prop) (last : Int32) (order : Int32) (σ : sv_S) (h : F_X5_laysTo_0 Wk Kr last order σ) : sv_vc tb_X5_laysTo T_X5_laysTo sv_all (some .int) Kr [(12, [true, true, false, true]), (33, [true, true, false, true])] Wk 500 0 [some (.inr (.inr (5, 0))), some (.inl last), some (.inl order), none] [] σ := h
def F_X5_laysTo_12 (Wk : sv_K) (Kr : Option sv_AV → sv_S → Prop) (x1 : Int32) (x3 : Int32) (σ : sv_S) : Prop := (((5 : Int32) ≤ x3 → Wk 33 [some (.inr (.inr (5, 0))), some (.inl x1), none, some (.inl (0 : Int32))] [] σ) ∧ (¬ (5 : Int32) ≤ x3 → (vp_in x3 5 ∧ Wk 12 [some (.inr (.inr (5, 0))), some (.inl x1), none, some (.inl (x3 + (1 : Int32)))] [] (sv_sA σ 42 0 x3.toNatClampNeg (-9 : Int32)))))
set_option maxRecDepth 100000 in
theorem bk_X5_laysTo_12 (Wk : sv_K) (Kr : Option sv_AV → sv_S → Prop) (x1 : Int32) (x3 : Int32) (σ : sv_S) (h : F_X5_laysTo_12 Wk Kr x1 x3 σ) : sv_vc tb_X5_laysTo T_X5_laysTo sv_all (some .int) Kr [(12, [true, true, false, true]), (33, [true, true, false, true])] Wk 500 12 [some (.inr (.inr (5, 0))), some (.inl x1), none, some (.inl x3)] [] σ := h
def F_X5_laysTo_33 (Wk : sv_K) (Kr : Option sv_AV → sv_S → Prop) (x1 : Int32) (x3 : Int32) (σ : sv_S) : Prop := ((x1 < x3 → Kr (some (.inl (-9 : Int32))) σ) ∧ (¬ x1 < x3 → (∃ d1 : dD, ∃ pl2 : Nat → Option Nat, ∃ rc3 : Nat, ∃ q4 : Nat, ∃ o5 : Nat, (RM d1 σ ∧ MP d1 pl2 σ ∧ (q4 < dP d1 ∧ x3 = nI q4) ∧ (sv_gA σ 5 0 15 = nI rc3 ∧ rc3 ≤ 60) ∧ (o5 < fct (dT d1) ∧ ∀ k, k < dT d1 → sv_gA σ 41 0 k = nI (ordX (dT d1) o5 k)) ∧ (∀ t, t < dT d1 → (pl2 t ≠ none ↔ (prv (dL d1) q4).testBit t = true))) ∧ (∀ v6 : Int32, ∀ σ7 : sv_S, pq [42] σ σ7 ∧ layP d1 (plAll d1 (ordX (dT d1) o5) (fetL (dL d1) q4) (dT d1) (plgone pl2 (nd (prv (dL d1) q4) (dL d1 q4)), rc3)) v6 σ7 → ((¬ v6 = (0 : Int32) → Wk 33 [some (.inr (.inr (5, 0))), some (.inl x1), none, some (.inl (x3 + (1 : Int32)))] [] σ7) ∧ (v6 = (0 : Int32) → Kr (some (.inl x3)) σ7))))))
set_option maxRecDepth 100000 in
theorem bk_X5_laysTo_33 (Wk : sv_K) (Kr : Option sv_AV → sv_S → Prop) (x1 : Int32) (x3 : Int32) (σ : sv_S) (h : F_X5_laysTo_33 Wk Kr x1 x3 σ) : sv_vc tb_X5_laysTo T_X5_laysTo sv_all (some .int) Kr [(12, [true, true, false, true]), (33, [true, true, false, true])] Wk 500 33 [some (.inr (.inr (5, 0))), some (.inl x1), none, some (.inl x3)] [] σ := h
set_option maxRecDepth 100000 in
theorem m_X5_laysTo (l : Launch) (hb : ∀ (Wk : sv_K) (Kr : Option sv_AV → sv_S → Prop), (∀ (last : Int32) (order : Int32) (σ : sv_S), F_X5_laysTo_0 Wk Kr last order σ → Wk 0 [some (.inr (.inr (5, 0))), some (.inl last), some (.inl order), none] [] σ) → (∀ (x1 : Int32) (x3 : Int32) (σ : sv_S), F_X5_laysTo_12 Wk Kr x1 x3 σ → Wk 12 [some (.inr (.inr (5, 0))), some (.inl x1), none, some (.inl x3)] [] σ) → (∀ (x1 : Int32) (x3 : Int32) (σ : sv_S), F_X5_laysTo_33 Wk Kr x1 x3 σ → Wk 33 [some (.inr (.inr (5, 0))), some (.inl x1), none, some (.inl x3)] [] σ) → (∀ (last : Int32) (order : Int32) (σ : sv_S), (∃ d : dD, ∃ n : Nat, ∃ o : Nat, (RM d σ ∧ (n ≤ dP d ∧ last = nI n - 1) ∧ (o < fct (dT d) ∧ order = nI o)) ∧ (∀ v : Int32, ∀ σ2 : sv_S, pq [42, 41] σ σ2 ∧ v = stkN d o n ∧ (∀ q, shl d (dL d) (ordX (dT d) o) n = some q → MP d q.1 σ2 ∧ sv_gA σ2 5 0 15 = nI q.2) → Kr (some (.inl v)) σ2)) → Wk 0 [some (.inr (.inr (5, 0))), some (.inl last), some (.inl order), none] [] σ)) : sv_C l yX5_laysTo cX5_laysTo 4 (some .int) sv_all 3 69 sp_X5_laysTo := by
  refine sv_meth sv_clok_all tb_X5_laysTo T_X5_laysTo (by decide) tbk_X5_laysTo (Tok_X5_laysTo l) ?_
  intro Wk Kr hc av σ hsp
  have hB := hb Wk Kr (fun last order σ h => hc [(12, [true, true, false, true]), (33, [true, true, false, true])] 500 0 _ _ _ (bk_X5_laysTo_0 Wk Kr last order σ h)) (fun x1 x3 σ h => hc [(12, [true, true, false, true]), (33, [true, true, false, true])] 500 12 _ _ _ (bk_X5_laysTo_12 Wk Kr x1 x3 σ h)) (fun x1 x3 σ h => hc [(12, [true, true, false, true]), (33, [true, true, false, true])] 500 33 _ _ _ (bk_X5_laysTo_33 Wk Kr x1 x3 σ h))
  unfold sp_X5_laysTo at hsp
  split at hsp
  · exact ⟨⟨by simp, by simp [sv_cat]⟩, hB _ _ _ hsp⟩
  · exact hsp.elim
set_option maxHeartbeats 4000000 in
set_option maxRecDepth 100000 in
theorem c_X5_laysTo (l : Launch) : sv_C l yX5_laysTo cX5_laysTo 4 (some .int) sv_all 3 69 sp_X5_laysTo := by
  refine m_X5_laysTo l ?_
  intro Wk Kr e0 e12 e33 last order σ ⟨d, n, o, ⟨hR, ⟨hn, hlast⟩, ho, hord⟩, h⟩
  subst hlast
  have hP := hR.1.1
  have hT := hR.1.2.1
  have k33 : ∀ p, p ≤ n → ∀ σ' q, pq [42, 41] σ σ' → (∀ k, k < dT d → sv_gA σ' 41 0 k = nI (ordX (dT d) o k)) → shl d (dL d) (ordX (dT d) o) p = some q → MP d q.1 σ' → sv_gA σ' 5 0 15 = nI q.2 → q.2 ≤ 60 → Wk 33 [some (.inr (.inr (5, 0))), some (.inl (nI n - 1)), none, some (.inl (nI p))] [] σ' := by
    refine lpN (fun p hp ih σ' q hs hrow hsh hM h15 h60 => ?_)
    have hR' := RM_pq hR hs
    apply e33
    unfold F_X5_laysTo_33
    by_cases hpn : p = n
    · have hlt : nI n - 1 < nI p := by
        rw [hpn, Int32.lt_iff_toInt_lt, show (1 : Int32) = nI 1 from rfl, pk_sub_toInt (by omega) (by omega), nI_toInt (by omega)]
        omega
      refine br_t hlt (h _ _ ⟨hs, ?_, fun q' hq' => ?_⟩)
      · rw [hpn] at hsh
        exact (stkN_some hsh).symm
      · rw [← hpn, hsh] at hq'
        cases hq'
        exact ⟨hM, h15⟩
    · have hnlt : ¬ nI n - 1 < nI p := by
        rw [Int32.lt_iff_toInt_lt, show (1 : Int32) = nI 1 from rfl, pk_sub_toInt (by omega) (by omega), nI_toInt (by omega)]
        omega
      have hin := shl_in hR.1 (L := dL d) hR.2.1 ho (show p ≤ dP d by omega) hsh
      rw [nI_1]
      refine br_f hnlt ⟨d, q.1, q.2, p, o, ⟨hR', hM, ⟨by omega, rfl⟩, ⟨h15, h60⟩, ⟨ho, hrow⟩, fun t _ => hin t⟩, fun v6 σ7 ⟨hs7, hpost⟩ => ?_⟩
      have hss := shl_succ d (dL d) (ordX (dT d) o) p
      rw [hsh] at hss
      have hss : shl d (dL d) (ordX (dT d) o) (p + 1) = plAll d (ordX (dT d) o) (fetL (dL d) p) (dT d) (plgone q.1 (nd (prv (dL d) p) (dL d p)), q.2) := hss
      rw [← hss] at hpost
      have hsa : pq [42, 41] σ σ7 := pq_tr hs (pq_mono hs7 (by decide))
      cases hc : shl d (dL d) (ordX (dT d) o) (p + 1) with
      | none =>
        rw [hc] at hpost
        have hv : v6 = 0 := hpost
        subst hv
        refine ⟨fun y => absurd rfl y, fun _ => h _ _ ⟨hsa, ?_, fun q' hq' => ?_⟩⟩
        · have e : frs (stkP d (dL d) o) n = p := frs_eq (by omega) (by unfold stkP; rw [hc]; rfl) (fun j hj => by
            unfold stkP
            cases hj2 : shl d (dL d) (ordX (dT d) o) (j + 1) with
            | some _ => rfl
            | none =>
              have := shl_none hj2 p (by omega)
              rw [hsh] at this
              cases this)
          unfold stkN
          rw [e, if_pos (by omega)]
        · have := shl_none hc n (by omega)
          rw [this] at hq'
          cases hq'
      | some q2 =>
        rw [hc] at hpost
        obtain ⟨hv, hM2, h152, h602⟩ : v6 = 1 ∧ MP d q2.1 σ7 ∧ (sv_gA σ7 5 0 15 = nI q2.2 ∧ q2.2 ≤ 60) := hpost
        subst hv
        exact ⟨fun _ => ih (by omega) σ7 q2 hsa (fun k hk => by rw [hs7.1.1 _ (by decide)]; exact hrow k hk) hc hM2 h152 h602, fun y => absurd y (by decide)⟩
  apply e0
  refine ⟨d, o, ⟨hR, ho, hord⟩, fun σ4 ⟨hs4, hrow⟩ => ?_⟩
  have k12 : ∀ m, m ≤ 5 → ∀ σ', sq [42] (sv_sA σ4 5 0 15 0) σ' → (∀ t, t < m → sv_gA σ' 42 0 t = -9) → Wk 12 [some (.inr (.inr (5, 0))), some (.inl (nI n - 1)), none, some (.inl (nI m))] [] σ' := by
    refine lpN (fun m hm ih σ' hs ht => ?_)
    apply e12
    unfold F_X5_laysTo_12
    rw [nI_1, nI_clamp (by omega)]
    refine pk_le 5 m (fun y => k33 0 (by omega) σ' (fun _ => none, 0) ?_ (fun k hk => ?_) rfl ⟨fun t htT => ht t (by omega), fun t q _ hq => by cases hq⟩ ?_ (Nat.zero_le _)) (fun y => ⟨pk_in m 5 y, ih y _ (sq_tr hs (sq_sA _ _ _ _ (by decide))) (fun t htm => ?_)⟩)
    · exact pq_tr (pq_tr (pq_of hs4 (by decide) (by decide)) (pq_15 _ _)) (pq_of hs (by decide) (by decide))
    · rw [hs.1 _ (by decide), gA_ng _ (by decide)]
      exact hrow k hk
    · rw [hs.1 _ (by decide), gA_same]
      rfl
    · by_cases e : t = m
      · rw [e, gA_same]
      · rw [gA_nj _ e]
        exact ht t (by omega)
  exact k12 0 (by omega) _ (sq_rf _ _) (fun t ht => by omega)
-- ==== X5_place
def sp_X5_place : sv_P := fun av σ K => match av with
  | [.inr (.inr (5, 0)), .inl t, .inl p, .inl order] => ∃ d : dD, (RM d σ ∧ MI d σ) ∧ (∀ v : Int32, ∀ σ2 : sv_S, v = A_place d t p order ∧ (RM d σ2 ∧ MI d σ2) ∧ sq mg σ σ2 → K (some (.inl v)) σ2)
  | _ => False
def tb_X5_place : List (Nat × (Instr × Nat)) := [(0, (.aload_n 0, 1)), (1, (.iload_n 1, 1)), (2, (.invokevirtual 69, 3)), (5, (.ifCond .eq 11, 3)), (8, (.aload_n 0, 1)), (9, (.iload_n 2, 1)), (10, (.invokevirtual 65, 3)), (13, (.ifCond .ne 5, 3)), (16, (.iconst (-1), 1)), (17, (.ireturn, 1)), (18, (.aload_n 0, 1)), (19, (.iload_n 3, 1)), (20, (.invokevirtual 180, 3)), (23, (.ifCond .ne 6, 3)), (26, (.bipush (-2), 2)), (28, (.ireturn, 1)), (29, (.aload_n 0, 1)), (30, (.iload_n 2, 1)), (31, (.iload_n 3, 1)), (32, (.invokevirtual 183, 3)), (35, (.bipush (-9), 2)), (37, (.if_icmp .ne 12, 3)), (40, (.aload_n 0, 1)), (41, (.getfield 43, 3)), (44, (.iload_n 1, 1)), (45, (.iaload, 1)), (46, (.goto 5, 3)), (49, (.bipush (-9), 2)), (51, (.ireturn, 1))]
set_option maxRecDepth 100000 in
theorem tbk_X5_place : sv_tbok cX5_place tb_X5_place = true := by decide +kernel
def cal_X5_place : List (Nat × (Nat × Nat × sv_P)) := [(69, (2, 5, sp_X5_isThing)), (65, (2, 5, sp_X5_isPart)), (180, (2, 5, sp_X5_isOrder)), (183, (3, 5, sp_X5_laysTo))]
def T_X5_place : sv_T := (flX5, sfX5, kcX5, klX5, cal_X5_place)
set_option maxRecDepth 100000 in
theorem Tok_X5_place (l : Launch) : sv_Tok l RX5 sv_all 4 92 T_X5_place := ⟨flokX5, sfokX5, kcokX5, klokX5, List.forall_mem_cons.mpr ⟨⟨fun _ => sv_COv_of (c_X5_isThing l) sv_clok_all (sv_mem 646 (by decide +kernel) rfl) kw_X5_isThing.1 kw_X5_isThing.2.1 kw_X5_isThing.2.2.1 kw_X5_isThing.2.2.2 kd_X5_isThing rfl (by decide) (by decide +kernel) rfl (by decide), fun h => absurd h (by decide)⟩, List.forall_mem_cons.mpr ⟨⟨fun _ => sv_COv_of (c_X5_isPart l) sv_clok_all (sv_mem 630 (by decide +kernel) rfl) kw_X5_isPart.1 kw_X5_isPart.2.1 kw_X5_isPart.2.2.1 kw_X5_isPart.2.2.2 kd_X5_isPart rfl (by decide) (by decide +kernel) rfl (by decide), fun h => absurd h (by decide)⟩, List.forall_mem_cons.mpr ⟨⟨fun _ => sv_COv_of (c_X5_isOrder l) sv_clok_all (sv_mem 813 (by decide +kernel) rfl) kw_X5_isOrder.1 kw_X5_isOrder.2.1 kw_X5_isOrder.2.2.1 kw_X5_isOrder.2.2.2 kd_X5_isOrder rfl (by decide) (by decide +kernel) rfl (by decide), fun h => absurd h (by decide)⟩, List.forall_mem_cons.mpr ⟨⟨fun _ => sv_COv_of (c_X5_laysTo l) sv_clok_all (sv_mem 820 (by decide +kernel) rfl) kw_X5_laysTo.1 kw_X5_laysTo.2.1 kw_X5_laysTo.2.2.1 kw_X5_laysTo.2.2.2 kd_X5_laysTo rfl (by decide) (by decide +kernel) rfl (by decide), fun h => absurd h (by decide)⟩, fun _ h => absurd h List.not_mem_nil⟩⟩⟩⟩⟩
theorem kw_X5_place : Cond.instanceMethod yX5_place ∈ sv_tb ∧ Cond.selects yX5_place.cls yX5_place yX5_place ∈ sv_tb ∧ Cond.initialized yX5_place.cls ∈ sv_tb ∧ Cond.code yX5_place cX5_place 4 (some .int) ∈ sv_tb := ⟨sv_mem 810 (by decide +kernel) rfl, sv_mem 811 (by decide +kernel) rfl, sv_mem 56 (by decide +kernel) rfl, sv_mem 812 (by decide +kernel) rfl⟩
theorem kd_X5_place : yX5_place.cls ≠ "java/lang/invoke/MethodHandle" ∧ yX5_place.cls ≠ "java/lang/invoke/VarHandle" ∧ (parseMethodDescriptor yX5_place.desc).map (fun d => d.parameters.length) = some 3 := by decide +kernel
def F_X5_place_0 (Wk : sv_K) (Kr : Option sv_AV → sv_S → Prop) (t : Int32) (p : Int32) (order : Int32) (σ : sv_S) : Prop := (∃ d1 : dD, (RM d1 σ) ∧ ((isN (dT d1) t → (∃ d2 : dD, (RM d2 σ) ∧ ((isN (dP d2) p → (∃ d3 : dD, (RM d3 σ) ∧ ((isN (fct (dT d3)) order → (∃ d4 : dD, ∃ n5 : Nat, ∃ o6 : Nat, (RM d4 σ ∧ (n5 ≤ dP d4 ∧ p = nI n5 - 1) ∧ (o6 < fct (dT d4) ∧ order = nI o6)) ∧ (∀ v7 : Int32, ∀ σ8 : sv_S, pq [42, 41] σ σ8 ∧ v7 = stkN d4 o6 n5 ∧ (∀ q, shl d4 (dL d4) (ordX (dT d4) o6) n5 = some q → MP d4 q.1 σ8 ∧ sv_gA σ8 5 0 15 = nI q.2) → ((¬ v7 = (-9 : Int32) → Kr (some (.inl (-9 : Int32))) σ8) ∧ (v7 = (-9 : Int32) → (vp_in t 5 ∧ Kr (some (.inl (sv_gA σ8 42 0 t.toNatClampNeg))) σ8)))))) ∧ (¬ isN (fct (dT d3)) order → Kr (some (.inl (-2 : Int32))) σ)))) ∧ (¬ isN (dP d2) p → Kr (some (.inl (-1 : Int32))) σ)))) ∧ (¬ isN (dT d1) t → Kr (some (.inl (-1 : Int32))) σ)))
set_option maxRecDepth 100000 in
theorem bk_X5_place_0 (Wk : sv_K) (Kr : Option sv_AV → sv_S → Prop) (t : Int32) (p : Int32) (order : Int32) (σ : sv_S) (h : F_X5_place_0 Wk Kr t p order σ) : sv_vc tb_X5_place T_X5_place sv_all (some .int) Kr [] Wk 500 0 [some (.inr (.inr (5, 0))), some (.inl t), some (.inl p), some (.inl order)] [] σ := (match h with | ⟨d1, z11p, z11a, z11b⟩ => ⟨d1, z11p, fun z11y => br_f (by decide) ((match (z11a z11y) with | ⟨d2, z10p, z10a, z10b⟩ => ⟨d2, z10p, fun z10y => sb_nt (by decide) ((match (z10a z10y) with | ⟨d3, z9p, z9a, z9b⟩ => ⟨d3, z9p, fun z9y => sb_nt (by decide) ((z9a z9y)), fun z9y => sb_nf (by decide) ((z9b z9y))⟩)), fun z10y => sb_nf (by decide) ((z10b z10y))⟩)), fun z11y => br_t (by decide) ((z11b z11y))⟩)
set_option maxRecDepth 100000 in
theorem m_X5_place (l : Launch) (hb : ∀ (Wk : sv_K) (Kr : Option sv_AV → sv_S → Prop), (∀ (t : Int32) (p : Int32) (order : Int32) (σ : sv_S), F_X5_place_0 Wk Kr t p order σ → Wk 0 [some (.inr (.inr (5, 0))), some (.inl t), some (.inl p), some (.inl order)] [] σ) → (∀ (t : Int32) (p : Int32) (order : Int32) (σ : sv_S), (∃ d : dD, (RM d σ ∧ MI d σ) ∧ (∀ v : Int32, ∀ σ2 : sv_S, v = A_place d t p order ∧ (RM d σ2 ∧ MI d σ2) ∧ sq mg σ σ2 → Kr (some (.inl v)) σ2)) → Wk 0 [some (.inr (.inr (5, 0))), some (.inl t), some (.inl p), some (.inl order)] [] σ)) : sv_C l yX5_place cX5_place 4 (some .int) sv_all 4 92 sp_X5_place := by
  refine sv_meth sv_clok_all tb_X5_place T_X5_place (by decide) tbk_X5_place (Tok_X5_place l) ?_
  intro Wk Kr hc av σ hsp
  have hB := hb Wk Kr (fun t p order σ h => hc [] 500 0 _ _ _ (bk_X5_place_0 Wk Kr t p order σ h))
  unfold sp_X5_place at hsp
  split at hsp
  · exact ⟨⟨by simp, by simp [sv_cat]⟩, hB _ _ _ _ hsp⟩
  · exact hsp.elim
set_option maxHeartbeats 4000000 in
set_option maxRecDepth 100000 in
theorem c_X5_place (l : Launch) : sv_C l yX5_place cX5_place 4 (some .int) sv_all 4 92 sp_X5_place := by
  refine m_X5_place l ?_
  intro Wk Kr e0 t p order σ ⟨d, ⟨hC, hI⟩, h⟩
  have hP := hC.1.1
  have hT := hC.1.2.1
  have bad : ¬ (isN (dT d) t ∧ isN (dP d) p) → Kr (some (.inl (-1 : Int32))) σ := fun hb => h _ _ ⟨(ch_f hb _ _).symm, ⟨hC, hI⟩, sq_rf _ _⟩
  apply e0
  refine ⟨d, hC, fun ht => ⟨d, hC, fun hp => ⟨d, hC, fun ho => ?_, fun ho => h _ _ ⟨?_, ⟨hC, hI⟩, sq_rf _ _⟩⟩, fun hp => bad (fun y => hp y.2)⟩, fun ht => bad (fun y => ht y.1)⟩
  · have g : isN (dT d) t ∧ isN (dP d) p := ⟨ht, hp⟩
    have g2 := ho
    obtain ⟨k, hk, rfl⟩ := ht
    obtain ⟨q, hq, rfl⟩ := hp
    obtain ⟨o, ho, rfl⟩ := ho
    have hol := (fct_lt (dT d) (by omega)).1
    have epr : prv (dL d) (q + 1) = dL d q := by
      unfold prv
      rw [if_neg (by omega), Nat.add_sub_cancel]
    refine ⟨d, q + 1, o, ⟨hC, ⟨by omega, (nI_pred q).symm⟩, ho, rfl⟩, fun v7 σ8 ⟨hs, h7, hU⟩ => ?_⟩
    have fin : ∀ v, v = ch ((dL d q).testBit k = true) (shp d o (q + 1) k) (-9) → Kr (some (.inl v)) σ8 := fun v hv => h _ _ ⟨by unfold A_place; rw [ch_t g, ch_t g2, xn_nI (by omega), xn_nI (by omega), xn_nI (by omega)]; exact hv, ⟨RM_pq hC hs, MI_pq hI hs⟩, sq_mono hs.1 (by decide)⟩
    cases hsh : shl d (dL d) (ordX (dT d) o) (q + 1) with
    | none =>
      refine ⟨fun z => fin _ ?_, fun z => absurd (h7.symm.trans z) (stkN_none (by omega) hsh)⟩
      unfold shp
      rw [hsh]
      by_cases c : (dL d q).testBit k = true
      · rw [ch_t c]
      · rw [ch_f c]
    | some r =>
      refine ⟨fun z => absurd (h7.trans (stkN_some hsh)) z, fun z => ⟨pk_in k 5 (by omega), fin _ ?_⟩⟩
      have hin := shl_in hC.1 hC.2.1 ho (show q + 1 ≤ dP d by omega) hsh k
      rw [epr] at hin
      rw [nI_clamp (by omega), (hU r hsh).1.1 k hk]
      unfold shp
      rw [hsh]
      by_cases c : (dL d q).testBit k = true
      · rw [ch_t c]
      · rw [ch_f c]
        cases hr : r.1 k with
        | none => rfl
        | some a => exact absurd (hin.mp (by rw [hr]; exact fun z => by cases z)) c
  · unfold A_place
    rw [ch_t (show isN (dT d) t ∧ isN (dP d) p from ⟨ht, hp⟩), ch_f ho]
-- ==== X5_stuck
def sp_X5_stuck : sv_P := fun av σ K => match av with
  | [.inr (.inr (5, 0)), .inl order] => ∃ d : dD, (RM d σ ∧ MI d σ) ∧ (∀ v : Int32, ∀ σ2 : sv_S, v = A_stuck d order ∧ (RM d σ2 ∧ MI d σ2) ∧ sq mg σ σ2 → K (some (.inl v)) σ2)
  | _ => False
def tb_X5_stuck : List (Nat × (Instr × Nat)) := [(0, (.aload_n 0, 1)), (1, (.iload_n 1, 1)), (2, (.invokevirtual 180, 3)), (5, (.ifCond .eq 17, 3)), (8, (.aload_n 0, 1)), (9, (.aload_n 0, 1)), (10, (.getfield 46, 3)), (13, (.iconst 1, 1)), (14, (.isub, 1)), (15, (.iload_n 1, 1)), (16, (.invokevirtual 183, 3)), (19, (.goto 5, 3)), (22, (.bipush (-2), 2)), (24, (.ireturn, 1))]
set_option maxRecDepth 100000 in
theorem tbk_X5_stuck : sv_tbok cX5_stuck tb_X5_stuck = true := by decide +kernel
def cal_X5_stuck : List (Nat × (Nat × Nat × sv_P)) := [(180, (2, 5, sp_X5_isOrder)), (183, (3, 5, sp_X5_laysTo))]
def T_X5_stuck : sv_T := (flX5, sfX5, kcX5, klX5, cal_X5_stuck)
set_option maxRecDepth 100000 in
theorem Tok_X5_stuck (l : Launch) : sv_Tok l RX5 sv_all 4 92 T_X5_stuck := ⟨flokX5, sfokX5, kcokX5, klokX5, List.forall_mem_cons.mpr ⟨⟨fun _ => sv_COv_of (c_X5_isOrder l) sv_clok_all (sv_mem 813 (by decide +kernel) rfl) kw_X5_isOrder.1 kw_X5_isOrder.2.1 kw_X5_isOrder.2.2.1 kw_X5_isOrder.2.2.2 kd_X5_isOrder rfl (by decide) (by decide +kernel) rfl (by decide), fun h => absurd h (by decide)⟩, List.forall_mem_cons.mpr ⟨⟨fun _ => sv_COv_of (c_X5_laysTo l) sv_clok_all (sv_mem 820 (by decide +kernel) rfl) kw_X5_laysTo.1 kw_X5_laysTo.2.1 kw_X5_laysTo.2.2.1 kw_X5_laysTo.2.2.2 kd_X5_laysTo rfl (by decide) (by decide +kernel) rfl (by decide), fun h => absurd h (by decide)⟩, fun _ h => absurd h List.not_mem_nil⟩⟩⟩
theorem kw_X5_stuck : Cond.instanceMethod yX5_stuck ∈ sv_tb ∧ Cond.selects yX5_stuck.cls yX5_stuck yX5_stuck ∈ sv_tb ∧ Cond.initialized yX5_stuck.cls ∈ sv_tb ∧ Cond.code yX5_stuck cX5_stuck 2 (some .int) ∈ sv_tb := ⟨sv_mem 841 (by decide +kernel) rfl, sv_mem 842 (by decide +kernel) rfl, sv_mem 56 (by decide +kernel) rfl, sv_mem 843 (by decide +kernel) rfl⟩
theorem kd_X5_stuck : yX5_stuck.cls ≠ "java/lang/invoke/MethodHandle" ∧ yX5_stuck.cls ≠ "java/lang/invoke/VarHandle" ∧ (parseMethodDescriptor yX5_stuck.desc).map (fun d => d.parameters.length) = some 1 := by decide +kernel
def F_X5_stuck_0 (Wk : sv_K) (Kr : Option sv_AV → sv_S → Prop) (order : Int32) (σ : sv_S) : Prop := (∃ d1 : dD, (RM d1 σ) ∧ ((isN (fct (dT d1)) order → (∃ d2 : dD, ∃ n3 : Nat, ∃ o4 : Nat, (RM d2 σ ∧ (n3 ≤ dP d2 ∧ ((sv_gA σ 5 0 0) - (1 : Int32)) = nI n3 - 1) ∧ (o4 < fct (dT d2) ∧ order = nI o4)) ∧ (∀ v5 : Int32, ∀ σ6 : sv_S, pq [42, 41] σ σ6 ∧ v5 = stkN d2 o4 n3 ∧ (∀ q, shl d2 (dL d2) (ordX (dT d2) o4) n3 = some q → MP d2 q.1 σ6 ∧ sv_gA σ6 5 0 15 = nI q.2) → Kr (some (.inl v5)) σ6))) ∧ (¬ isN (fct (dT d1)) order → Kr (some (.inl (-2 : Int32))) σ)))
set_option maxRecDepth 100000 in
theorem bk_X5_stuck_0 (Wk : sv_K) (Kr : Option sv_AV → sv_S → Prop) (order : Int32) (σ : sv_S) (h : F_X5_stuck_0 Wk Kr order σ) : sv_vc tb_X5_stuck T_X5_stuck sv_all (some .int) Kr [] Wk 500 0 [some (.inr (.inr (5, 0))), some (.inl order)] [] σ := (match h with | ⟨d1, z7p, z7a, z7b⟩ => ⟨d1, z7p, fun z7y => br_f (by decide) ((z7a z7y)), fun z7y => br_t (by decide) ((z7b z7y))⟩)
set_option maxRecDepth 100000 in
theorem m_X5_stuck (l : Launch) (hb : ∀ (Wk : sv_K) (Kr : Option sv_AV → sv_S → Prop), (∀ (order : Int32) (σ : sv_S), F_X5_stuck_0 Wk Kr order σ → Wk 0 [some (.inr (.inr (5, 0))), some (.inl order)] [] σ) → (∀ (order : Int32) (σ : sv_S), (∃ d : dD, (RM d σ ∧ MI d σ) ∧ (∀ v : Int32, ∀ σ2 : sv_S, v = A_stuck d order ∧ (RM d σ2 ∧ MI d σ2) ∧ sq mg σ σ2 → Kr (some (.inl v)) σ2)) → Wk 0 [some (.inr (.inr (5, 0))), some (.inl order)] [] σ)) : sv_C l yX5_stuck cX5_stuck 2 (some .int) sv_all 4 92 sp_X5_stuck := by
  refine sv_meth sv_clok_all tb_X5_stuck T_X5_stuck (by decide) tbk_X5_stuck (Tok_X5_stuck l) ?_
  intro Wk Kr hc av σ hsp
  have hB := hb Wk Kr (fun order σ h => hc [] 500 0 _ _ _ (bk_X5_stuck_0 Wk Kr order σ h))
  unfold sp_X5_stuck at hsp
  split at hsp
  · exact ⟨⟨by simp, by simp [sv_cat]⟩, hB _ _ hsp⟩
  · exact hsp.elim
set_option maxHeartbeats 4000000 in
set_option maxRecDepth 100000 in
theorem c_X5_stuck (l : Launch) : sv_C l yX5_stuck cX5_stuck 2 (some .int) sv_all 4 92 sp_X5_stuck := by
  refine m_X5_stuck l ?_
  intro Wk Kr e0 order σ ⟨d, ⟨hC, hI⟩, h⟩
  have hT := hC.1.2.1
  apply e0
  unfold F_X5_stuck_0
  rw [hC.2.2.1]
  refine ⟨d, hC, fun ho => ?_, fun ho => h _ _ ⟨(ch_f ho _ _).symm, ⟨hC, hI⟩, sq_rf _ _⟩⟩
  have g := ho
  obtain ⟨o, ho, rfl⟩ := ho
  have hol := (fct_lt (dT d) (by omega)).1
  refine ⟨d, dP d, o, ⟨hC, ⟨Nat.le_refl _, rfl⟩, ho, rfl⟩, fun v5 σ6 ⟨hs, h5, hU⟩ => h _ _ ⟨?_, ⟨RM_pq hC hs, MI_pq hI hs⟩, sq_mono hs.1 (by decide)⟩⟩
  unfold A_stuck
  rw [ch_t g, xn_nI (by omega)]
  exact h5
-- ==== X5_order
def sp_X5_order : sv_P := fun av σ K => match av with
  | [.inr (.inr (5, 0))] => ∃ d : dD, (RM d σ ∧ MI d σ) ∧ (∀ v : Int32, ∀ σ2 : sv_S, v = A_order d  ∧ (RM d σ2 ∧ MI d σ2) ∧ sq mg σ σ2 → K (some (.inl v)) σ2)
  | _ => False
def tb_X5_order : List (Nat × (Instr × Nat)) := [(0, (.aload_n 0, 1)), (1, (.getfield 54, 3)), (4, (.invokestatic 162, 3)), (7, (.istore_n 1, 1)), (8, (.iconst 0, 1)), (9, (.istore_n 2, 1)), (10, (.iload_n 2, 1)), (11, (.iload_n 1, 1)), (12, (.if_icmp .ge 27, 3)), (15, (.aload_n 0, 1)), (16, (.aload_n 0, 1)), (17, (.getfield 46, 3)), (20, (.iconst 1, 1)), (21, (.isub, 1)), (22, (.iload_n 2, 1)), (23, (.invokevirtual 183, 3)), (26, (.bipush (-9), 2)), (28, (.if_icmp .ne 5, 3)), (31, (.iload_n 2, 1)), (32, (.ireturn, 1)), (33, (.iinc 2 1, 3)), (36, (.goto (-26), 3)), (39, (.bipush (-9), 2)), (41, (.ireturn, 1))]
set_option maxRecDepth 100000 in
theorem tbk_X5_order : sv_tbok cX5_order tb_X5_order = true := by decide +kernel
def cal_X5_order : List (Nat × (Nat × Nat × sv_P)) := [(162, (1, 90, sp_X5_factorial)), (183, (3, 5, sp_X5_laysTo))]
def T_X5_order : sv_T := (flX5, sfX5, kcX5, klX5, cal_X5_order)
set_option maxRecDepth 100000 in
theorem Tok_X5_order (l : Launch) : sv_Tok l RX5 sv_all 4 92 T_X5_order := ⟨flokX5, sfokX5, kcokX5, klokX5, List.forall_mem_cons.mpr ⟨⟨fun h => absurd h (by decide), fun _ => sv_COs_gen (c_X5_factorial l) (Or.inl (sv_mem 817 (by decide +kernel) rfl)) kw_X5_factorial.1 kw_X5_factorial.2.1 kw_X5_factorial.2.2 kd_X5_factorial rfl (by decide) (by decide +kernel)⟩, List.forall_mem_cons.mpr ⟨⟨fun _ => sv_COv_of (c_X5_laysTo l) sv_clok_all (sv_mem 820 (by decide +kernel) rfl) kw_X5_laysTo.1 kw_X5_laysTo.2.1 kw_X5_laysTo.2.2.1 kw_X5_laysTo.2.2.2 kd_X5_laysTo rfl (by decide) (by decide +kernel) rfl (by decide), fun h => absurd h (by decide)⟩, fun _ h => absurd h List.not_mem_nil⟩⟩⟩
theorem kw_X5_order : Cond.instanceMethod yX5_order ∈ sv_tb ∧ Cond.selects yX5_order.cls yX5_order yX5_order ∈ sv_tb ∧ Cond.initialized yX5_order.cls ∈ sv_tb ∧ Cond.code yX5_order cX5_order 3 (some .int) ∈ sv_tb := ⟨sv_mem 845 (by decide +kernel) rfl, sv_mem 846 (by decide +kernel) rfl, sv_mem 56 (by decide +kernel) rfl, sv_mem 847 (by decide +kernel) rfl⟩
theorem kd_X5_order : yX5_order.cls ≠ "java/lang/invoke/MethodHandle" ∧ yX5_order.cls ≠ "java/lang/invoke/VarHandle" ∧ (parseMethodDescriptor yX5_order.desc).map (fun d => d.parameters.length) = some 0 := by decide +kernel
def F_X5_order_0 (Wk : sv_K) (Kr : Option sv_AV → sv_S → Prop)  (σ : sv_S) : Prop := (∃ e1 : Nat, (e1 ≤ 5 ∧ (sv_gA σ 5 0 1) = nI e1) ∧ (∀ v2 : Int32, v2 = nI (fct e1) → Wk 10 [some (.inr (.inr (5, 0))), some (.inl v2), some (.inl (0 : Int32))] [] σ))
set_option maxRecDepth 100000 in
theorem bk_X5_order_0 (Wk : sv_K) (Kr : Option sv_AV → sv_S → Prop)  (σ : sv_S) (h : F_X5_order_0 Wk Kr  σ) : sv_vc tb_X5_order T_X5_order sv_all (some .int) Kr [(10, [true, true, true])] Wk 500 0 [some (.inr (.inr (5, 0))), none, none] [] σ := h
def F_X5_order_10 (Wk : sv_K) (Kr : Option sv_AV → sv_S → Prop) (x1 : Int32) (x2 : Int32) (σ : sv_S) : Prop := ((x1 ≤ x2 → Kr (some (.inl (-9 : Int32))) σ) ∧ (¬ x1 ≤ x2 → (∃ d1 : dD, ∃ n2 : Nat, ∃ o3 : Nat, (RM d1 σ ∧ (n2 ≤ dP d1 ∧ ((sv_gA σ 5 0 0) - (1 : Int32)) = nI n2 - 1) ∧ (o3 < fct (dT d1) ∧ x2 = nI o3)) ∧ (∀ v4 : Int32, ∀ σ5 : sv_S, pq [42, 41] σ σ5 ∧ v4 = stkN d1 o3 n2 ∧ (∀ q, shl d1 (dL d1) (ordX (dT d1) o3) n2 = some q → MP d1 q.1 σ5 ∧ sv_gA σ5 5 0 15 = nI q.2) → ((¬ v4 = (-9 : Int32) → Wk 10 [some (.inr (.inr (5, 0))), some (.inl x1), some (.inl (x2 + (1 : Int32)))] [] σ5) ∧ (v4 = (-9 : Int32) → Kr (some (.inl x2)) σ5))))))
set_option maxRecDepth 100000 in
theorem bk_X5_order_10 (Wk : sv_K) (Kr : Option sv_AV → sv_S → Prop) (x1 : Int32) (x2 : Int32) (σ : sv_S) (h : F_X5_order_10 Wk Kr x1 x2 σ) : sv_vc tb_X5_order T_X5_order sv_all (some .int) Kr [(10, [true, true, true])] Wk 500 10 [some (.inr (.inr (5, 0))), some (.inl x1), some (.inl x2)] [] σ := h
set_option maxRecDepth 100000 in
theorem m_X5_order (l : Launch) (hb : ∀ (Wk : sv_K) (Kr : Option sv_AV → sv_S → Prop), (∀  (σ : sv_S), F_X5_order_0 Wk Kr  σ → Wk 0 [some (.inr (.inr (5, 0))), none, none] [] σ) → (∀ (x1 : Int32) (x2 : Int32) (σ : sv_S), F_X5_order_10 Wk Kr x1 x2 σ → Wk 10 [some (.inr (.inr (5, 0))), some (.inl x1), some (.inl x2)] [] σ) → (∀  (σ : sv_S), (∃ d : dD, (RM d σ ∧ MI d σ) ∧ (∀ v : Int32, ∀ σ2 : sv_S, v = A_order d  ∧ (RM d σ2 ∧ MI d σ2) ∧ sq mg σ σ2 → Kr (some (.inl v)) σ2)) → Wk 0 [some (.inr (.inr (5, 0))), none, none] [] σ)) : sv_C l yX5_order cX5_order 3 (some .int) sv_all 4 92 sp_X5_order := by
  refine sv_meth sv_clok_all tb_X5_order T_X5_order (by decide) tbk_X5_order (Tok_X5_order l) ?_
  intro Wk Kr hc av σ hsp
  have hB := hb Wk Kr (fun  σ h => hc [(10, [true, true, true])] 500 0 _ _ _ (bk_X5_order_0 Wk Kr  σ h)) (fun x1 x2 σ h => hc [(10, [true, true, true])] 500 10 _ _ _ (bk_X5_order_10 Wk Kr x1 x2 σ h))
  unfold sp_X5_order at hsp
  split at hsp
  · exact ⟨⟨by simp, by simp [sv_cat]⟩, hB  _ hsp⟩
  · exact hsp.elim
set_option maxHeartbeats 4000000 in
set_option maxRecDepth 100000 in
theorem c_X5_order (l : Launch) : sv_C l yX5_order cX5_order 3 (some .int) sv_all 4 92 sp_X5_order := by
  refine m_X5_order l ?_
  intro Wk Kr e0 e10 σ ⟨d, ⟨hC, hI⟩, h⟩
  have hP := hC.1.1
  have hT := hC.1.2.1
  have hol := fct_lt (dT d) (by omega)
  apply e0
  refine ⟨dT d, ⟨hT, hC.2.2.2.1⟩, fun v2 h2 => ?_⟩
  subst h2
  suffices key : ∀ n, n ≤ fct (dT d) → ∀ σ', pq [42, 41] σ σ' → (∀ j, j < n → stkB d j = false) → Wk 10 [some (.inr (.inr (5, 0))), some (.inl (nI (fct (dT d)))), some (.inl (nI n))] [] σ' from key 0 (by omega) σ (pq_rf _ _) (fun j hj => by omega)
  refine lpN (fun n hn ih σ' hs hno => ?_)
  have hR' := RM_pq hC hs
  apply e10
  unfold F_X5_order_10
  rw [hR'.2.2.1, nI_1]
  refine pk_le (fct (dT d)) n (fun _ => h _ _ ⟨?_, ⟨RM_pq hC hs, MI_pq hI hs⟩, sq_mono hs.1 (by decide)⟩) (fun y => ⟨d, dP d, n, ⟨hR', ⟨Nat.le_refl _, rfl⟩, y, rfl⟩, fun v4 σ5 ⟨hs5, h4, hU⟩ => ⟨fun z => ih y σ5 (pq_tr hs hs5) (fun j hj => ?_), fun z => h _ _ ⟨?_, ⟨RM_pq hC (pq_tr hs hs5), MI_pq hI (pq_tr hs hs5)⟩, sq_mono (pq_tr hs hs5).1 (by decide)⟩⟩⟩)
  · unfold A_order
    rw [ch_f]
    intro hlt
    have h1 := frs_yes _ _ hlt
    rw [hno _ (by omega)] at h1
    cases h1
  · by_cases e : j = n
    · subst e
      unfold stkB
      cases hsh : shl d (dL d) (ordX (dT d) j) (dP d) with
      | none => rfl
      | some q => exact absurd (h4.trans (stkN_some hsh)) z
    · exact hno j (by omega)
  · have e : frs (stkB d) (fct (dT d)) = n := frs_eq (by omega) (by
      unfold stkB
      cases hsh : shl d (dL d) (ordX (dT d) n) (dP d) with
      | none => exact absurd (h4.symm.trans z) (stkN_none (by omega) hsh)
      | some q => rfl) hno
    unfold A_order
    rw [e, ch_t (by omega)]
-- ==== X5_reach
def sp_X5_reach : sv_P := fun av σ K => match av with
  | [.inr (.inr (5, 0)), .inl order] => ∃ d : dD, (RM d σ ∧ MI d σ) ∧ (∀ v : Int32, ∀ σ2 : sv_S, v = A_reach d order ∧ (RM d σ2 ∧ MI d σ2) ∧ sq mg σ σ2 → K (some (.inl v)) σ2)
  | _ => False
def tb_X5_reach : List (Nat × (Instr × Nat)) := [(0, (.aload_n 0, 1)), (1, (.iload_n 1, 1)), (2, (.invokevirtual 180, 3)), (5, (.ifCond .ne 6, 3)), (8, (.bipush (-2), 2)), (10, (.ireturn, 1)), (11, (.aload_n 0, 1)), (12, (.aload_n 0, 1)), (13, (.getfield 46, 3)), (16, (.iconst 1, 1)), (17, (.isub, 1)), (18, (.iload_n 1, 1)), (19, (.invokevirtual 183, 3)), (22, (.bipush (-9), 2)), (24, (.if_icmp .ne 10, 3)), (27, (.aload_n 0, 1)), (28, (.getfield 168, 3)), (31, (.goto 5, 3)), (34, (.bipush (-9), 2)), (36, (.ireturn, 1))]
set_option maxRecDepth 100000 in
theorem tbk_X5_reach : sv_tbok cX5_reach tb_X5_reach = true := by decide +kernel
def cal_X5_reach : List (Nat × (Nat × Nat × sv_P)) := [(180, (2, 5, sp_X5_isOrder)), (183, (3, 5, sp_X5_laysTo))]
def T_X5_reach : sv_T := (flX5, sfX5, kcX5, klX5, cal_X5_reach)
set_option maxRecDepth 100000 in
theorem Tok_X5_reach (l : Launch) : sv_Tok l RX5 sv_all 4 92 T_X5_reach := ⟨flokX5, sfokX5, kcokX5, klokX5, List.forall_mem_cons.mpr ⟨⟨fun _ => sv_COv_of (c_X5_isOrder l) sv_clok_all (sv_mem 813 (by decide +kernel) rfl) kw_X5_isOrder.1 kw_X5_isOrder.2.1 kw_X5_isOrder.2.2.1 kw_X5_isOrder.2.2.2 kd_X5_isOrder rfl (by decide) (by decide +kernel) rfl (by decide), fun h => absurd h (by decide)⟩, List.forall_mem_cons.mpr ⟨⟨fun _ => sv_COv_of (c_X5_laysTo l) sv_clok_all (sv_mem 820 (by decide +kernel) rfl) kw_X5_laysTo.1 kw_X5_laysTo.2.1 kw_X5_laysTo.2.2.1 kw_X5_laysTo.2.2.2 kd_X5_laysTo rfl (by decide) (by decide +kernel) rfl (by decide), fun h => absurd h (by decide)⟩, fun _ h => absurd h List.not_mem_nil⟩⟩⟩
theorem kw_X5_reach : Cond.instanceMethod yX5_reach ∈ sv_tb ∧ Cond.selects yX5_reach.cls yX5_reach yX5_reach ∈ sv_tb ∧ Cond.initialized yX5_reach.cls ∈ sv_tb ∧ Cond.code yX5_reach cX5_reach 2 (some .int) ∈ sv_tb := ⟨sv_mem 849 (by decide +kernel) rfl, sv_mem 850 (by decide +kernel) rfl, sv_mem 56 (by decide +kernel) rfl, sv_mem 851 (by decide +kernel) rfl⟩
theorem kd_X5_reach : yX5_reach.cls ≠ "java/lang/invoke/MethodHandle" ∧ yX5_reach.cls ≠ "java/lang/invoke/VarHandle" ∧ (parseMethodDescriptor yX5_reach.desc).map (fun d => d.parameters.length) = some 1 := by decide +kernel
def F_X5_reach_0 (Wk : sv_K) (Kr : Option sv_AV → sv_S → Prop) (order : Int32) (σ : sv_S) : Prop := (∃ d1 : dD, (RM d1 σ) ∧ ((isN (fct (dT d1)) order → (∃ d2 : dD, ∃ n3 : Nat, ∃ o4 : Nat, (RM d2 σ ∧ (n3 ≤ dP d2 ∧ ((sv_gA σ 5 0 0) - (1 : Int32)) = nI n3 - 1) ∧ (o4 < fct (dT d2) ∧ order = nI o4)) ∧ (∀ v5 : Int32, ∀ σ6 : sv_S, pq [42, 41] σ σ6 ∧ v5 = stkN d2 o4 n3 ∧ (∀ q, shl d2 (dL d2) (ordX (dT d2) o4) n3 = some q → MP d2 q.1 σ6 ∧ sv_gA σ6 5 0 15 = nI q.2) → ((¬ v5 = (-9 : Int32) → Kr (some (.inl (-9 : Int32))) σ6) ∧ (v5 = (-9 : Int32) → Kr (some (.inl (sv_gA σ6 5 0 15))) σ6))))) ∧ (¬ isN (fct (dT d1)) order → Kr (some (.inl (-2 : Int32))) σ)))
set_option maxRecDepth 100000 in
theorem bk_X5_reach_0 (Wk : sv_K) (Kr : Option sv_AV → sv_S → Prop) (order : Int32) (σ : sv_S) (h : F_X5_reach_0 Wk Kr order σ) : sv_vc tb_X5_reach T_X5_reach sv_all (some .int) Kr [] Wk 500 0 [some (.inr (.inr (5, 0))), some (.inl order)] [] σ := (match h with | ⟨d1, z7p, z7a, z7b⟩ => ⟨d1, z7p, fun z7y => sb_nt (by decide) ((z7a z7y)), fun z7y => sb_nf (by decide) ((z7b z7y))⟩)
set_option maxRecDepth 100000 in
theorem m_X5_reach (l : Launch) (hb : ∀ (Wk : sv_K) (Kr : Option sv_AV → sv_S → Prop), (∀ (order : Int32) (σ : sv_S), F_X5_reach_0 Wk Kr order σ → Wk 0 [some (.inr (.inr (5, 0))), some (.inl order)] [] σ) → (∀ (order : Int32) (σ : sv_S), (∃ d : dD, (RM d σ ∧ MI d σ) ∧ (∀ v : Int32, ∀ σ2 : sv_S, v = A_reach d order ∧ (RM d σ2 ∧ MI d σ2) ∧ sq mg σ σ2 → Kr (some (.inl v)) σ2)) → Wk 0 [some (.inr (.inr (5, 0))), some (.inl order)] [] σ)) : sv_C l yX5_reach cX5_reach 2 (some .int) sv_all 4 92 sp_X5_reach := by
  refine sv_meth sv_clok_all tb_X5_reach T_X5_reach (by decide) tbk_X5_reach (Tok_X5_reach l) ?_
  intro Wk Kr hc av σ hsp
  have hB := hb Wk Kr (fun order σ h => hc [] 500 0 _ _ _ (bk_X5_reach_0 Wk Kr order σ h))
  unfold sp_X5_reach at hsp
  split at hsp
  · exact ⟨⟨by simp, by simp [sv_cat]⟩, hB _ _ hsp⟩
  · exact hsp.elim
set_option maxHeartbeats 4000000 in
set_option maxRecDepth 100000 in
theorem c_X5_reach (l : Launch) : sv_C l yX5_reach cX5_reach 2 (some .int) sv_all 4 92 sp_X5_reach := by
  refine m_X5_reach l ?_
  intro Wk Kr e0 order σ ⟨d, ⟨hC, hI⟩, h⟩
  have hP := hC.1.1
  have hT := hC.1.2.1
  apply e0
  unfold F_X5_reach_0
  rw [hC.2.2.1]
  refine ⟨d, hC, fun ho => ?_, fun ho => h _ _ ⟨(ch_f ho _ _).symm, ⟨hC, hI⟩, sq_rf _ _⟩⟩
  have g := ho
  obtain ⟨o, ho, rfl⟩ := ho
  have hol := (fct_lt (dT d) (by omega)).1
  refine ⟨d, dP d, o, ⟨hC, ⟨Nat.le_refl _, rfl⟩, ho, rfl⟩, fun v5 σ6 ⟨hs, h5, hU⟩ => ⟨fun z => h _ _ ⟨?_, ⟨RM_pq hC hs, MI_pq hI hs⟩, sq_mono hs.1 (by decide)⟩, fun z => h _ _ ⟨?_, ⟨RM_pq hC hs, MI_pq hI hs⟩, sq_mono hs.1 (by decide)⟩⟩⟩
  · unfold A_reach
    rw [ch_t g, xn_nI (by omega)]
    unfold rch
    cases hsh : shl d (dL d) (ordX (dT d) o) (dP d) with
    | none => rfl
    | some q => exact absurd (h5.trans (stkN_some hsh)) z
  · unfold A_reach
    rw [ch_t g, xn_nI (by omega)]
    unfold rch
    cases hsh : shl d (dL d) (ordX (dT d) o) (dP d) with
    | none => exact absurd (h5.symm.trans z) (stkN_none (by omega) hsh)
    | some q => exact (hU q hsh).2
