-- ==== X5_part
def sp_X5_part : sv_P := fun av σ K => match av with
  | [.inr (.inr (5, 0)), .inl runs, .inl worst] => ∃ d : dD, (RM d σ ∧ MI d σ) ∧ (∀ v : Int32, ∀ σ2 : sv_S, v = A_part d runs worst ∧ (RM (U_part d runs worst) σ2 ∧ MI (U_part d runs worst) σ2) ∧ sq mg σ σ2 → K (some (.inl v)) σ2)
  | _ => False
def tb_X5_part : List (Nat × (Instr × Nat)) := [(0, (.iload_n 1, 1)), (1, (.iload_n 2, 1)), (2, (.invokestatic 57, 3)), (5, (.ifCond .ne 6, 3)), (8, (.bipush (-2), 2)), (10, (.ireturn, 1)), (11, (.aload_n 0, 1)), (12, (.getfield 46, 3)), (15, (.bipush 10, 2)), (17, (.if_icmp .ne 6, 3)), (20, (.bipush (-4), 2)), (22, (.ireturn, 1)), (23, (.aload_n 0, 1)), (24, (.getfield 7, 3)), (27, (.iconst 2, 1)), (28, (.aload_n 0, 1)), (29, (.getfield 46, 3)), (32, (.imul, 1)), (33, (.iload_n 1, 1)), (34, (.iastore, 1)), (35, (.aload_n 0, 1)), (36, (.getfield 7, 3)), (39, (.iconst 2, 1)), (40, (.aload_n 0, 1)), (41, (.getfield 46, 3)), (44, (.imul, 1)), (45, (.iconst 1, 1)), (46, (.iadd, 1)), (47, (.iload_n 2, 1)), (48, (.iastore, 1)), (49, (.aload_n 0, 1)), (50, (.getfield 25, 3)), (53, (.aload_n 0, 1)), (54, (.getfield 46, 3)), (57, (.iconst 0, 1)), (58, (.iastore, 1)), (59, (.iconst 0, 1)), (60, (.istore_n 3, 1)), (61, (.iload_n 3, 1)), (62, (.iconst 5, 1)), (63, (.if_icmp .ge 39, 3)), (66, (.aload_n 0, 1)), (67, (.getfield 16, 3)), (70, (.bipush 10, 2)), (72, (.iload_n 3, 1)), (73, (.imul, 1)), (74, (.aload_n 0, 1)), (75, (.getfield 46, 3)), (78, (.iadd, 1)), (79, (.iconst 0, 1)), (80, (.iastore, 1)), (81, (.aload_n 0, 1)), (82, (.getfield 19, 3)), (85, (.bipush 10, 2)), (87, (.iload_n 3, 1)), (88, (.imul, 1)), (89, (.aload_n 0, 1)), (90, (.getfield 46, 3)), (93, (.iadd, 1)), (94, (.iconst 0, 1)), (95, (.iastore, 1)), (96, (.iinc 3 1, 3)), (99, (.goto (-38), 3)), (102, (.aload_n 0, 1)), (103, (.dup, 1)), (104, (.getfield 46, 3)), (107, (.iconst 1, 1)), (108, (.iadd, 1)), (109, (.putfield 46, 3)), (112, (.aload_n 0, 1)), (113, (.iconst 0, 1)), (114, (.putfield 61, 3)), (117, (.aload_n 0, 1)), (118, (.getfield 46, 3)), (121, (.iconst 1, 1)), (122, (.isub, 1)), (123, (.ireturn, 1))]
set_option maxRecDepth 100000 in
theorem tbk_X5_part : sv_tbok cX5_part tb_X5_part = true := by decide +kernel
def cal_X5_part : List (Nat × (Nat × Nat × sv_P)) := [(57, (2, 90, sp_X5_areRuns))]
def T_X5_part : sv_T := (flX5, sfX5, kcX5, klX5, cal_X5_part)
set_option maxRecDepth 100000 in
theorem Tok_X5_part (l : Launch) : sv_Tok l RX5 sv_all 2 43 T_X5_part := ⟨flokX5, sfokX5, kcokX5, klokX5, List.forall_mem_cons.mpr ⟨⟨fun h => absurd h (by decide), fun _ => sv_COs_gen (c_X5_areRuns l) (Or.inl (sv_mem 620 (by decide +kernel) rfl)) kw_X5_areRuns.1 kw_X5_areRuns.2.1 kw_X5_areRuns.2.2 kd_X5_areRuns rfl (by decide) (by decide +kernel)⟩, fun _ h => absurd h List.not_mem_nil⟩⟩
theorem kw_X5_part : Cond.instanceMethod yX5_part ∈ sv_tb ∧ Cond.selects yX5_part.cls yX5_part yX5_part ∈ sv_tb ∧ Cond.initialized yX5_part.cls ∈ sv_tb ∧ Cond.code yX5_part cX5_part 4 (some .int) ∈ sv_tb := ⟨sv_mem 617 (by decide +kernel) rfl, sv_mem 618 (by decide +kernel) rfl, sv_mem 56 (by decide +kernel) rfl, sv_mem 619 (by decide +kernel) rfl⟩
theorem kd_X5_part : yX5_part.cls ≠ "java/lang/invoke/MethodHandle" ∧ yX5_part.cls ≠ "java/lang/invoke/VarHandle" ∧ (parseMethodDescriptor yX5_part.desc).map (fun d => d.parameters.length) = some 2 := by decide +kernel
def F_X5_part_0 (Wk : sv_K) (Kr : Option sv_AV → sv_S → Prop) (runs : Int32) (worst : Int32) (σ : sv_S) : Prop := (((okR runs worst → ((¬ (sv_gA σ 5 0 0) = (10 : Int32) → (vp_in ((2 : Int32) * (sv_gA σ 5 0 0)) 20 ∧ (vp_in (((2 : Int32) * (sv_gA σ 5 0 0)) + (1 : Int32)) 20 ∧ (vp_in (sv_gA σ 5 0 0) 10 ∧ Wk 61 [some (.inr (.inr (5, 0))), none, none, some (.inl (0 : Int32))] [] (sv_sA (sv_sA (sv_sA σ 31 0 ((2 : Int32) * (sv_gA σ 5 0 0)).toNatClampNeg runs) 31 0 (((2 : Int32) * (sv_gA σ 5 0 0)) + (1 : Int32)).toNatClampNeg worst) 36 0 (sv_gA σ 5 0 0).toNatClampNeg (0 : Int32)))))) ∧ ((sv_gA σ 5 0 0) = (10 : Int32) → Kr (some (.inl (-4 : Int32))) σ))) ∧ (¬ okR runs worst → Kr (some (.inl (-2 : Int32))) σ)))
set_option maxRecDepth 100000 in
theorem bk_X5_part_0 (Wk : sv_K) (Kr : Option sv_AV → sv_S → Prop) (runs : Int32) (worst : Int32) (σ : sv_S) (h : F_X5_part_0 Wk Kr runs worst σ) : sv_vc tb_X5_part T_X5_part sv_all (some .int) Kr [(61, [true, false, false, true])] Wk 500 0 [some (.inr (.inr (5, 0))), some (.inl runs), some (.inl worst), none] [] σ := (match h with | ⟨z1a, z1b⟩ => ⟨fun z1y => sb_nt (by decide) ((z1a z1y)), fun z1y => sb_nf (by decide) ((z1b z1y))⟩)
def F_X5_part_61 (Wk : sv_K) (Kr : Option sv_AV → sv_S → Prop) (x3 : Int32) (σ : sv_S) : Prop := (((5 : Int32) ≤ x3 → Kr (some (.inl (((sv_gA σ 5 0 0) + (1 : Int32)) - (1 : Int32)))) (sv_sA (sv_sA σ 5 0 0 ((sv_gA σ 5 0 0) + (1 : Int32))) 5 0 11 (0 : Int32))) ∧ (¬ (5 : Int32) ≤ x3 → (vp_in (((10 : Int32) * x3) + (sv_gA σ 5 0 0)) 50 ∧ (vp_in (((10 : Int32) * x3) + (sv_gA σ 5 0 0)) 50 ∧ Wk 61 [some (.inr (.inr (5, 0))), none, none, some (.inl (x3 + (1 : Int32)))] [] (sv_sA (sv_sA σ 33 0 (((10 : Int32) * x3) + (sv_gA σ 5 0 0)).toNatClampNeg (0 : Int32)) 34 0 (((10 : Int32) * x3) + (sv_gA σ 5 0 0)).toNatClampNeg (0 : Int32))))))
set_option maxRecDepth 100000 in
theorem bk_X5_part_61 (Wk : sv_K) (Kr : Option sv_AV → sv_S → Prop) (x3 : Int32) (σ : sv_S) (h : F_X5_part_61 Wk Kr x3 σ) : sv_vc tb_X5_part T_X5_part sv_all (some .int) Kr [(61, [true, false, false, true])] Wk 500 61 [some (.inr (.inr (5, 0))), none, none, some (.inl x3)] [] σ := ⟨fun z1 => ⟨⟨rfl, rfl⟩, ((h).1 z1)⟩, fun z1 => ((h).2 z1)⟩
set_option maxRecDepth 100000 in
theorem m_X5_part (l : Launch) (hb : ∀ (Wk : sv_K) (Kr : Option sv_AV → sv_S → Prop), (∀ (runs : Int32) (worst : Int32) (σ : sv_S), F_X5_part_0 Wk Kr runs worst σ → Wk 0 [some (.inr (.inr (5, 0))), some (.inl runs), some (.inl worst), none] [] σ) → (∀ (x3 : Int32) (σ : sv_S), F_X5_part_61 Wk Kr x3 σ → Wk 61 [some (.inr (.inr (5, 0))), none, none, some (.inl x3)] [] σ) → (∀ (runs : Int32) (worst : Int32) (σ : sv_S), (∃ d : dD, (RM d σ ∧ MI d σ) ∧ (∀ v : Int32, ∀ σ2 : sv_S, v = A_part d runs worst ∧ (RM (U_part d runs worst) σ2 ∧ MI (U_part d runs worst) σ2) ∧ sq mg σ σ2 → Kr (some (.inl v)) σ2)) → Wk 0 [some (.inr (.inr (5, 0))), some (.inl runs), some (.inl worst), none] [] σ)) : sv_C l yX5_part cX5_part 4 (some .int) sv_all 2 43 sp_X5_part := by
  refine sv_meth sv_clok_all tb_X5_part T_X5_part (by decide) tbk_X5_part (Tok_X5_part l) ?_
  intro Wk Kr hc av σ hsp
  have hB := hb Wk Kr (fun runs worst σ h => hc [(61, [true, false, false, true])] 500 0 _ _ _ (bk_X5_part_0 Wk Kr runs worst σ h)) (fun x3 σ h => hc [(61, [true, false, false, true])] 500 61 _ _ _ (bk_X5_part_61 Wk Kr x3 σ h))
  unfold sp_X5_part at hsp
  split at hsp
  · exact ⟨⟨by simp, by simp [sv_cat]⟩, hB _ _ _ hsp⟩
  · exact hsp.elim
set_option maxHeartbeats 4000000 in
set_option maxRecDepth 100000 in
theorem c_X5_part (l : Launch) : sv_C l yX5_part cX5_part 4 (some .int) sv_all 2 43 sp_X5_part := by
  refine m_X5_part l ?_
  intro Wk Kr e0 e61 runs worst σ ⟨d, ⟨hC, hI⟩, h⟩
  have hP := hC.1.1
  apply e0
  unfold F_X5_part_0
  rw [hC.2.2.1]
  refine ⟨fun ho => ?_, fun ho => h _ _ ⟨(ch_f ho _ _).symm, ?_, sq_rf _ _⟩⟩
  · obtain ⟨a, b, hab, rfl, rfl⟩ := okR_of ho
    refine ⟨fun z => ?_, fun z => h _ _ ⟨?_, ?_, sq_rf _ _⟩⟩
    · have hP9 : dP d < 10 := by
        rcases Nat.lt_or_ge (dP d) 10 with y | y
        · exact y
        · exact absurd (show nI (dP d) = 10 by rw [show dP d = 10 by omega]; rfl) z
      rw [ix2, nI_1, nI_clamp (by omega), nI_clamp (by omega), nI_clamp (by omega)]
      refine ⟨pk_in (2 * dP d) 20 (by omega), pk_in (2 * dP d + 1) 20 (by omega), pk_in (dP d) 10 hP9, ?_⟩
      have key : ∀ n, n ≤ 5 → ∀ σ', sq [33, 34] (sv_sA (sv_sA (sv_sA σ 31 0 (2 * dP d) (nI a)) 31 0 (2 * dP d + 1) (nI b)) 36 0 (dP d) 0) σ' → (∀ t p, t < 5 → p < 10 → sv_gA σ' 33 0 (10 * t + p) = if p = dP d ∧ t < n then 0 else sv_gA σ 33 0 (10 * t + p)) → (∀ t p, t < 5 → p < 10 → sv_gA σ' 34 0 (10 * t + p) = if p = dP d ∧ t < n then 0 else sv_gA σ 34 0 (10 * t + p)) → Wk 61 [some (.inr (.inr (5, 0))), none, none, some (.inl (nI n))] [] σ' := by
        refine lpN (fun n hn ih σ' hs h3 h4 => ?_)
        apply e61
        unfold F_X5_part_61
        have e5 : sv_gA σ' 5 0 0 = nI (dP d) := by
          rw [hs.1 _ (by decide)]
          simp [sv_gA_s]
          exact hC.2.2.1
        rw [e5, ix10, nI_1, nI_1, nI_clamp (by omega)]
        refine pk_le 5 n (fun y => h _ _ ⟨?_, ⟨?_, Or.inl (gA_same _ _ _ _ _)⟩, ?_⟩) (fun y => ⟨pk_in (10 * n + dP d) 50 (by omega), pk_in (10 * n + dP d) 50 (by omega), ?_⟩)
        · unfold A_part
          rw [ch_t (show okR (nI a) (nI b) from ho), ch_f (by omega)]
          exact nI_pred _
        · unfold U_part
          rw [ch_t ⟨(show okR (nI a) (nI b) from ho), hP9⟩, xn_nI (by omega), xn_nI (by omega)]
          refine RM_part hC hab hP9 (fun j => ?_) (fun j => ?_) (fun j => ?_) (fun t p ht hp => ?_) (fun t p ht hp => ?_) (fun j => ?_) (fun j => ?_)
          · rw [sv_gA_s, sv_gA_s]
            by_cases c1 : j = 11
            · simp [c1]
            · by_cases c2 : j = 0
              · simp [c2]
              · simp [c1, c2]
                rw [hs.1 _ (by decide)]
                simp [sv_gA_s]
          · rw [gA_ng _ (by decide), gA_ng _ (by decide), hs.1 _ (by decide)]
            simp [sv_gA_s]
          · rw [gA_ng _ (by decide), gA_ng _ (by decide), hs.1 _ (by decide)]
            simp [sv_gA_s]
          · rw [gA_ng _ (by decide), gA_ng _ (by decide), h3 t p ht hp]
            by_cases c : p = dP d
            · rw [if_pos ⟨c, by omega⟩, if_pos c]
            · rw [if_neg (fun z => c z.1), if_neg c]
          · rw [gA_ng _ (by decide), gA_ng _ (by decide), h4 t p ht hp]
            by_cases c : p = dP d
            · rw [if_pos ⟨c, by omega⟩, if_pos c]
            · rw [if_neg (fun z => c z.1), if_neg c]
          · rw [gA_ng _ (by decide), gA_ng _ (by decide), hs.1 _ (by decide)]
            simp [sv_gA_s]
          · rw [gA_ng _ (by decide), gA_ng _ (by decide), hs.1 _ (by decide)]
            simp [sv_gA_s]
        · exact sq_tr (sq_tr (sq_tr (sq_tr (sq_tr (sq_tr (sq_sA _ _ _ _ (by decide)) (sq_sA _ _ _ _ (by decide))) (sq_sA _ _ _ _ (by decide))) (sq_mono hs (by decide))) (sq_sA _ _ _ _ (by decide))) (sq_sA _ _ _ _ (by decide))) (sq_rf _ _)
        · refine ih y _ (sq_tr hs (sq_tr (sq_sA _ _ _ _ (by decide)) (sq_sA _ _ _ _ (by decide)))) (fun t p ht hp => ?_) (fun t p ht hp => ?_)
          · rw [gA_ng _ (by decide), sv_gA_s, h3 t p ht hp]
            by_cases c : p = dP d
            · by_cases c2 : t = n
              · rw [if_pos ⟨rfl, rfl, by omega⟩, if_pos ⟨c, by omega⟩]
              · rw [if_neg (fun z => by omega)]
                by_cases c3 : t < n
                · rw [if_pos ⟨c, c3⟩, if_pos ⟨c, by omega⟩]
                · rw [if_neg (fun z => c3 z.2), if_neg (fun z => by omega)]
            · rw [if_neg (fun z => by omega), if_neg (fun z => c z.1), if_neg (fun z => c z.1)]
          · rw [sv_gA_s, gA_ng _ (by decide), h4 t p ht hp]
            by_cases c : p = dP d
            · by_cases c2 : t = n
              · rw [if_pos ⟨rfl, rfl, by omega⟩, if_pos ⟨c, by omega⟩]
              · rw [if_neg (fun z => by omega)]
                by_cases c3 : t < n
                · rw [if_pos ⟨c, c3⟩, if_pos ⟨c, by omega⟩]
                · rw [if_neg (fun z => c3 z.2), if_neg (fun z => by omega)]
            · rw [if_neg (fun z => by omega), if_neg (fun z => c z.1), if_neg (fun z => c z.1)]
      exact key 0 (by omega) _ (sq_rf _ _) (fun t p ht hp => by rw [if_neg (fun z => by omega)]; simp [sv_gA_s]) (fun t p ht hp => by rw [if_neg (fun z => by omega)]; simp [sv_gA_s])
    · have hP10 : dP d = 10 := (nI_eq (by omega) (by omega)).mp (show nI (dP d) = nI 10 from z)
      unfold A_part
      rw [ch_t (show okR (nI a) (nI b) from ho), ch_t hP10]
    · have hP10 : dP d = 10 := (nI_eq (by omega) (by omega)).mp (show nI (dP d) = nI 10 from z)
      unfold U_part
      rw [ch_f (fun y => by omega)]
      exact ⟨hC, hI⟩
  · unfold U_part
    rw [ch_f (fun y => ho y.1)]
    exact ⟨hC, hI⟩
-- ==== X5_runs
def sp_X5_runs : sv_P := fun av σ K => match av with
  | [.inr (.inr (5, 0)), .inl p, .inl runs, .inl worst] => ∃ d : dD, (RM d σ ∧ MI d σ) ∧ (∀ v : Int32, ∀ σ2 : sv_S, v = A_runs d p runs worst ∧ (RM (U_runs d p runs worst) σ2 ∧ MI (U_runs d p runs worst) σ2) ∧ sq mg σ σ2 → K (some (.inl v)) σ2)
  | _ => False
def tb_X5_runs : List (Nat × (Instr × Nat)) := [(0, (.aload_n 0, 1)), (1, (.iload_n 1, 1)), (2, (.invokevirtual 65, 3)), (5, (.ifCond .ne 5, 3)), (8, (.iconst (-1), 1)), (9, (.ireturn, 1)), (10, (.iload_n 2, 1)), (11, (.iload_n 3, 1)), (12, (.invokestatic 57, 3)), (15, (.ifCond .ne 6, 3)), (18, (.bipush (-2), 2)), (20, (.ireturn, 1)), (21, (.aload_n 0, 1)), (22, (.getfield 7, 3)), (25, (.iconst 2, 1)), (26, (.iload_n 1, 1)), (27, (.imul, 1)), (28, (.iload_n 2, 1)), (29, (.iastore, 1)), (30, (.aload_n 0, 1)), (31, (.getfield 7, 3)), (34, (.iconst 2, 1)), (35, (.iload_n 1, 1)), (36, (.imul, 1)), (37, (.iconst 1, 1)), (38, (.iadd, 1)), (39, (.iload_n 3, 1)), (40, (.iastore, 1)), (41, (.aload_n 0, 1)), (42, (.iconst 0, 1)), (43, (.putfield 61, 3)), (46, (.iconst 1, 1)), (47, (.ireturn, 1))]
set_option maxRecDepth 100000 in
theorem tbk_X5_runs : sv_tbok cX5_runs tb_X5_runs = true := by decide +kernel
def cal_X5_runs : List (Nat × (Nat × Nat × sv_P)) := [(65, (2, 5, sp_X5_isPart)), (57, (2, 90, sp_X5_areRuns))]
def T_X5_runs : sv_T := (flX5, sfX5, kcX5, klX5, cal_X5_runs)
set_option maxRecDepth 100000 in
theorem Tok_X5_runs (l : Launch) : sv_Tok l RX5 sv_all 2 43 T_X5_runs := ⟨flokX5, sfokX5, kcokX5, klokX5, List.forall_mem_cons.mpr ⟨⟨fun _ => sv_COv_of (c_X5_isPart l) sv_clok_all (sv_mem 630 (by decide +kernel) rfl) kw_X5_isPart.1 kw_X5_isPart.2.1 kw_X5_isPart.2.2.1 kw_X5_isPart.2.2.2 kd_X5_isPart rfl (by decide) (by decide +kernel) rfl (by decide), fun h => absurd h (by decide)⟩, List.forall_mem_cons.mpr ⟨⟨fun h => absurd h (by decide), fun _ => sv_COs_gen (c_X5_areRuns l) (Or.inl (sv_mem 620 (by decide +kernel) rfl)) kw_X5_areRuns.1 kw_X5_areRuns.2.1 kw_X5_areRuns.2.2 kd_X5_areRuns rfl (by decide) (by decide +kernel)⟩, fun _ h => absurd h List.not_mem_nil⟩⟩⟩
theorem kw_X5_runs : Cond.instanceMethod yX5_runs ∈ sv_tb ∧ Cond.selects yX5_runs.cls yX5_runs yX5_runs ∈ sv_tb ∧ Cond.initialized yX5_runs.cls ∈ sv_tb ∧ Cond.code yX5_runs cX5_runs 4 (some .int) ∈ sv_tb := ⟨sv_mem 627 (by decide +kernel) rfl, sv_mem 628 (by decide +kernel) rfl, sv_mem 56 (by decide +kernel) rfl, sv_mem 629 (by decide +kernel) rfl⟩
theorem kd_X5_runs : yX5_runs.cls ≠ "java/lang/invoke/MethodHandle" ∧ yX5_runs.cls ≠ "java/lang/invoke/VarHandle" ∧ (parseMethodDescriptor yX5_runs.desc).map (fun d => d.parameters.length) = some 3 := by decide +kernel
def F_X5_runs_0 (Wk : sv_K) (Kr : Option sv_AV → sv_S → Prop) (p : Int32) (runs : Int32) (worst : Int32) (σ : sv_S) : Prop := (∃ d1 : dD, (RM d1 σ) ∧ ((isN (dP d1) p → (((okR runs worst → (vp_in ((2 : Int32) * p) 20 ∧ (vp_in (((2 : Int32) * p) + (1 : Int32)) 20 ∧ Kr (some (.inl (1 : Int32))) (sv_sA (sv_sA (sv_sA σ 31 0 ((2 : Int32) * p).toNatClampNeg runs) 31 0 (((2 : Int32) * p) + (1 : Int32)).toNatClampNeg worst) 5 0 11 (0 : Int32))))) ∧ (¬ okR runs worst → Kr (some (.inl (-2 : Int32))) σ)))) ∧ (¬ isN (dP d1) p → Kr (some (.inl (-1 : Int32))) σ)))
set_option maxRecDepth 100000 in
theorem bk_X5_runs_0 (Wk : sv_K) (Kr : Option sv_AV → sv_S → Prop) (p : Int32) (runs : Int32) (worst : Int32) (σ : sv_S) (h : F_X5_runs_0 Wk Kr p runs worst σ) : sv_vc tb_X5_runs T_X5_runs sv_all (some .int) Kr [] Wk 500 0 [some (.inr (.inr (5, 0))), some (.inl p), some (.inl runs), some (.inl worst)] [] σ := (match h with | ⟨d1, z3p, z3a, z3b⟩ => ⟨d1, z3p, fun z3y => sb_nt (by decide) ((match (z3a z3y) with | ⟨z2a, z2b⟩ => ⟨fun z2y => sb_nt (by decide) (⟨((z2a z2y)).1, ⟨((((z2a z2y)).2)).1, ⟨⟨rfl, rfl⟩, (((((z2a z2y)).2)).2)⟩⟩⟩), fun z2y => sb_nf (by decide) ((z2b z2y))⟩)), fun z3y => sb_nf (by decide) ((z3b z3y))⟩)
set_option maxRecDepth 100000 in
theorem m_X5_runs (l : Launch) (hb : ∀ (Wk : sv_K) (Kr : Option sv_AV → sv_S → Prop), (∀ (p : Int32) (runs : Int32) (worst : Int32) (σ : sv_S), F_X5_runs_0 Wk Kr p runs worst σ → Wk 0 [some (.inr (.inr (5, 0))), some (.inl p), some (.inl runs), some (.inl worst)] [] σ) → (∀ (p : Int32) (runs : Int32) (worst : Int32) (σ : sv_S), (∃ d : dD, (RM d σ ∧ MI d σ) ∧ (∀ v : Int32, ∀ σ2 : sv_S, v = A_runs d p runs worst ∧ (RM (U_runs d p runs worst) σ2 ∧ MI (U_runs d p runs worst) σ2) ∧ sq mg σ σ2 → Kr (some (.inl v)) σ2)) → Wk 0 [some (.inr (.inr (5, 0))), some (.inl p), some (.inl runs), some (.inl worst)] [] σ)) : sv_C l yX5_runs cX5_runs 4 (some .int) sv_all 2 43 sp_X5_runs := by
  refine sv_meth sv_clok_all tb_X5_runs T_X5_runs (by decide) tbk_X5_runs (Tok_X5_runs l) ?_
  intro Wk Kr hc av σ hsp
  have hB := hb Wk Kr (fun p runs worst σ h => hc [] 500 0 _ _ _ (bk_X5_runs_0 Wk Kr p runs worst σ h))
  unfold sp_X5_runs at hsp
  split at hsp
  · exact ⟨⟨by simp, by simp [sv_cat]⟩, hB _ _ _ _ hsp⟩
  · exact hsp.elim
set_option maxHeartbeats 4000000 in
set_option maxRecDepth 100000 in
theorem c_X5_runs (l : Launch) : sv_C l yX5_runs cX5_runs 4 (some .int) sv_all 2 43 sp_X5_runs := by
  refine m_X5_runs l ?_
  intro Wk Kr e0 p runs worst σ ⟨d, ⟨hC, hI⟩, h⟩
  have hP := hC.1.1
  apply e0
  refine ⟨d, hC, fun hp => ⟨fun ho => ?_, fun ho => h _ _ ⟨?_, ?_, sq_rf _ _⟩⟩, fun hp => h _ _ ⟨?_, ?_, sq_rf _ _⟩⟩
  · obtain ⟨a, b, hab, rfl, rfl⟩ := okR_of ho
    have hp0 := hp
    obtain ⟨q, hq, rfl⟩ := hp
    rw [ix2, nI_1, nI_clamp (by omega), nI_clamp (by omega)]
    refine ⟨pk_in (2 * q) 20 (by omega), pk_in (2 * q + 1) 20 (by omega), h _ _ ⟨?_, ?_, ?_⟩⟩
    · unfold A_runs
      rw [ch_t hp0, ch_t (show okR (nI a) (nI b) from ho)]
    · unfold U_runs
      rw [ch_t ⟨hp0, (show okR (nI a) (nI b) from ho)⟩, xn_nI (by omega), xn_nI (by omega), xn_nI (by omega)]
      exact ⟨RM_runs hC hq hab, Or.inl (gA_same _ _ _ _ _)⟩
    · exact sq_tr (sq_tr (sq_sA _ _ _ _ (by decide)) (sq_sA _ _ _ _ (by decide))) (sq_sA _ _ _ _ (by decide))
  · unfold A_runs
    rw [ch_t hp, ch_f (show ¬ okR runs worst from ho)]
  · unfold U_runs
    rw [ch_f (fun y => ho y.2)]
    exact ⟨hC, hI⟩
  · unfold A_runs
    rw [ch_f hp]
  · unfold U_runs
    rw [ch_f (fun y => hp y.1)]
    exact ⟨hC, hI⟩
-- ==== X5_cut
def sp_X5_cut : sv_P := fun av σ K => match av with
  | [.inr (.inr (5, 0))] => ∃ d : dD, (RM d σ ∧ MI d σ) ∧ (∀ v : Int32, ∀ σ2 : sv_S, v = A_cut d  ∧ (RM (U_cut d ) σ2 ∧ MI (U_cut d ) σ2) ∧ sq mg σ σ2 → K (some (.inl v)) σ2)
  | _ => False
def tb_X5_cut : List (Nat × (Instr × Nat)) := [(0, (.aload_n 0, 1)), (1, (.getfield 46, 3)), (4, (.ifCond .ne 6, 3)), (7, (.bipush (-3), 2)), (9, (.ireturn, 1)), (10, (.aload_n 0, 1)), (11, (.dup, 1)), (12, (.getfield 46, 3)), (15, (.iconst 1, 1)), (16, (.isub, 1)), (17, (.putfield 46, 3)), (20, (.aload_n 0, 1)), (21, (.iconst 0, 1)), (22, (.putfield 61, 3)), (25, (.aload_n 0, 1)), (26, (.getfield 46, 3)), (29, (.ireturn, 1))]
set_option maxRecDepth 100000 in
theorem tbk_X5_cut : sv_tbok cX5_cut tb_X5_cut = true := by decide +kernel
def cal_X5_cut : List (Nat × (Nat × Nat × sv_P)) := []
def T_X5_cut : sv_T := (flX5, sfX5, kcX5, klX5, cal_X5_cut)
set_option maxRecDepth 100000 in
theorem Tok_X5_cut (l : Launch) : sv_Tok l RX5 sv_all 0 0 T_X5_cut := ⟨flokX5, sfokX5, kcokX5, klokX5, fun _ h => absurd h List.not_mem_nil⟩
theorem kw_X5_cut : Cond.instanceMethod yX5_cut ∈ sv_tb ∧ Cond.selects yX5_cut.cls yX5_cut yX5_cut ∈ sv_tb ∧ Cond.initialized yX5_cut.cls ∈ sv_tb ∧ Cond.code yX5_cut cX5_cut 1 (some .int) ∈ sv_tb := ⟨sv_mem 635 (by decide +kernel) rfl, sv_mem 636 (by decide +kernel) rfl, sv_mem 56 (by decide +kernel) rfl, sv_mem 637 (by decide +kernel) rfl⟩
theorem kd_X5_cut : yX5_cut.cls ≠ "java/lang/invoke/MethodHandle" ∧ yX5_cut.cls ≠ "java/lang/invoke/VarHandle" ∧ (parseMethodDescriptor yX5_cut.desc).map (fun d => d.parameters.length) = some 0 := by decide +kernel
def F_X5_cut_0 (Wk : sv_K) (Kr : Option sv_AV → sv_S → Prop)  (σ : sv_S) : Prop := ((¬ (sv_gA σ 5 0 0) = (0 : Int32) → Kr (some (.inl ((sv_gA σ 5 0 0) - (1 : Int32)))) (sv_sA (sv_sA σ 5 0 0 ((sv_gA σ 5 0 0) - (1 : Int32))) 5 0 11 (0 : Int32))) ∧ ((sv_gA σ 5 0 0) = (0 : Int32) → Kr (some (.inl (-3 : Int32))) σ))
set_option maxRecDepth 100000 in
theorem bk_X5_cut_0 (Wk : sv_K) (Kr : Option sv_AV → sv_S → Prop)  (σ : sv_S) (h : F_X5_cut_0 Wk Kr  σ) : sv_vc tb_X5_cut T_X5_cut sv_all (some .int) Kr [] Wk 500 0 [some (.inr (.inr (5, 0)))] [] σ := ⟨fun z1 => ⟨⟨rfl, rfl⟩, ((h).1 z1)⟩, fun z1 => ((h).2 z1)⟩
set_option maxRecDepth 100000 in
theorem m_X5_cut (l : Launch) (hb : ∀ (Wk : sv_K) (Kr : Option sv_AV → sv_S → Prop), (∀  (σ : sv_S), F_X5_cut_0 Wk Kr  σ → Wk 0 [some (.inr (.inr (5, 0)))] [] σ) → (∀  (σ : sv_S), (∃ d : dD, (RM d σ ∧ MI d σ) ∧ (∀ v : Int32, ∀ σ2 : sv_S, v = A_cut d  ∧ (RM (U_cut d ) σ2 ∧ MI (U_cut d ) σ2) ∧ sq mg σ σ2 → Kr (some (.inl v)) σ2)) → Wk 0 [some (.inr (.inr (5, 0)))] [] σ)) : sv_C l yX5_cut cX5_cut 1 (some .int) sv_all 0 0 sp_X5_cut := by
  refine sv_meth sv_clok_all tb_X5_cut T_X5_cut (by decide) tbk_X5_cut (Tok_X5_cut l) ?_
  intro Wk Kr hc av σ hsp
  have hB := hb Wk Kr (fun  σ h => hc [] 500 0 _ _ _ (bk_X5_cut_0 Wk Kr  σ h))
  unfold sp_X5_cut at hsp
  split at hsp
  · exact ⟨⟨by simp, by simp [sv_cat]⟩, hB  _ hsp⟩
  · exact hsp.elim
set_option maxHeartbeats 4000000 in
set_option maxRecDepth 100000 in
theorem c_X5_cut (l : Launch) : sv_C l yX5_cut cX5_cut 1 (some .int) sv_all 0 0 sp_X5_cut := by
  refine m_X5_cut l ?_
  intro Wk Kr e0 σ ⟨d, ⟨hC, hI⟩, h⟩
  have hP := hC.1.1
  apply e0
  unfold F_X5_cut_0
  rw [hC.2.2.1]
  refine ⟨fun z => ?_, fun z => ?_⟩
  · have hp0 : dP d ≠ 0 := fun y => z (by rw [y]; rfl)
    rw [show (1 : Int32) = nI 1 from rfl, pk_sub (by omega)]
    refine h _ _ ⟨?_, ?_, sq_tr (sq_sA _ _ _ _ (by decide)) (sq_sA _ _ _ _ (by decide))⟩
    · unfold A_cut
      rw [ch_f hp0]
    · unfold U_cut
      rw [ch_f hp0]
      exact ⟨RM_cut hC, Or.inl (gA_same _ _ _ _ _)⟩
  · have hp0 : dP d = 0 := (nI_eq (by omega) (by omega)).mp (show nI (dP d) = nI 0 from z)
    refine h _ _ ⟨?_, ?_, sq_rf _ _⟩
    · unfold A_cut
      rw [ch_t hp0]
    · unfold U_cut
      rw [ch_t hp0]
      exact ⟨hC, hI⟩
-- ==== X5_thing
def sp_X5_thing : sv_P := fun av σ K => match av with
  | [.inr (.inr (5, 0)), .inl size] => ∃ d : dD, (RM d σ ∧ MI d σ) ∧ (∀ v : Int32, ∀ σ2 : sv_S, v = A_thing d size ∧ (RM (U_thing d size) σ2 ∧ MI (U_thing d size) σ2) ∧ sq mg σ σ2 → K (some (.inl v)) σ2)
  | _ => False
def tb_X5_thing : List (Nat × (Instr × Nat)) := [(0, (.iload_n 1, 1)), (1, (.iconst 1, 1)), (2, (.bipush 20, 2)), (4, (.invokestatic 50, 3)), (7, (.ifCond .ne 6, 3)), (10, (.bipush (-2), 2)), (12, (.ireturn, 1)), (13, (.aload_n 0, 1)), (14, (.getfield 54, 3)), (17, (.iconst 5, 1)), (18, (.if_icmp .ne 6, 3)), (21, (.bipush (-4), 2)), (23, (.ireturn, 1)), (24, (.aload_n 0, 1)), (25, (.getfield 13, 3)), (28, (.aload_n 0, 1)), (29, (.getfield 54, 3)), (32, (.iload_n 1, 1)), (33, (.iastore, 1)), (34, (.aload_n 0, 1)), (35, (.dup, 1)), (36, (.getfield 54, 3)), (39, (.iconst 1, 1)), (40, (.iadd, 1)), (41, (.putfield 54, 3)), (44, (.aload_n 0, 1)), (45, (.iconst 0, 1)), (46, (.putfield 61, 3)), (49, (.aload_n 0, 1)), (50, (.getfield 54, 3)), (53, (.iconst 1, 1)), (54, (.isub, 1)), (55, (.ireturn, 1))]
set_option maxRecDepth 100000 in
theorem tbk_X5_thing : sv_tbok cX5_thing tb_X5_thing = true := by decide +kernel
def cal_X5_thing : List (Nat × (Nat × Nat × sv_P)) := [(50, (3, 90, sp_X5_within))]
def T_X5_thing : sv_T := (flX5, sfX5, kcX5, klX5, cal_X5_thing)
set_option maxRecDepth 100000 in
theorem Tok_X5_thing (l : Launch) : sv_Tok l RX5 sv_all 1 22 T_X5_thing := ⟨flokX5, sfokX5, kcokX5, klokX5, List.forall_mem_cons.mpr ⟨⟨fun h => absurd h (by decide), fun _ => sv_COs_gen (c_X5_within l) (Or.inl (sv_mem 623 (by decide +kernel) rfl)) kw_X5_within.1 kw_X5_within.2.1 kw_X5_within.2.2 kd_X5_within rfl (by decide) (by decide +kernel)⟩, fun _ h => absurd h List.not_mem_nil⟩⟩
theorem kw_X5_thing : Cond.instanceMethod yX5_thing ∈ sv_tb ∧ Cond.selects yX5_thing.cls yX5_thing yX5_thing ∈ sv_tb ∧ Cond.initialized yX5_thing.cls ∈ sv_tb ∧ Cond.code yX5_thing cX5_thing 2 (some .int) ∈ sv_tb := ⟨sv_mem 639 (by decide +kernel) rfl, sv_mem 640 (by decide +kernel) rfl, sv_mem 56 (by decide +kernel) rfl, sv_mem 641 (by decide +kernel) rfl⟩
theorem kd_X5_thing : yX5_thing.cls ≠ "java/lang/invoke/MethodHandle" ∧ yX5_thing.cls ≠ "java/lang/invoke/VarHandle" ∧ (parseMethodDescriptor yX5_thing.desc).map (fun d => d.parameters.length) = some 1 := by decide +kernel
def F_X5_thing_0 (Wk : sv_K) (Kr : Option sv_AV → sv_S → Prop) (size : Int32) (σ : sv_S) : Prop := ((((1 : Int32) ≤ size ∧ size ≤ (20 : Int32) → ((¬ (sv_gA σ 5 0 1) = (5 : Int32) → (vp_in (sv_gA σ 5 0 1) 5 ∧ Kr (some (.inl (((sv_gA σ 5 0 1) + (1 : Int32)) - (1 : Int32)))) (sv_sA (sv_sA (sv_sA σ 32 0 (sv_gA σ 5 0 1).toNatClampNeg size) 5 0 1 ((sv_gA σ 5 0 1) + (1 : Int32))) 5 0 11 (0 : Int32)))) ∧ ((sv_gA σ 5 0 1) = (5 : Int32) → Kr (some (.inl (-4 : Int32))) σ))) ∧ (¬ ((1 : Int32) ≤ size ∧ size ≤ (20 : Int32)) → Kr (some (.inl (-2 : Int32))) σ)))
set_option maxRecDepth 100000 in
theorem bk_X5_thing_0 (Wk : sv_K) (Kr : Option sv_AV → sv_S → Prop) (size : Int32) (σ : sv_S) (h : F_X5_thing_0 Wk Kr size σ) : sv_vc tb_X5_thing T_X5_thing sv_all (some .int) Kr [] Wk 500 0 [some (.inr (.inr (5, 0))), some (.inl size)] [] σ := (match h with | ⟨z2a, z2b⟩ => ⟨fun z2y => sb_nt (by decide) (⟨fun z1 => ⟨((((z2a z2y)).1 z1)).1, ⟨⟨rfl, rfl⟩, (((((z2a z2y)).1 z1)).2)⟩⟩, fun z1 => (((z2a z2y)).2 z1)⟩), fun z2y => sb_nf (by decide) ((z2b z2y))⟩)
set_option maxRecDepth 100000 in
theorem m_X5_thing (l : Launch) (hb : ∀ (Wk : sv_K) (Kr : Option sv_AV → sv_S → Prop), (∀ (size : Int32) (σ : sv_S), F_X5_thing_0 Wk Kr size σ → Wk 0 [some (.inr (.inr (5, 0))), some (.inl size)] [] σ) → (∀ (size : Int32) (σ : sv_S), (∃ d : dD, (RM d σ ∧ MI d σ) ∧ (∀ v : Int32, ∀ σ2 : sv_S, v = A_thing d size ∧ (RM (U_thing d size) σ2 ∧ MI (U_thing d size) σ2) ∧ sq mg σ σ2 → Kr (some (.inl v)) σ2)) → Wk 0 [some (.inr (.inr (5, 0))), some (.inl size)] [] σ)) : sv_C l yX5_thing cX5_thing 2 (some .int) sv_all 1 22 sp_X5_thing := by
  refine sv_meth sv_clok_all tb_X5_thing T_X5_thing (by decide) tbk_X5_thing (Tok_X5_thing l) ?_
  intro Wk Kr hc av σ hsp
  have hB := hb Wk Kr (fun size σ h => hc [] 500 0 _ _ _ (bk_X5_thing_0 Wk Kr size σ h))
  unfold sp_X5_thing at hsp
  split at hsp
  · exact ⟨⟨by simp, by simp [sv_cat]⟩, hB _ _ hsp⟩
  · exact hsp.elim
set_option maxHeartbeats 4000000 in
set_option maxRecDepth 100000 in
theorem c_X5_thing (l : Launch) : sv_C l yX5_thing cX5_thing 2 (some .int) sv_all 1 22 sp_X5_thing := by
  refine m_X5_thing l ?_
  intro Wk Kr e0 z σ ⟨d, ⟨hC, hI⟩, h⟩
  have hT := hC.1.2.1
  apply e0
  unfold F_X5_thing_0
  rw [hC.2.2.2.1]
  refine ⟨fun hz => ?_, fun hz => h _ _ ⟨(ch_f hz _ _).symm, ?_, sq_rf _ _⟩⟩
  · have g := hz
    obtain ⟨n, hn1, hn2, rfl⟩ := lit_in (a := 1) (b := 20) (by omega) hz (by omega)
    refine ⟨fun y => ?_, fun y => ?_⟩
    · have hT5 : dT d < 5 := by
        rcases Nat.lt_or_ge (dT d) 5 with x | x
        · exact x
        · exact absurd (show nI (dT d) = 5 by rw [show dT d = 5 by omega]; rfl) y
      rw [nI_1, nI_clamp (by omega)]
      refine ⟨pk_in (dT d) 5 hT5, h _ _ ⟨?_, ?_, sq_tr (sq_tr (sq_sA _ _ _ _ (by decide)) (sq_sA _ _ _ _ (by decide))) (sq_sA _ _ _ _ (by decide))⟩⟩
      · unfold A_thing
        rw [ch_t g, ch_f (by omega)]
        exact nI_pred _
      · unfold U_thing
        rw [ch_t ⟨g, hT5⟩, xn_nI (by omega)]
        exact ⟨RM_thing hC hT5 ⟨hn1, hn2⟩, Or.inl (gA_same _ _ _ _ _)⟩
    · have hT5 : dT d = 5 := (nI_eq (by omega) (by omega)).mp (show nI (dT d) = nI 5 from y)
      refine h _ _ ⟨?_, ?_, sq_rf _ _⟩
      · unfold A_thing
        rw [ch_t g, ch_t hT5]
      · unfold U_thing
        rw [ch_f (fun y => by omega)]
        exact ⟨hC, hI⟩
  · unfold U_thing
    rw [ch_f (fun y => hz y.1)]
    exact ⟨hC, hI⟩
-- ==== X5_uses
def sp_X5_uses : sv_P := fun av σ K => match av with
  | [.inr (.inr (5, 0)), .inl t, .inl p, .inl reads, .inl writes] => ∃ d : dD, (RM d σ ∧ MI d σ) ∧ (∀ v : Int32, ∀ σ2 : sv_S, v = A_uses d t p reads writes ∧ (RM (U_uses d t p reads writes) σ2 ∧ MI (U_uses d t p reads writes) σ2) ∧ sq mg σ σ2 → K (some (.inl v)) σ2)
  | _ => False
def tb_X5_uses : List (Nat × (Instr × Nat)) := [(0, (.aload_n 0, 1)), (1, (.iload_n 1, 1)), (2, (.invokevirtual 69, 3)), (5, (.ifCond .eq 11, 3)), (8, (.aload_n 0, 1)), (9, (.iload_n 2, 1)), (10, (.invokevirtual 65, 3)), (13, (.ifCond .ne 5, 3)), (16, (.iconst (-1), 1)), (17, (.ireturn, 1)), (18, (.iload_n 3, 1)), (19, (.iconst 0, 1)), (20, (.bipush 9, 2)), (22, (.invokestatic 50, 3)), (25, (.ifCond .eq 14, 3)), (28, (.iload 4, 2)), (30, (.iconst 0, 1)), (31, (.bipush 9, 2)), (33, (.invokestatic 50, 3)), (36, (.ifCond .ne 6, 3)), (39, (.bipush (-2), 2)), (41, (.ireturn, 1)), (42, (.bipush 10, 2)), (44, (.iload_n 1, 1)), (45, (.imul, 1)), (46, (.iload_n 2, 1)), (47, (.iadd, 1)), (48, (.istore 5, 2)), (50, (.aload_n 0, 1)), (51, (.getfield 16, 3)), (54, (.iload 5, 2)), (56, (.iaload, 1)), (57, (.aload_n 0, 1)), (58, (.getfield 19, 3)), (61, (.iload 5, 2)), (63, (.iaload, 1)), (64, (.iadd, 1)), (65, (.istore 6, 2)), (67, (.aload_n 0, 1)), (68, (.getfield 16, 3)), (71, (.iload 5, 2)), (73, (.iload_n 3, 1)), (74, (.iastore, 1)), (75, (.aload_n 0, 1)), (76, (.getfield 19, 3)), (79, (.iload 5, 2)), (81, (.iload 4, 2)), (83, (.iastore, 1)), (84, (.aload_n 0, 1)), (85, (.iconst 0, 1)), (86, (.putfield 61, 3)), (89, (.iload 6, 2)), (91, (.ireturn, 1))]
set_option maxRecDepth 100000 in
theorem tbk_X5_uses : sv_tbok cX5_uses tb_X5_uses = true := by decide +kernel
def cal_X5_uses : List (Nat × (Nat × Nat × sv_P)) := [(69, (2, 5, sp_X5_isThing)), (65, (2, 5, sp_X5_isPart)), (50, (3, 90, sp_X5_within))]
def T_X5_uses : sv_T := (flX5, sfX5, kcX5, klX5, cal_X5_uses)
set_option maxRecDepth 100000 in
theorem Tok_X5_uses (l : Launch) : sv_Tok l RX5 sv_all 2 43 T_X5_uses := ⟨flokX5, sfokX5, kcokX5, klokX5, List.forall_mem_cons.mpr ⟨⟨fun _ => sv_COv_of (c_X5_isThing l) sv_clok_all (sv_mem 646 (by decide +kernel) rfl) kw_X5_isThing.1 kw_X5_isThing.2.1 kw_X5_isThing.2.2.1 kw_X5_isThing.2.2.2 kd_X5_isThing rfl (by decide) (by decide +kernel) rfl (by decide), fun h => absurd h (by decide)⟩, List.forall_mem_cons.mpr ⟨⟨fun _ => sv_COv_of (c_X5_isPart l) sv_clok_all (sv_mem 630 (by decide +kernel) rfl) kw_X5_isPart.1 kw_X5_isPart.2.1 kw_X5_isPart.2.2.1 kw_X5_isPart.2.2.2 kd_X5_isPart rfl (by decide) (by decide +kernel) rfl (by decide), fun h => absurd h (by decide)⟩, List.forall_mem_cons.mpr ⟨⟨fun h => absurd h (by decide), fun _ => sv_COs_gen (c_X5_within l) (Or.inl (sv_mem 623 (by decide +kernel) rfl)) kw_X5_within.1 kw_X5_within.2.1 kw_X5_within.2.2 kd_X5_within rfl (by decide) (by decide +kernel)⟩, fun _ h => absurd h List.not_mem_nil⟩⟩⟩⟩
theorem kw_X5_uses : Cond.instanceMethod yX5_uses ∈ sv_tb ∧ Cond.selects yX5_uses.cls yX5_uses yX5_uses ∈ sv_tb ∧ Cond.initialized yX5_uses.cls ∈ sv_tb ∧ Cond.code yX5_uses cX5_uses 7 (some .int) ∈ sv_tb := ⟨sv_mem 643 (by decide +kernel) rfl, sv_mem 644 (by decide +kernel) rfl, sv_mem 56 (by decide +kernel) rfl, sv_mem 645 (by decide +kernel) rfl⟩
theorem kd_X5_uses : yX5_uses.cls ≠ "java/lang/invoke/MethodHandle" ∧ yX5_uses.cls ≠ "java/lang/invoke/VarHandle" ∧ (parseMethodDescriptor yX5_uses.desc).map (fun d => d.parameters.length) = some 4 := by decide +kernel
def F_X5_uses_0 (Wk : sv_K) (Kr : Option sv_AV → sv_S → Prop) (t : Int32) (p : Int32) (reads : Int32) (writes : Int32) (σ : sv_S) : Prop := (∃ d1 : dD, (RM d1 σ) ∧ ((isN (dT d1) t → (∃ d2 : dD, (RM d2 σ) ∧ ((isN (dP d2) p → ((((0 : Int32) ≤ reads ∧ reads ≤ (9 : Int32) → ((((0 : Int32) ≤ writes ∧ writes ≤ (9 : Int32) → (vp_in (((10 : Int32) * t) + p) 50 ∧ (vp_in (((10 : Int32) * t) + p) 50 ∧ (vp_in (((10 : Int32) * t) + p) 50 ∧ (vp_in (((10 : Int32) * t) + p) 50 ∧ Kr (some (.inl ((sv_gA σ 33 0 (((10 : Int32) * t) + p).toNatClampNeg) + (sv_gA σ 34 0 (((10 : Int32) * t) + p).toNatClampNeg)))) (sv_sA (sv_sA (sv_sA σ 33 0 (((10 : Int32) * t) + p).toNatClampNeg reads) 34 0 (((10 : Int32) * t) + p).toNatClampNeg writes) 5 0 11 (0 : Int32))))))) ∧ (¬ ((0 : Int32) ≤ writes ∧ writes ≤ (9 : Int32)) → Kr (some (.inl (-2 : Int32))) σ)))) ∧ (¬ ((0 : Int32) ≤ reads ∧ reads ≤ (9 : Int32)) → Kr (some (.inl (-2 : Int32))) σ)))) ∧ (¬ isN (dP d2) p → Kr (some (.inl (-1 : Int32))) σ)))) ∧ (¬ isN (dT d1) t → Kr (some (.inl (-1 : Int32))) σ)))
set_option maxRecDepth 100000 in
theorem bk_X5_uses_0 (Wk : sv_K) (Kr : Option sv_AV → sv_S → Prop) (t : Int32) (p : Int32) (reads : Int32) (writes : Int32) (σ : sv_S) (h : F_X5_uses_0 Wk Kr t p reads writes σ) : sv_vc tb_X5_uses T_X5_uses sv_all (some .int) Kr [] Wk 500 0 [some (.inr (.inr (5, 0))), some (.inl t), some (.inl p), some (.inl reads), some (.inl writes), none, none] [] σ := (match h with | ⟨d1, z6p, z6a, z6b⟩ => ⟨d1, z6p, fun z6y => br_f (by decide) ((match (z6a z6y) with | ⟨d2, z5p, z5a, z5b⟩ => ⟨d2, z5p, fun z5y => sb_nt (by decide) ((match (z5a z5y) with | ⟨z4a, z4b⟩ => ⟨fun z4y => br_f (by decide) ((match (z4a z4y) with | ⟨z3a, z3b⟩ => ⟨fun z3y => sb_nt (by decide) (⟨((z3a z3y)).1, ⟨((((z3a z3y)).2)).1, ⟨((((((z3a z3y)).2)).2)).1, ⟨((((((((z3a z3y)).2)).2)).2)).1, ⟨⟨rfl, rfl⟩, (((((((((z3a z3y)).2)).2)).2)).2)⟩⟩⟩⟩⟩), fun z3y => sb_nf (by decide) ((z3b z3y))⟩)), fun z4y => br_t (by decide) ((z4b z4y))⟩)), fun z5y => sb_nf (by decide) ((z5b z5y))⟩)), fun z6y => br_t (by decide) ((z6b z6y))⟩)
set_option maxRecDepth 100000 in
theorem m_X5_uses (l : Launch) (hb : ∀ (Wk : sv_K) (Kr : Option sv_AV → sv_S → Prop), (∀ (t : Int32) (p : Int32) (reads : Int32) (writes : Int32) (σ : sv_S), F_X5_uses_0 Wk Kr t p reads writes σ → Wk 0 [some (.inr (.inr (5, 0))), some (.inl t), some (.inl p), some (.inl reads), some (.inl writes), none, none] [] σ) → (∀ (t : Int32) (p : Int32) (reads : Int32) (writes : Int32) (σ : sv_S), (∃ d : dD, (RM d σ ∧ MI d σ) ∧ (∀ v : Int32, ∀ σ2 : sv_S, v = A_uses d t p reads writes ∧ (RM (U_uses d t p reads writes) σ2 ∧ MI (U_uses d t p reads writes) σ2) ∧ sq mg σ σ2 → Kr (some (.inl v)) σ2)) → Wk 0 [some (.inr (.inr (5, 0))), some (.inl t), some (.inl p), some (.inl reads), some (.inl writes), none, none] [] σ)) : sv_C l yX5_uses cX5_uses 7 (some .int) sv_all 2 43 sp_X5_uses := by
  refine sv_meth sv_clok_all tb_X5_uses T_X5_uses (by decide) tbk_X5_uses (Tok_X5_uses l) ?_
  intro Wk Kr hc av σ hsp
  have hB := hb Wk Kr (fun t p reads writes σ h => hc [] 500 0 _ _ _ (bk_X5_uses_0 Wk Kr t p reads writes σ h))
  unfold sp_X5_uses at hsp
  split at hsp
  · exact ⟨⟨by simp, by simp [sv_cat]⟩, hB _ _ _ _ _ hsp⟩
  · exact hsp.elim
set_option maxHeartbeats 4000000 in
set_option maxRecDepth 100000 in
theorem c_X5_uses (l : Launch) : sv_C l yX5_uses cX5_uses 7 (some .int) sv_all 2 43 sp_X5_uses := by
  refine m_X5_uses l ?_
  intro Wk Kr e0 t p r w σ ⟨d, ⟨hC, hI⟩, h⟩
  have hP := hC.1.1
  have hT := hC.1.2.1
  have no : ¬ (isN (dT d) t ∧ isN (dP d) p) → Kr (some (.inl (-1 : Int32))) σ := fun z => h _ _ ⟨(ch_f z _ _).symm, by unfold U_uses; rw [ch_f (fun y => z y.1)]; exact ⟨hC, hI⟩, sq_rf _ _⟩
  have no2 : (isN (dT d) t ∧ isN (dP d) p) → ¬ okU r w → Kr (some (.inl (-2 : Int32))) σ := fun g z => h _ _ ⟨by unfold A_uses; rw [ch_t g, ch_f z], by unfold U_uses; rw [ch_f (fun y => z y.2)]; exact ⟨hC, hI⟩, sq_rf _ _⟩
  apply e0
  refine ⟨d, hC, fun h1 => ⟨d, hC, fun h2 => ⟨fun h3 => ⟨fun h4 => ?_, fun h4 => no2 ⟨h1, h2⟩ (fun y => h4 y.2)⟩, fun h3 => no2 ⟨h1, h2⟩ (fun y => h3 y.1)⟩, fun h2 => no (fun y => h2 y.2)⟩, fun h1 => no (fun y => h1 y.1)⟩
  have g1 : isN (dT d) t ∧ isN (dP d) p := ⟨h1, h2⟩
  have g2 : okU r w := ⟨h3, h4⟩
  obtain ⟨k, hk, rfl⟩ := h1
  obtain ⟨q, hq, rfl⟩ := h2
  obtain ⟨a, -, ha, rfl⟩ := lit_in (a := 0) (b := 9) (by omega) h3 (by omega)
  obtain ⟨b, -, hb, rfl⟩ := lit_in (a := 0) (b := 9) (by omega) h4 (by omega)
  rw [ix10, nI_clamp (by omega), hC.2.2.2.2.2.2.1 k q (by omega) hq, hC.2.2.2.2.2.2.2.1 k q (by omega) hq, nI_add]
  have hin := pk_in (x := nI (10 * k + q)) (10 * k + q) 50 (by omega)
  refine ⟨hin, hin, hin, hin, h _ _ ⟨?_, ?_, sq_tr (sq_tr (sq_sA _ _ _ _ (by decide)) (sq_sA _ _ _ _ (by decide))) (sq_sA _ _ _ _ (by decide))⟩⟩
  · unfold A_uses
    rw [ch_t g1, ch_t g2, xn_nI (by omega), xn_nI (by omega)]
  · unfold U_uses
    rw [ch_t ⟨g1, g2⟩, xn_nI (by omega), xn_nI (by omega), xn_nI (by omega), xn_nI (by omega)]
    exact ⟨RM_uses hC hk hq ⟨ha, hb⟩, Or.inl (gA_same _ _ _ _ _)⟩
-- ==== X5_size
def sp_X5_size : sv_P := fun av σ K => match av with
  | [.inr (.inr (5, 0)), .inl t, .inl nv] => ∃ d : dD, (RM d σ ∧ MI d σ) ∧ (∀ v : Int32, ∀ σ2 : sv_S, v = A_size d t nv ∧ (RM (U_size d t nv) σ2 ∧ MI (U_size d t nv) σ2) ∧ sq mg σ σ2 → K (some (.inl v)) σ2)
  | _ => False
def tb_X5_size : List (Nat × (Instr × Nat)) := [(0, (.aload_n 0, 1)), (1, (.iload_n 1, 1)), (2, (.invokevirtual 69, 3)), (5, (.ifCond .ne 5, 3)), (8, (.iconst (-1), 1)), (9, (.ireturn, 1)), (10, (.iload_n 2, 1)), (11, (.iconst 1, 1)), (12, (.bipush 20, 2)), (14, (.invokestatic 50, 3)), (17, (.ifCond .ne 6, 3)), (20, (.bipush (-2), 2)), (22, (.ireturn, 1)), (23, (.aload_n 0, 1)), (24, (.getfield 13, 3)), (27, (.iload_n 1, 1)), (28, (.iaload, 1)), (29, (.istore_n 3, 1)), (30, (.aload_n 0, 1)), (31, (.getfield 13, 3)), (34, (.iload_n 1, 1)), (35, (.iload_n 2, 1)), (36, (.iastore, 1)), (37, (.aload_n 0, 1)), (38, (.iconst 0, 1)), (39, (.putfield 61, 3)), (42, (.iload_n 3, 1)), (43, (.ireturn, 1))]
set_option maxRecDepth 100000 in
theorem tbk_X5_size : sv_tbok cX5_size tb_X5_size = true := by decide +kernel
def cal_X5_size : List (Nat × (Nat × Nat × sv_P)) := [(69, (2, 5, sp_X5_isThing)), (50, (3, 90, sp_X5_within))]
def T_X5_size : sv_T := (flX5, sfX5, kcX5, klX5, cal_X5_size)
set_option maxRecDepth 100000 in
theorem Tok_X5_size (l : Launch) : sv_Tok l RX5 sv_all 2 43 T_X5_size := ⟨flokX5, sfokX5, kcokX5, klokX5, List.forall_mem_cons.mpr ⟨⟨fun _ => sv_COv_of (c_X5_isThing l) sv_clok_all (sv_mem 646 (by decide +kernel) rfl) kw_X5_isThing.1 kw_X5_isThing.2.1 kw_X5_isThing.2.2.1 kw_X5_isThing.2.2.2 kd_X5_isThing rfl (by decide) (by decide +kernel) rfl (by decide), fun h => absurd h (by decide)⟩, List.forall_mem_cons.mpr ⟨⟨fun h => absurd h (by decide), fun _ => sv_COs_gen (c_X5_within l) (Or.inl (sv_mem 623 (by decide +kernel) rfl)) kw_X5_within.1 kw_X5_within.2.1 kw_X5_within.2.2 kd_X5_within rfl (by decide) (by decide +kernel)⟩, fun _ h => absurd h List.not_mem_nil⟩⟩⟩
theorem kw_X5_size : Cond.instanceMethod yX5_size ∈ sv_tb ∧ Cond.selects yX5_size.cls yX5_size yX5_size ∈ sv_tb ∧ Cond.initialized yX5_size.cls ∈ sv_tb ∧ Cond.code yX5_size cX5_size 4 (some .int) ∈ sv_tb := ⟨sv_mem 651 (by decide +kernel) rfl, sv_mem 652 (by decide +kernel) rfl, sv_mem 56 (by decide +kernel) rfl, sv_mem 653 (by decide +kernel) rfl⟩
theorem kd_X5_size : yX5_size.cls ≠ "java/lang/invoke/MethodHandle" ∧ yX5_size.cls ≠ "java/lang/invoke/VarHandle" ∧ (parseMethodDescriptor yX5_size.desc).map (fun d => d.parameters.length) = some 2 := by decide +kernel
def F_X5_size_0 (Wk : sv_K) (Kr : Option sv_AV → sv_S → Prop) (t : Int32) (nv : Int32) (σ : sv_S) : Prop := (∃ d1 : dD, (RM d1 σ) ∧ ((isN (dT d1) t → ((((1 : Int32) ≤ nv ∧ nv ≤ (20 : Int32) → (vp_in t 5 ∧ (vp_in t 5 ∧ Kr (some (.inl (sv_gA σ 32 0 t.toNatClampNeg))) (sv_sA (sv_sA σ 32 0 t.toNatClampNeg nv) 5 0 11 (0 : Int32))))) ∧ (¬ ((1 : Int32) ≤ nv ∧ nv ≤ (20 : Int32)) → Kr (some (.inl (-2 : Int32))) σ)))) ∧ (¬ isN (dT d1) t → Kr (some (.inl (-1 : Int32))) σ)))
set_option maxRecDepth 100000 in
theorem bk_X5_size_0 (Wk : sv_K) (Kr : Option sv_AV → sv_S → Prop) (t : Int32) (nv : Int32) (σ : sv_S) (h : F_X5_size_0 Wk Kr t nv σ) : sv_vc tb_X5_size T_X5_size sv_all (some .int) Kr [] Wk 500 0 [some (.inr (.inr (5, 0))), some (.inl t), some (.inl nv), none] [] σ := (match h with | ⟨d1, z3p, z3a, z3b⟩ => ⟨d1, z3p, fun z3y => sb_nt (by decide) ((match (z3a z3y) with | ⟨z2a, z2b⟩ => ⟨fun z2y => sb_nt (by decide) (⟨((z2a z2y)).1, ⟨((((z2a z2y)).2)).1, ⟨⟨rfl, rfl⟩, (((((z2a z2y)).2)).2)⟩⟩⟩), fun z2y => sb_nf (by decide) ((z2b z2y))⟩)), fun z3y => sb_nf (by decide) ((z3b z3y))⟩)
set_option maxRecDepth 100000 in
theorem m_X5_size (l : Launch) (hb : ∀ (Wk : sv_K) (Kr : Option sv_AV → sv_S → Prop), (∀ (t : Int32) (nv : Int32) (σ : sv_S), F_X5_size_0 Wk Kr t nv σ → Wk 0 [some (.inr (.inr (5, 0))), some (.inl t), some (.inl nv), none] [] σ) → (∀ (t : Int32) (nv : Int32) (σ : sv_S), (∃ d : dD, (RM d σ ∧ MI d σ) ∧ (∀ v : Int32, ∀ σ2 : sv_S, v = A_size d t nv ∧ (RM (U_size d t nv) σ2 ∧ MI (U_size d t nv) σ2) ∧ sq mg σ σ2 → Kr (some (.inl v)) σ2)) → Wk 0 [some (.inr (.inr (5, 0))), some (.inl t), some (.inl nv), none] [] σ)) : sv_C l yX5_size cX5_size 4 (some .int) sv_all 2 43 sp_X5_size := by
  refine sv_meth sv_clok_all tb_X5_size T_X5_size (by decide) tbk_X5_size (Tok_X5_size l) ?_
  intro Wk Kr hc av σ hsp
  have hB := hb Wk Kr (fun t nv σ h => hc [] 500 0 _ _ _ (bk_X5_size_0 Wk Kr t nv σ h))
  unfold sp_X5_size at hsp
  split at hsp
  · exact ⟨⟨by simp, by simp [sv_cat]⟩, hB _ _ _ hsp⟩
  · exact hsp.elim
set_option maxHeartbeats 4000000 in
set_option maxRecDepth 100000 in
theorem c_X5_size (l : Launch) : sv_C l yX5_size cX5_size 4 (some .int) sv_all 2 43 sp_X5_size := by
  refine m_X5_size l ?_
  intro Wk Kr e0 t z σ ⟨d, ⟨hC, hI⟩, h⟩
  have hT := hC.1.2.1
  apply e0
  refine ⟨d, hC, fun h1 => ⟨fun h2 => ?_, fun h2 => h _ _ ⟨?_, ?_, sq_rf _ _⟩⟩, fun h1 => h _ _ ⟨(ch_f h1 _ _).symm, ?_, sq_rf _ _⟩⟩
  · have g1 := h1
    have g2 := h2
    obtain ⟨k, hk, rfl⟩ := h1
    obtain ⟨a, ha1, ha2, rfl⟩ := lit_in (a := 1) (b := 20) (by omega) h2 (by omega)
    have hin := pk_in (x := nI k) k 5 (by omega)
    rw [nI_clamp (by omega), hC.2.2.2.2.2.1 k hk]
    refine ⟨hin, hin, h _ _ ⟨?_, ?_, sq_tr (sq_sA _ _ _ _ (by decide)) (sq_sA _ _ _ _ (by decide))⟩⟩
    · unfold A_size
      rw [ch_t g1, ch_t g2, xn_nI (by omega)]
    · unfold U_size
      rw [ch_t ⟨g1, g2⟩, xn_nI (by omega), xn_nI (by omega)]
      exact ⟨RM_size hC hk ⟨ha1, ha2⟩, Or.inl (gA_same _ _ _ _ _)⟩
  · unfold A_size
    rw [ch_t h1, ch_f h2]
  · unfold U_size
    rw [ch_f (fun y => h2 y.2)]
    exact ⟨hC, hI⟩
  · unfold U_size
    rw [ch_f (fun y => h1 y.1)]
    exact ⟨hC, hI⟩
-- ==== X5_setting
def sp_X5_setting : sv_P := fun av σ K => match av with
  | [.inr (.inr (5, 0)), .inl k, .inl nv] => ∃ d : dD, (RM d σ ∧ MI d σ) ∧ (∀ v : Int32, ∀ σ2 : sv_S, v = A_setting d k nv ∧ (RM (U_setting d k nv) σ2 ∧ MI (U_setting d k nv) σ2) ∧ sq mg σ σ2 → K (some (.inl v)) σ2)
  | _ => False
def tb_X5_setting : List (Nat × (Instr × Nat)) := [(0, (.aload_n 0, 1)), (1, (.iload_n 1, 1)), (2, (.iload_n 2, 1)), (3, (.invokevirtual 72, 3)), (6, (.ifCond .ne 6, 3)), (9, (.bipush (-2), 2)), (11, (.ireturn, 1)), (12, (.aload_n 0, 1)), (13, (.getfield 22, 3)), (16, (.iload_n 1, 1)), (17, (.iaload, 1)), (18, (.istore_n 3, 1)), (19, (.aload_n 0, 1)), (20, (.getfield 22, 3)), (23, (.iload_n 1, 1)), (24, (.iload_n 2, 1)), (25, (.iastore, 1)), (26, (.aload_n 0, 1)), (27, (.iconst 0, 1)), (28, (.putfield 61, 3)), (31, (.iload_n 3, 1)), (32, (.ireturn, 1))]
set_option maxRecDepth 100000 in
theorem tbk_X5_setting : sv_tbok cX5_setting tb_X5_setting = true := by decide +kernel
def cal_X5_setting : List (Nat × (Nat × Nat × sv_P)) := [(72, (3, 5, sp_X5_maySet))]
def T_X5_setting : sv_T := (flX5, sfX5, kcX5, klX5, cal_X5_setting)
set_option maxRecDepth 100000 in
theorem Tok_X5_setting (l : Launch) : sv_Tok l RX5 sv_all 2 44 T_X5_setting := ⟨flokX5, sfokX5, kcokX5, klokX5, List.forall_mem_cons.mpr ⟨⟨fun _ => sv_COv_of (c_X5_maySet l) sv_clok_all (sv_mem 658 (by decide +kernel) rfl) kw_X5_maySet.1 kw_X5_maySet.2.1 kw_X5_maySet.2.2.1 kw_X5_maySet.2.2.2 kd_X5_maySet rfl (by decide) (by decide +kernel) rfl (by decide), fun h => absurd h (by decide)⟩, fun _ h => absurd h List.not_mem_nil⟩⟩
theorem kw_X5_setting : Cond.instanceMethod yX5_setting ∈ sv_tb ∧ Cond.selects yX5_setting.cls yX5_setting yX5_setting ∈ sv_tb ∧ Cond.initialized yX5_setting.cls ∈ sv_tb ∧ Cond.code yX5_setting cX5_setting 4 (some .int) ∈ sv_tb := ⟨sv_mem 655 (by decide +kernel) rfl, sv_mem 656 (by decide +kernel) rfl, sv_mem 56 (by decide +kernel) rfl, sv_mem 657 (by decide +kernel) rfl⟩
theorem kd_X5_setting : yX5_setting.cls ≠ "java/lang/invoke/MethodHandle" ∧ yX5_setting.cls ≠ "java/lang/invoke/VarHandle" ∧ (parseMethodDescriptor yX5_setting.desc).map (fun d => d.parameters.length) = some 2 := by decide +kernel
def F_X5_setting_0 (Wk : sv_K) (Kr : Option sv_AV → sv_S → Prop) (k : Int32) (nv : Int32) (σ : sv_S) : Prop := (∃ d1 : dD, (RM d1 σ) ∧ ((okS d1 k nv → (vp_in k 4 ∧ (vp_in k 4 ∧ Kr (some (.inl (sv_gA σ 35 0 k.toNatClampNeg))) (sv_sA (sv_sA σ 35 0 k.toNatClampNeg nv) 5 0 11 (0 : Int32))))) ∧ (¬ okS d1 k nv → Kr (some (.inl (-2 : Int32))) σ)))
set_option maxRecDepth 100000 in
theorem bk_X5_setting_0 (Wk : sv_K) (Kr : Option sv_AV → sv_S → Prop) (k : Int32) (nv : Int32) (σ : sv_S) (h : F_X5_setting_0 Wk Kr k nv σ) : sv_vc tb_X5_setting T_X5_setting sv_all (some .int) Kr [] Wk 500 0 [some (.inr (.inr (5, 0))), some (.inl k), some (.inl nv), none] [] σ := (match h with | ⟨d1, z2p, z2a, z2b⟩ => ⟨d1, z2p, fun z2y => sb_nt (by decide) (⟨((z2a z2y)).1, ⟨((((z2a z2y)).2)).1, ⟨⟨rfl, rfl⟩, (((((z2a z2y)).2)).2)⟩⟩⟩), fun z2y => sb_nf (by decide) ((z2b z2y))⟩)
set_option maxRecDepth 100000 in
theorem m_X5_setting (l : Launch) (hb : ∀ (Wk : sv_K) (Kr : Option sv_AV → sv_S → Prop), (∀ (k : Int32) (nv : Int32) (σ : sv_S), F_X5_setting_0 Wk Kr k nv σ → Wk 0 [some (.inr (.inr (5, 0))), some (.inl k), some (.inl nv), none] [] σ) → (∀ (k : Int32) (nv : Int32) (σ : sv_S), (∃ d : dD, (RM d σ ∧ MI d σ) ∧ (∀ v : Int32, ∀ σ2 : sv_S, v = A_setting d k nv ∧ (RM (U_setting d k nv) σ2 ∧ MI (U_setting d k nv) σ2) ∧ sq mg σ σ2 → Kr (some (.inl v)) σ2)) → Wk 0 [some (.inr (.inr (5, 0))), some (.inl k), some (.inl nv), none] [] σ)) : sv_C l yX5_setting cX5_setting 4 (some .int) sv_all 2 44 sp_X5_setting := by
  refine sv_meth sv_clok_all tb_X5_setting T_X5_setting (by decide) tbk_X5_setting (Tok_X5_setting l) ?_
  intro Wk Kr hc av σ hsp
  have hB := hb Wk Kr (fun k nv σ h => hc [] 500 0 _ _ _ (bk_X5_setting_0 Wk Kr k nv σ h))
  unfold sp_X5_setting at hsp
  split at hsp
  · exact ⟨⟨by simp, by simp [sv_cat]⟩, hB _ _ _ hsp⟩
  · exact hsp.elim
set_option maxHeartbeats 4000000 in
set_option maxRecDepth 100000 in
theorem c_X5_setting (l : Launch) : sv_C l yX5_setting cX5_setting 4 (some .int) sv_all 2 44 sp_X5_setting := by
  refine m_X5_setting l ?_
  intro Wk Kr e0 k v σ ⟨d, ⟨hC, hI⟩, h⟩
  apply e0
  refine ⟨d, hC, fun ho => ?_, fun ho => h _ _ ⟨(ch_f ho _ _).symm, ?_, sq_rf _ _⟩⟩
  · have g1 := ho
    obtain ⟨a, b, hab, rfl, rfl⟩ := okS_of hC.1 ho
    have hlt := okN_lt hab hC.1
    have hin := pk_in (x := nI a) a 4 hlt.1
    rw [nI_clamp (by omega), hC.2.2.2.2.2.2.2.2.1 a hlt.1]
    refine ⟨hin, hin, h _ _ ⟨?_, ?_, sq_tr (sq_sA _ _ _ _ (by decide)) (sq_sA _ _ _ _ (by decide))⟩⟩
    · unfold A_setting
      rw [ch_t g1, xn_nI (by omega)]
    · unfold U_setting
      rw [ch_t g1, xn_nI (by omega), xn_nI (by omega)]
      exact ⟨RM_set hC hab, Or.inl (gA_same _ _ _ _ _)⟩
  · unfold U_setting
    rw [ch_f ho]
    exact ⟨hC, hI⟩
-- ==== X5_ofPart
def sp_X5_ofPart : sv_P := fun av σ K => match av with
  | [.inr (.inr (5, 0)), .inl p, .inl what] => ∃ d : dD, (RM d σ ∧ MI d σ) ∧ (∀ v : Int32, v = A_ofPart d p what → K (some (.inl v)) σ)
  | _ => False
def tb_X5_ofPart : List (Nat × (Instr × Nat)) := [(0, (.aload_n 0, 1)), (1, (.iload_n 1, 1)), (2, (.invokevirtual 65, 3)), (5, (.ifCond .ne 5, 3)), (8, (.iconst (-1), 1)), (9, (.ireturn, 1)), (10, (.iload_n 2, 1)), (11, (.iconst 0, 1)), (12, (.iconst 1, 1)), (13, (.invokestatic 50, 3)), (16, (.ifCond .eq 14, 3)), (19, (.aload_n 0, 1)), (20, (.getfield 7, 3)), (23, (.iconst 2, 1)), (24, (.iload_n 1, 1)), (25, (.imul, 1)), (26, (.iload_n 2, 1)), (27, (.iadd, 1)), (28, (.iaload, 1)), (29, (.ireturn, 1)), (30, (.iload_n 2, 1)), (31, (.bipush 20, 2)), (33, (.if_icmp .lt 29, 3)), (36, (.aload_n 0, 1)), (37, (.iload_n 2, 1)), (38, (.bipush 20, 2)), (40, (.isub, 1)), (41, (.invokevirtual 69, 3)), (44, (.ifCond .eq 18, 3)), (47, (.aload_n 0, 1)), (48, (.getfield 19, 3)), (51, (.bipush 10, 2)), (53, (.iload_n 2, 1)), (54, (.bipush 20, 2)), (56, (.isub, 1)), (57, (.imul, 1)), (58, (.iload_n 1, 1)), (59, (.iadd, 1)), (60, (.iaload, 1)), (61, (.ireturn, 1)), (62, (.iload_n 2, 1)), (63, (.bipush 10, 2)), (65, (.if_icmp .lt 31, 3)), (68, (.aload_n 0, 1)), (69, (.iload_n 2, 1)), (70, (.bipush 10, 2)), (72, (.isub, 1)), (73, (.invokevirtual 69, 3)), (76, (.ifCond .eq 20, 3)), (79, (.aload_n 0, 1)), (80, (.getfield 16, 3)), (83, (.bipush 10, 2)), (85, (.iload_n 2, 1)), (86, (.bipush 10, 2)), (88, (.isub, 1)), (89, (.imul, 1)), (90, (.iload_n 1, 1)), (91, (.iadd, 1)), (92, (.iaload, 1)), (93, (.goto 5, 3)), (96, (.bipush (-2), 2)), (98, (.ireturn, 1))]
set_option maxRecDepth 100000 in
theorem tbk_X5_ofPart : sv_tbok cX5_ofPart tb_X5_ofPart = true := by decide +kernel
def cal_X5_ofPart : List (Nat × (Nat × Nat × sv_P)) := [(65, (2, 5, sp_X5_isPart)), (50, (3, 90, sp_X5_within)), (69, (2, 5, sp_X5_isThing))]
def T_X5_ofPart : sv_T := (flX5, sfX5, kcX5, klX5, cal_X5_ofPart)
set_option maxRecDepth 100000 in
theorem Tok_X5_ofPart (l : Launch) : sv_Tok l RX5 sv_all 2 43 T_X5_ofPart := ⟨flokX5, sfokX5, kcokX5, klokX5, List.forall_mem_cons.mpr ⟨⟨fun _ => sv_COv_of (c_X5_isPart l) sv_clok_all (sv_mem 630 (by decide +kernel) rfl) kw_X5_isPart.1 kw_X5_isPart.2.1 kw_X5_isPart.2.2.1 kw_X5_isPart.2.2.2 kd_X5_isPart rfl (by decide) (by decide +kernel) rfl (by decide), fun h => absurd h (by decide)⟩, List.forall_mem_cons.mpr ⟨⟨fun h => absurd h (by decide), fun _ => sv_COs_gen (c_X5_within l) (Or.inl (sv_mem 623 (by decide +kernel) rfl)) kw_X5_within.1 kw_X5_within.2.1 kw_X5_within.2.2 kd_X5_within rfl (by decide) (by decide +kernel)⟩, List.forall_mem_cons.mpr ⟨⟨fun _ => sv_COv_of (c_X5_isThing l) sv_clok_all (sv_mem 646 (by decide +kernel) rfl) kw_X5_isThing.1 kw_X5_isThing.2.1 kw_X5_isThing.2.2.1 kw_X5_isThing.2.2.2 kd_X5_isThing rfl (by decide) (by decide +kernel) rfl (by decide), fun h => absurd h (by decide)⟩, fun _ h => absurd h List.not_mem_nil⟩⟩⟩⟩
theorem kw_X5_ofPart : Cond.instanceMethod yX5_ofPart ∈ sv_tb ∧ Cond.selects yX5_ofPart.cls yX5_ofPart yX5_ofPart ∈ sv_tb ∧ Cond.initialized yX5_ofPart.cls ∈ sv_tb ∧ Cond.code yX5_ofPart cX5_ofPart 3 (some .int) ∈ sv_tb := ⟨sv_mem 663 (by decide +kernel) rfl, sv_mem 664 (by decide +kernel) rfl, sv_mem 56 (by decide +kernel) rfl, sv_mem 665 (by decide +kernel) rfl⟩
theorem kd_X5_ofPart : yX5_ofPart.cls ≠ "java/lang/invoke/MethodHandle" ∧ yX5_ofPart.cls ≠ "java/lang/invoke/VarHandle" ∧ (parseMethodDescriptor yX5_ofPart.desc).map (fun d => d.parameters.length) = some 2 := by decide +kernel
def F_X5_ofPart_0 (Wk : sv_K) (Kr : Option sv_AV → sv_S → Prop) (p : Int32) (what : Int32) (σ : sv_S) : Prop := (∃ d1 : dD, (RM d1 σ) ∧ ((isN (dP d1) p → ((((0 : Int32) ≤ what ∧ what ≤ (1 : Int32) → (vp_in (((2 : Int32) * p) + what) 20 ∧ Kr (some (.inl (sv_gA σ 31 0 (((2 : Int32) * p) + what).toNatClampNeg))) σ)) ∧ (¬ ((0 : Int32) ≤ what ∧ what ≤ (1 : Int32)) → ((what < (20 : Int32) → ((what < (10 : Int32) → Kr (some (.inl (-2 : Int32))) σ) ∧ (¬ what < (10 : Int32) → (∃ d2 : dD, (RM d2 σ) ∧ ((isN (dT d2) (what - (10 : Int32)) → (vp_in (((10 : Int32) * (what - (10 : Int32))) + p) 50 ∧ Kr (some (.inl (sv_gA σ 33 0 (((10 : Int32) * (what - (10 : Int32))) + p).toNatClampNeg))) σ)) ∧ (¬ isN (dT d2) (what - (10 : Int32)) → Kr (some (.inl (-2 : Int32))) σ)))))) ∧ (¬ what < (20 : Int32) → (∃ d5 : dD, (RM d5 σ) ∧ ((isN (dT d5) (what - (20 : Int32)) → (vp_in (((10 : Int32) * (what - (20 : Int32))) + p) 50 ∧ Kr (some (.inl (sv_gA σ 34 0 (((10 : Int32) * (what - (20 : Int32))) + p).toNatClampNeg))) σ)) ∧ (¬ isN (dT d5) (what - (20 : Int32)) → ((what < (10 : Int32) → Kr (some (.inl (-2 : Int32))) σ) ∧ (¬ what < (10 : Int32) → (∃ d6 : dD, (RM d6 σ) ∧ ((isN (dT d6) (what - (10 : Int32)) → (vp_in (((10 : Int32) * (what - (10 : Int32))) + p) 50 ∧ Kr (some (.inl (sv_gA σ 33 0 (((10 : Int32) * (what - (10 : Int32))) + p).toNatClampNeg))) σ)) ∧ (¬ isN (dT d6) (what - (10 : Int32)) → Kr (some (.inl (-2 : Int32))) σ)))))))))))))) ∧ (¬ isN (dP d1) p → Kr (some (.inl (-1 : Int32))) σ)))
set_option maxRecDepth 100000 in
theorem bk_X5_ofPart_0 (Wk : sv_K) (Kr : Option sv_AV → sv_S → Prop) (p : Int32) (what : Int32) (σ : sv_S) (h : F_X5_ofPart_0 Wk Kr p what σ) : sv_vc tb_X5_ofPart T_X5_ofPart sv_all (some .int) Kr [] Wk 500 0 [some (.inr (.inr (5, 0))), some (.inl p), some (.inl what)] [] σ := (match h with | ⟨d1, z12p, z12a, z12b⟩ => ⟨d1, z12p, fun z12y => sb_nt (by decide) ((match (z12a z12y) with | ⟨z11a, z11b⟩ => ⟨fun z11y => br_f (by decide) ((z11a z11y)), fun z11y => br_t (by decide) (⟨fun z10 => ⟨fun z4 => (((((z11b z11y)).1 z10)).1 z4), fun z4 => (match (((((z11b z11y)).1 z10)).2 z4) with | ⟨d2, z3p, z3a, z3b⟩ => ⟨d2, z3p, fun z3y => br_f (by decide) ((z3a z3y)), fun z3y => br_t (by decide) ((z3b z3y))⟩)⟩, fun z10 => (match (((z11b z11y)).2 z10) with | ⟨d5, z9p, z9a, z9b⟩ => ⟨d5, z9p, fun z9y => br_f (by decide) ((z9a z9y)), fun z9y => br_t (by decide) (⟨fun z8 => (((z9b z9y)).1 z8), fun z8 => (match (((z9b z9y)).2 z8) with | ⟨d6, z7p, z7a, z7b⟩ => ⟨d6, z7p, fun z7y => br_f (by decide) ((z7a z7y)), fun z7y => br_t (by decide) ((z7b z7y))⟩)⟩)⟩)⟩)⟩)), fun z12y => sb_nf (by decide) ((z12b z12y))⟩)
set_option maxRecDepth 100000 in
theorem m_X5_ofPart (l : Launch) (hb : ∀ (Wk : sv_K) (Kr : Option sv_AV → sv_S → Prop), (∀ (p : Int32) (what : Int32) (σ : sv_S), F_X5_ofPart_0 Wk Kr p what σ → Wk 0 [some (.inr (.inr (5, 0))), some (.inl p), some (.inl what)] [] σ) → (∀ (p : Int32) (what : Int32) (σ : sv_S), (∃ d : dD, (RM d σ ∧ MI d σ) ∧ (∀ v : Int32, v = A_ofPart d p what → Kr (some (.inl v)) σ)) → Wk 0 [some (.inr (.inr (5, 0))), some (.inl p), some (.inl what)] [] σ)) : sv_C l yX5_ofPart cX5_ofPart 3 (some .int) sv_all 2 43 sp_X5_ofPart := by
  refine sv_meth sv_clok_all tb_X5_ofPart T_X5_ofPart (by decide) tbk_X5_ofPart (Tok_X5_ofPart l) ?_
  intro Wk Kr hc av σ hsp
  have hB := hb Wk Kr (fun p what σ h => hc [] 500 0 _ _ _ (bk_X5_ofPart_0 Wk Kr p what σ h))
  unfold sp_X5_ofPart at hsp
  split at hsp
  · exact ⟨⟨by simp, by simp [sv_cat]⟩, hB _ _ _ hsp⟩
  · exact hsp.elim
theorem inT_N {d : dD} (h : dT d ≤ 5) {f : Nat} (hf : f ≤ 20) (x : Int32) : inT d f x ↔ (¬ x < nI f ∧ isN (dT d) (x - nI f)) := by
  constructor
  · rintro ⟨t, ht, rfl⟩
    refine ⟨fun z => ?_, t, ht, by rw [pk_sub (by omega), Nat.add_sub_cancel_left]⟩
    have := (nI_ltI (by omega) (by omega)).mp z
    omega
  · rintro ⟨h1, t, ht, h2⟩
    refine ⟨t, ht, ?_⟩
    rw [← nI_add, ← h2, Int32.add_comm, Int32.sub_add_cancel]
set_option maxHeartbeats 4000000 in
set_option maxRecDepth 100000 in
theorem c_X5_ofPart (l : Launch) : sv_C l yX5_ofPart cX5_ofPart 3 (some .int) sv_all 2 43 sp_X5_ofPart := by
  refine m_X5_ofPart l ?_
  intro Wk Kr e0 p what σ ⟨d, ⟨hC, hI⟩, h⟩
  have hP := hC.1.1
  have hT := hC.1.2.1
  have h3 := hC.2.2.2.2.1
  have h5 := hC.2.2.2.2.2.2.1
  have h6 := hC.2.2.2.2.2.2.2.1
  apply e0
  refine ⟨d, hC, fun hp => ?_, fun hp => h _ (ch_f hp _ _).symm⟩
  have g1 := hp
  obtain ⟨q, hq, rfl⟩ := hp
  have i10 := inT_N (d := d) hT (f := 10) (by omega) what
  have i20 := inT_N (d := d) hT (f := 20) (by omega) what
  have tail : ¬ ((0 : Int32) ≤ what ∧ what ≤ 1) → ∀ v : Int32, v = ch (inT d 10 what) (nI (dr d (xn what - 10) q)) (ch (inT d 20 what) (nI (dw d (xn what - 20) q)) (-2)) → Kr (some (.inl v)) σ := by
    intro hw v hv
    refine h _ ?_
    rw [hv]
    clear hv
    unfold A_ofPart
    rw [ch_t g1, ch_f (c := what = 0) (fun y => hw (by rw [y]; decide)), ch_f (c := what = 1) (fun y => hw (by rw [y]; decide)), xn_nI (by omega)]
  have rd : isN (dT d) (what - nI 10) → inT d 10 what → vp_in ((10 : Int32) * (what - (10 : Int32)) + nI q) 50 ∧ sv_gA σ 33 0 ((10 : Int32) * (what - (10 : Int32)) + nI q).toNatClampNeg = nI (dr d (xn what - 10) q) := by
    rintro - ⟨t, ht, rfl⟩
    rw [show (nI (10 + t) - (10 : Int32)) = nI t by rw [show (10 : Int32) = nI 10 from rfl, pk_sub (by omega), Nat.add_sub_cancel_left], ix10, nI_clamp (by omega), xn_nI (by omega), Nat.add_sub_cancel_left]
    exact ⟨pk_in (10 * t + q) 50 (by omega), h5 t q (by omega) hq⟩
  have wr : isN (dT d) (what - nI 20) → inT d 20 what → vp_in ((10 : Int32) * (what - (20 : Int32)) + nI q) 50 ∧ sv_gA σ 34 0 ((10 : Int32) * (what - (20 : Int32)) + nI q).toNatClampNeg = nI (dw d (xn what - 20) q) := by
    rintro - ⟨t, ht, rfl⟩
    rw [show (nI (20 + t) - (20 : Int32)) = nI t by rw [show (20 : Int32) = nI 20 from rfl, pk_sub (by omega), Nat.add_sub_cancel_left], ix10, nI_clamp (by omega), xn_nI (by omega), Nat.add_sub_cancel_left]
    exact ⟨pk_in (10 * t + q) 50 (by omega), h6 t q (by omega) hq⟩
  have n12 : inT d 20 what → ¬ inT d 10 what := by
    rintro ⟨t, ht, rfl⟩ ⟨u, hu, e⟩
    have := (nI_eq (by omega) (by omega)).mp e
    omega
  refine ⟨fun hw => ?_, fun hw => ⟨fun z => ⟨fun y => tail hw _ ?_, fun y => ⟨d, hC, fun x => ?_, fun x => tail hw _ ?_⟩⟩, fun z => ⟨d, hC, fun y => ?_, fun y => ⟨fun x => tail hw _ ?_, fun x => ⟨d, hC, fun w => ?_, fun w => tail hw _ ?_⟩⟩⟩⟩⟩
  · obtain ⟨n, -, hn, rfl⟩ := lit_in (a := 0) (b := 1) (by omega) hw (by omega)
    rw [ix2a, nI_clamp (by omega)]
    refine ⟨pk_in (2 * q + n) 20 (by omega), h _ ?_⟩
    unfold A_ofPart
    rw [ch_t g1, h3 n q (by omega) hq, xn_nI (by omega)]
    rcases (show n = 0 ∨ n = 1 by omega) with rfl | rfl
    · rw [ch_t (c := nI 0 = 0) rfl]
    · rw [ch_f (c := nI 1 = 0) (by decide), ch_t (c := nI 1 = 1) rfl]
  · rw [ch_f (fun w => (i10.mp w).1 y), ch_f (fun w => (i20.mp w).1 z)]
  · have hi := i10.mpr ⟨y, x⟩
    have := rd x hi
    exact ⟨this.1, tail hw _ (by rw [ch_t hi]; exact this.2)⟩
  · rw [ch_f (fun w => x (i10.mp w).2), ch_f (fun w => (i20.mp w).1 z)]
  · have hi := i20.mpr ⟨z, y⟩
    have := wr y hi
    exact ⟨this.1, tail hw _ (by rw [ch_f (n12 hi), ch_t hi]; exact this.2)⟩
  · rw [ch_f (fun w => (i10.mp w).1 x), ch_f (fun w => y (i20.mp w).2)]
  · have hi := i10.mpr ⟨x, w⟩
    have := rd w hi
    exact ⟨this.1, tail hw _ (by rw [ch_t hi]; exact this.2)⟩
  · rw [ch_f (fun v => w (i10.mp v).2), ch_f (fun v => y (i20.mp v).2)]
-- ==== X5_plan
def sp_X5_plan : sv_P := fun av σ K => match av with
  | [.inr (.inr (5, 0)), .inl p, .inl set] => ∃ d : dD, (RM d σ ∧ MI d σ) ∧ (∀ v : Int32, ∀ σ2 : sv_S, v = A_plan d p set ∧ (RM (U_plan d p set) σ2 ∧ MI (U_plan d p set) σ2) ∧ sq mg σ σ2 → K (some (.inl v)) σ2)
  | _ => False
def tb_X5_plan : List (Nat × (Instr × Nat)) := [(0, (.aload_n 0, 1)), (1, (.iload_n 1, 1)), (2, (.invokevirtual 65, 3)), (5, (.ifCond .ne 5, 3)), (8, (.iconst (-1), 1)), (9, (.ireturn, 1)), (10, (.aload_n 0, 1)), (11, (.iload_n 2, 1)), (12, (.invokevirtual 75, 3)), (15, (.ifCond .ne 6, 3)), (18, (.bipush (-2), 2)), (20, (.ireturn, 1)), (21, (.aload_n 0, 1)), (22, (.getfield 25, 3)), (25, (.iload_n 1, 1)), (26, (.iaload, 1)), (27, (.istore_n 3, 1)), (28, (.aload_n 0, 1)), (29, (.getfield 25, 3)), (32, (.iload_n 1, 1)), (33, (.iload_n 2, 1)), (34, (.iastore, 1)), (35, (.iload_n 3, 1)), (36, (.ireturn, 1))]
set_option maxRecDepth 100000 in
theorem tbk_X5_plan : sv_tbok cX5_plan tb_X5_plan = true := by decide +kernel
def cal_X5_plan : List (Nat × (Nat × Nat × sv_P)) := [(65, (2, 5, sp_X5_isPart)), (75, (2, 5, sp_X5_isSet))]
def T_X5_plan : sv_T := (flX5, sfX5, kcX5, klX5, cal_X5_plan)
set_option maxRecDepth 100000 in
theorem Tok_X5_plan (l : Launch) : sv_Tok l RX5 sv_all 2 43 T_X5_plan := ⟨flokX5, sfokX5, kcokX5, klokX5, List.forall_mem_cons.mpr ⟨⟨fun _ => sv_COv_of (c_X5_isPart l) sv_clok_all (sv_mem 630 (by decide +kernel) rfl) kw_X5_isPart.1 kw_X5_isPart.2.1 kw_X5_isPart.2.2.1 kw_X5_isPart.2.2.2 kd_X5_isPart rfl (by decide) (by decide +kernel) rfl (by decide), fun h => absurd h (by decide)⟩, List.forall_mem_cons.mpr ⟨⟨fun _ => sv_COv_of (c_X5_isSet l) sv_clok_all (sv_mem 670 (by decide +kernel) rfl) kw_X5_isSet.1 kw_X5_isSet.2.1 kw_X5_isSet.2.2.1 kw_X5_isSet.2.2.2 kd_X5_isSet rfl (by decide) (by decide +kernel) rfl (by decide), fun h => absurd h (by decide)⟩, fun _ h => absurd h List.not_mem_nil⟩⟩⟩
theorem kw_X5_plan : Cond.instanceMethod yX5_plan ∈ sv_tb ∧ Cond.selects yX5_plan.cls yX5_plan yX5_plan ∈ sv_tb ∧ Cond.initialized yX5_plan.cls ∈ sv_tb ∧ Cond.code yX5_plan cX5_plan 4 (some .int) ∈ sv_tb := ⟨sv_mem 667 (by decide +kernel) rfl, sv_mem 668 (by decide +kernel) rfl, sv_mem 56 (by decide +kernel) rfl, sv_mem 669 (by decide +kernel) rfl⟩
theorem kd_X5_plan : yX5_plan.cls ≠ "java/lang/invoke/MethodHandle" ∧ yX5_plan.cls ≠ "java/lang/invoke/VarHandle" ∧ (parseMethodDescriptor yX5_plan.desc).map (fun d => d.parameters.length) = some 2 := by decide +kernel
def F_X5_plan_0 (Wk : sv_K) (Kr : Option sv_AV → sv_S → Prop) (p : Int32) (set : Int32) (σ : sv_S) : Prop := (∃ d1 : dD, (RM d1 σ) ∧ ((isN (dP d1) p → (∃ d2 : dD, (RM d2 σ) ∧ ((isN (2 ^ dT d2) set → (vp_in p 10 ∧ (vp_in p 10 ∧ Kr (some (.inl (sv_gA σ 36 0 p.toNatClampNeg))) (sv_sA σ 36 0 p.toNatClampNeg set)))) ∧ (¬ isN (2 ^ dT d2) set → Kr (some (.inl (-2 : Int32))) σ)))) ∧ (¬ isN (dP d1) p → Kr (some (.inl (-1 : Int32))) σ)))
set_option maxRecDepth 100000 in
theorem bk_X5_plan_0 (Wk : sv_K) (Kr : Option sv_AV → sv_S → Prop) (p : Int32) (set : Int32) (σ : sv_S) (h : F_X5_plan_0 Wk Kr p set σ) : sv_vc tb_X5_plan T_X5_plan sv_all (some .int) Kr [] Wk 500 0 [some (.inr (.inr (5, 0))), some (.inl p), some (.inl set), none] [] σ := (match h with | ⟨d1, z4p, z4a, z4b⟩ => ⟨d1, z4p, fun z4y => sb_nt (by decide) ((match (z4a z4y) with | ⟨d2, z3p, z3a, z3b⟩ => ⟨d2, z3p, fun z3y => sb_nt (by decide) ((z3a z3y)), fun z3y => sb_nf (by decide) ((z3b z3y))⟩)), fun z4y => sb_nf (by decide) ((z4b z4y))⟩)
set_option maxRecDepth 100000 in
theorem m_X5_plan (l : Launch) (hb : ∀ (Wk : sv_K) (Kr : Option sv_AV → sv_S → Prop), (∀ (p : Int32) (set : Int32) (σ : sv_S), F_X5_plan_0 Wk Kr p set σ → Wk 0 [some (.inr (.inr (5, 0))), some (.inl p), some (.inl set), none] [] σ) → (∀ (p : Int32) (set : Int32) (σ : sv_S), (∃ d : dD, (RM d σ ∧ MI d σ) ∧ (∀ v : Int32, ∀ σ2 : sv_S, v = A_plan d p set ∧ (RM (U_plan d p set) σ2 ∧ MI (U_plan d p set) σ2) ∧ sq mg σ σ2 → Kr (some (.inl v)) σ2)) → Wk 0 [some (.inr (.inr (5, 0))), some (.inl p), some (.inl set), none] [] σ)) : sv_C l yX5_plan cX5_plan 4 (some .int) sv_all 2 43 sp_X5_plan := by
  refine sv_meth sv_clok_all tb_X5_plan T_X5_plan (by decide) tbk_X5_plan (Tok_X5_plan l) ?_
  intro Wk Kr hc av σ hsp
  have hB := hb Wk Kr (fun p set σ h => hc [] 500 0 _ _ _ (bk_X5_plan_0 Wk Kr p set σ h))
  unfold sp_X5_plan at hsp
  split at hsp
  · exact ⟨⟨by simp, by simp [sv_cat]⟩, hB _ _ _ hsp⟩
  · exact hsp.elim
set_option maxHeartbeats 4000000 in
set_option maxRecDepth 100000 in
theorem c_X5_plan (l : Launch) : sv_C l yX5_plan cX5_plan 4 (some .int) sv_all 2 43 sp_X5_plan := by
  refine m_X5_plan l ?_
  intro Wk Kr e0 p s σ ⟨d, ⟨hC, hI⟩, h⟩
  have hP := hC.1.1
  have h32 := two_pow_le hC.1
  apply e0
  refine ⟨d, hC, fun h1 => ⟨d, hC, fun h2 => ?_, fun h2 => h _ _ ⟨?_, ?_, sq_rf _ _⟩⟩, fun h1 => h _ _ ⟨(ch_f h1 _ _).symm, ?_, sq_rf _ _⟩⟩
  · have g1 := h1
    have g2 := h2
    obtain ⟨q, hq, rfl⟩ := h1
    obtain ⟨c, hc, rfl⟩ := h2
    have hin := pk_in (x := nI q) q 10 (by omega)
    rw [nI_clamp (by omega), hC.2.2.2.2.2.2.2.2.2 q hq]
    have hsq : sq [36] σ (sv_sA σ 36 0 q (nI c)) := sq_sA _ _ _ _ (by decide)
    refine ⟨hin, hin, h _ _ ⟨?_, ?_, sq_mono hsq (by decide)⟩⟩
    · unfold A_plan
      rw [ch_t g1, ch_t g2, xn_nI (by omega)]
    · unfold U_plan
      rw [ch_t ⟨g1, g2⟩, xn_nI (by omega), xn_nI (by omega)]
      refine ⟨RM_take hC (L := fun p => if p = q then c else dL d p) (fun p hp => ?_) (sq_mono hsq (by decide)) (fun p hp => ?_), MI_alk (MI_fr hI hsq) (bst_eq (alk_plan d q c))⟩
      · show (if p = q then c else dL d p) < 2 ^ dT d
        split
        · exact hc
        · exact hC.2.1 p hp
      · show _ = nI (if p = q then c else dL d p)
        by_cases e : p = q
        · rw [if_pos e, e, gA_same]
        · rw [if_neg e, gA_nj _ e]
          exact hC.2.2.2.2.2.2.2.2.2 p hp
  · unfold A_plan
    rw [ch_t h1, ch_f h2]
  · unfold U_plan
    rw [ch_f (fun y => h2 y.2)]
    exact ⟨hC, hI⟩
  · unfold U_plan
    rw [ch_f (fun y => h1 y.1)]
    exact ⟨hC, hI⟩
-- ==== X5_planned
def sp_X5_planned : sv_P := fun av σ K => match av with
  | [.inr (.inr (5, 0)), .inl p] => ∃ d : dD, (RM d σ ∧ MI d σ) ∧ (∀ v : Int32, v = A_planned d p → K (some (.inl v)) σ)
  | _ => False
def tb_X5_planned : List (Nat × (Instr × Nat)) := [(0, (.aload_n 0, 1)), (1, (.iload_n 1, 1)), (2, (.invokevirtual 65, 3)), (5, (.ifCond .eq 12, 3)), (8, (.aload_n 0, 1)), (9, (.getfield 25, 3)), (12, (.iload_n 1, 1)), (13, (.iaload, 1)), (14, (.goto 4, 3)), (17, (.iconst (-1), 1)), (18, (.ireturn, 1))]
set_option maxRecDepth 100000 in
theorem tbk_X5_planned : sv_tbok cX5_planned tb_X5_planned = true := by decide +kernel
def cal_X5_planned : List (Nat × (Nat × Nat × sv_P)) := [(65, (2, 5, sp_X5_isPart))]
def T_X5_planned : sv_T := (flX5, sfX5, kcX5, klX5, cal_X5_planned)
set_option maxRecDepth 100000 in
theorem Tok_X5_planned (l : Launch) : sv_Tok l RX5 sv_all 2 43 T_X5_planned := ⟨flokX5, sfokX5, kcokX5, klokX5, List.forall_mem_cons.mpr ⟨⟨fun _ => sv_COv_of (c_X5_isPart l) sv_clok_all (sv_mem 630 (by decide +kernel) rfl) kw_X5_isPart.1 kw_X5_isPart.2.1 kw_X5_isPart.2.2.1 kw_X5_isPart.2.2.2 kd_X5_isPart rfl (by decide) (by decide +kernel) rfl (by decide), fun h => absurd h (by decide)⟩, fun _ h => absurd h List.not_mem_nil⟩⟩
theorem kw_X5_planned : Cond.instanceMethod yX5_planned ∈ sv_tb ∧ Cond.selects yX5_planned.cls yX5_planned yX5_planned ∈ sv_tb ∧ Cond.initialized yX5_planned.cls ∈ sv_tb ∧ Cond.code yX5_planned cX5_planned 2 (some .int) ∈ sv_tb := ⟨sv_mem 675 (by decide +kernel) rfl, sv_mem 676 (by decide +kernel) rfl, sv_mem 56 (by decide +kernel) rfl, sv_mem 677 (by decide +kernel) rfl⟩
theorem kd_X5_planned : yX5_planned.cls ≠ "java/lang/invoke/MethodHandle" ∧ yX5_planned.cls ≠ "java/lang/invoke/VarHandle" ∧ (parseMethodDescriptor yX5_planned.desc).map (fun d => d.parameters.length) = some 1 := by decide +kernel
def F_X5_planned_0 (Wk : sv_K) (Kr : Option sv_AV → sv_S → Prop) (p : Int32) (σ : sv_S) : Prop := (∃ d1 : dD, (RM d1 σ) ∧ ((isN (dP d1) p → (vp_in p 10 ∧ Kr (some (.inl (sv_gA σ 36 0 p.toNatClampNeg))) σ)) ∧ (¬ isN (dP d1) p → Kr (some (.inl (-1 : Int32))) σ)))
set_option maxRecDepth 100000 in
theorem bk_X5_planned_0 (Wk : sv_K) (Kr : Option sv_AV → sv_S → Prop) (p : Int32) (σ : sv_S) (h : F_X5_planned_0 Wk Kr p σ) : sv_vc tb_X5_planned T_X5_planned sv_all (some .int) Kr [] Wk 500 0 [some (.inr (.inr (5, 0))), some (.inl p)] [] σ := (match h with | ⟨d1, z2p, z2a, z2b⟩ => ⟨d1, z2p, fun z2y => br_f (by decide) ((z2a z2y)), fun z2y => br_t (by decide) ((z2b z2y))⟩)
set_option maxRecDepth 100000 in
theorem m_X5_planned (l : Launch) (hb : ∀ (Wk : sv_K) (Kr : Option sv_AV → sv_S → Prop), (∀ (p : Int32) (σ : sv_S), F_X5_planned_0 Wk Kr p σ → Wk 0 [some (.inr (.inr (5, 0))), some (.inl p)] [] σ) → (∀ (p : Int32) (σ : sv_S), (∃ d : dD, (RM d σ ∧ MI d σ) ∧ (∀ v : Int32, v = A_planned d p → Kr (some (.inl v)) σ)) → Wk 0 [some (.inr (.inr (5, 0))), some (.inl p)] [] σ)) : sv_C l yX5_planned cX5_planned 2 (some .int) sv_all 2 43 sp_X5_planned := by
  refine sv_meth sv_clok_all tb_X5_planned T_X5_planned (by decide) tbk_X5_planned (Tok_X5_planned l) ?_
  intro Wk Kr hc av σ hsp
  have hB := hb Wk Kr (fun p σ h => hc [] 500 0 _ _ _ (bk_X5_planned_0 Wk Kr p σ h))
  unfold sp_X5_planned at hsp
  split at hsp
  · exact ⟨⟨by simp, by simp [sv_cat]⟩, hB _ _ hsp⟩
  · exact hsp.elim
set_option maxHeartbeats 4000000 in
set_option maxRecDepth 100000 in
theorem c_X5_planned (l : Launch) : sv_C l yX5_planned cX5_planned 2 (some .int) sv_all 2 43 sp_X5_planned := by
  refine m_X5_planned l ?_
  intro Wk Kr e0 p σ ⟨d, ⟨hC, hI⟩, h⟩
  have hP := hC.1.1
  apply e0
  refine ⟨d, hC, fun h1 => ?_, fun h1 => h _ (ch_f h1 _ _).symm⟩
  have g1 := h1
  obtain ⟨q, hq, rfl⟩ := h1
  rw [nI_clamp (by omega), hC.2.2.2.2.2.2.2.2.2 q hq]
  refine ⟨pk_in q 10 (by omega), h _ ?_⟩
  unfold A_planned
  rw [ch_t g1, xn_nI (by omega)]
