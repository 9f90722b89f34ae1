-- ==== X5_cellsOf
def sp_X5_cellsOf : sv_P := fun av σ K => match av with
  | [.inr (.inr (5, 0)), .inl set] => ∃ d : dD, ∃ c : Nat, (RM d σ ∧ (c < 32 ∧ set = nI c)) ∧ (∀ v : Int32, v = nI (cells d c) → K (some (.inl v)) σ)
  | _ => False
def tb_X5_cellsOf : List (Nat × (Instr × Nat)) := [(0, (.iconst 0, 1)), (1, (.istore_n 2, 1)), (2, (.iconst 0, 1)), (3, (.istore_n 3, 1)), (4, (.iload_n 3, 1)), (5, (.aload_n 0, 1)), (6, (.getfield 54, 3)), (9, (.if_icmp .ge 30, 3)), (12, (.iload_n 2, 1)), (13, (.iload_n 1, 1)), (14, (.iload_n 3, 1)), (15, (.invokestatic 78, 3)), (18, (.ifCond .eq 12, 3)), (21, (.aload_n 0, 1)), (22, (.getfield 13, 3)), (25, (.iload_n 3, 1)), (26, (.iaload, 1)), (27, (.goto 4, 3)), (30, (.iconst 0, 1)), (31, (.iadd, 1)), (32, (.istore_n 2, 1)), (33, (.iinc 3 1, 3)), (36, (.goto (-32), 3)), (39, (.iload_n 2, 1)), (40, (.ireturn, 1))]
set_option maxRecDepth 100000 in
theorem tbk_X5_cellsOf : sv_tbok cX5_cellsOf tb_X5_cellsOf = true := by decide +kernel
def cal_X5_cellsOf : List (Nat × (Nat × Nat × sv_P)) := [(78, (2, 90, sp_X5_has))]
def T_X5_cellsOf : sv_T := (flX5, sfX5, kcX5, klX5, cal_X5_cellsOf)
set_option maxRecDepth 100000 in
theorem Tok_X5_cellsOf (l : Launch) : sv_Tok l RX5 sv_all 1 21 T_X5_cellsOf := ⟨flokX5, sfokX5, kcokX5, klokX5, List.forall_mem_cons.mpr ⟨⟨fun h => absurd h (by decide), fun _ => sv_COs_gen (c_X5_has l) (Or.inl (sv_mem 701 (by decide +kernel) rfl)) kw_X5_has.1 kw_X5_has.2.1 kw_X5_has.2.2 kd_X5_has rfl (by decide) (by decide +kernel)⟩, fun _ h => absurd h List.not_mem_nil⟩⟩
theorem kw_X5_cellsOf : Cond.instanceMethod yX5_cellsOf ∈ sv_tb ∧ Cond.selects yX5_cellsOf.cls yX5_cellsOf yX5_cellsOf ∈ sv_tb ∧ Cond.initialized yX5_cellsOf.cls ∈ sv_tb ∧ Cond.code yX5_cellsOf cX5_cellsOf 4 (some .int) ∈ sv_tb := ⟨sv_mem 718 (by decide +kernel) rfl, sv_mem 26 (by decide +kernel) rfl, sv_mem 56 (by decide +kernel) rfl, sv_mem 719 (by decide +kernel) rfl⟩
theorem kd_X5_cellsOf : yX5_cellsOf.cls ≠ "java/lang/invoke/MethodHandle" ∧ yX5_cellsOf.cls ≠ "java/lang/invoke/VarHandle" ∧ (parseMethodDescriptor yX5_cellsOf.desc).map (fun d => d.parameters.length) = some 1 := by decide +kernel
def F_X5_cellsOf_0 (Wk : sv_K) (Kr : Option sv_AV → sv_S → Prop) (set : Int32) (σ : sv_S) : Prop := Wk 4 [some (.inr (.inr (5, 0))), some (.inl set), some (.inl (0 : Int32)), some (.inl (0 : Int32))] [] σ
set_option maxRecDepth 100000 in
theorem bk_X5_cellsOf_0 (Wk : sv_K) (Kr : Option sv_AV → sv_S → Prop) (set : Int32) (σ : sv_S) (h : F_X5_cellsOf_0 Wk Kr set σ) : sv_vc tb_X5_cellsOf T_X5_cellsOf sv_all (some .int) Kr [(4, [true, true, true, true])] Wk 500 0 [some (.inr (.inr (5, 0))), some (.inl set), none, none] [] σ := h
def F_X5_cellsOf_4 (Wk : sv_K) (Kr : Option sv_AV → sv_S → Prop) (x1 : Int32) (x2 : Int32) (x3 : Int32) (σ : sv_S) : Prop := (((sv_gA σ 5 0 1) ≤ x3 → Kr (some (.inl x2)) σ) ∧ (¬ (sv_gA σ 5 0 1) ≤ x3 → ((((x1 >>> (x3 &&& 31)) &&& 1 = 1 → (vp_in x3 5 ∧ Wk 4 [some (.inr (.inr (5, 0))), some (.inl x1), some (.inl (x2 + (sv_gA σ 32 0 x3.toNatClampNeg))), some (.inl (x3 + (1 : Int32)))] [] σ)) ∧ (¬ (x1 >>> (x3 &&& 31)) &&& 1 = 1 → Wk 4 [some (.inr (.inr (5, 0))), some (.inl x1), some (.inl (x2 + (0 : Int32))), some (.inl (x3 + (1 : Int32)))] [] σ)))))
set_option maxRecDepth 100000 in
theorem bk_X5_cellsOf_4 (Wk : sv_K) (Kr : Option sv_AV → sv_S → Prop) (x1 : Int32) (x2 : Int32) (x3 : Int32) (σ : sv_S) (h : F_X5_cellsOf_4 Wk Kr x1 x2 x3 σ) : sv_vc tb_X5_cellsOf T_X5_cellsOf sv_all (some .int) Kr [(4, [true, true, true, true])] Wk 500 4 [some (.inr (.inr (5, 0))), some (.inl x1), some (.inl x2), some (.inl x3)] [] σ := ⟨fun z2 => ((h).1 z2), fun z2 => (match ((h).2 z2) with | ⟨z1a, z1b⟩ => ⟨fun z1y => br_f (by decide) ((z1a z1y)), fun z1y => br_t (by decide) ((z1b z1y))⟩)⟩
set_option maxRecDepth 100000 in
theorem m_X5_cellsOf (l : Launch) (hb : ∀ (Wk : sv_K) (Kr : Option sv_AV → sv_S → Prop), (∀ (set : Int32) (σ : sv_S), F_X5_cellsOf_0 Wk Kr set σ → Wk 0 [some (.inr (.inr (5, 0))), some (.inl set), none, none] [] σ) → (∀ (x1 : Int32) (x2 : Int32) (x3 : Int32) (σ : sv_S), F_X5_cellsOf_4 Wk Kr x1 x2 x3 σ → Wk 4 [some (.inr (.inr (5, 0))), some (.inl x1), some (.inl x2), some (.inl x3)] [] σ) → (∀ (set : Int32) (σ : sv_S), (∃ d : dD, ∃ c : Nat, (RM d σ ∧ (c < 32 ∧ set = nI c)) ∧ (∀ v : Int32, v = nI (cells d c) → Kr (some (.inl v)) σ)) → Wk 0 [some (.inr (.inr (5, 0))), some (.inl set), none, none] [] σ)) : sv_C l yX5_cellsOf cX5_cellsOf 4 (some .int) sv_all 1 21 sp_X5_cellsOf := by
  refine sv_meth sv_clok_all tb_X5_cellsOf T_X5_cellsOf (by decide) tbk_X5_cellsOf (Tok_X5_cellsOf l) ?_
  intro Wk Kr hc av σ hsp
  have hB := hb Wk Kr (fun set σ h => hc [(4, [true, true, true, true])] 500 0 _ _ _ (bk_X5_cellsOf_0 Wk Kr set σ h)) (fun x1 x2 x3 σ h => hc [(4, [true, true, true, true])] 500 4 _ _ _ (bk_X5_cellsOf_4 Wk Kr x1 x2 x3 σ h))
  unfold sp_X5_cellsOf at hsp
  split at hsp
  · exact ⟨⟨by simp, by simp [sv_cat]⟩, hB _ _ hsp⟩
  · exact hsp.elim
set_option maxHeartbeats 4000000 in
set_option maxRecDepth 100000 in
theorem c_X5_cellsOf (l : Launch) : sv_C l yX5_cellsOf cX5_cellsOf 4 (some .int) sv_all 1 21 sp_X5_cellsOf := by
  refine m_X5_cellsOf l ?_
  intro Wk Kr e0 e4 set σ ⟨d, c, ⟨hR, hc, hset⟩, h⟩
  subst hset
  have hT := hR.1.2.1
  suffices key : ∀ n, n ≤ dT d → Wk 4 [some (.inr (.inr (5, 0))), some (.inl (nI c)), some (.inl (nI (sm (fun t => if c.testBit t then dZ d t else 0) n))), some (.inl (nI n))] [] σ from e0 _ _ (key 0 (by omega))
  refine lpN (fun n hn ih => ?_)
  apply e4
  unfold F_X5_cellsOf_4
  rw [hR.2.2.2.1]
  refine pk_le (dT d) n (fun z => h _ (by rw [show n = dT d by omega]; rfl)) (fun z => ?_)
  have ih := ih z
  have e : sm (fun t => if c.testBit t then dZ d t else 0) (n + 1) = sm (fun t => if c.testBit t then dZ d t else 0) n + (if c.testBit n then dZ d n else 0) := rfl
  rw [e] at ih
  refine ⟨fun y => ⟨pk_in n 5 (by omega), ?_⟩, fun y => ?_⟩
  · rw [bit_sh c hc n (by omega)] at y
    rw [if_pos y] at ih
    rw [nI_1, nI_clamp (by omega), hR.2.2.2.2.2.1 n z, nI_add]
    exact ih
  · rw [bit_sh c hc n (by omega)] at y
    rw [if_neg y] at ih
    rw [nI_1, show (0 : Int32) = nI 0 from rfl, nI_add]
    exact ih
-- ==== X5_workOf
def sp_X5_workOf : sv_P := fun av σ K => match av with
  | [.inr (.inr (5, 0)), .inl p, .inl set, .inl kind] => ∃ d : dD, ∃ q : Nat, ∃ c : Nat, ∃ k : Nat, (RM d σ ∧ (q < dP d ∧ p = nI q) ∧ (c < 32 ∧ set = nI c) ∧ (k < 2 ∧ kind = nI k)) ∧ (∀ v : Int32, v = nI (work d q k c) → K (some (.inl v)) σ)
  | _ => False
def tb_X5_workOf : List (Nat × (Instr × Nat)) := [(0, (.iconst 0, 1)), (1, (.istore 4, 2)), (3, (.iconst 0, 1)), (4, (.istore 5, 2)), (6, (.iload 5, 2)), (8, (.aload_n 0, 1)), (9, (.getfield 54, 3)), (12, (.if_icmp .ge 68, 3)), (15, (.aload_n 0, 1)), (16, (.getfield 16, 3)), (19, (.bipush 10, 2)), (21, (.iload 5, 2)), (23, (.imul, 1)), (24, (.iload_n 1, 1)), (25, (.iadd, 1)), (26, (.iaload, 1)), (27, (.aload_n 0, 1)), (28, (.getfield 19, 3)), (31, (.bipush 10, 2)), (33, (.iload 5, 2)), (35, (.imul, 1)), (36, (.iload_n 1, 1)), (37, (.iadd, 1)), (38, (.iaload, 1)), (39, (.iadd, 1)), (40, (.istore 6, 2)), (42, (.iload 4, 2)), (44, (.iload 6, 2)), (46, (.iload_n 2, 1)), (47, (.iload 5, 2)), (49, (.invokestatic 78, 3)), (52, (.ifCond .eq 12, 3)), (55, (.aload_n 0, 1)), (56, (.getfield 22, 3)), (59, (.iconst 2, 1)), (60, (.iaload, 1)), (61, (.goto 9, 3)), (64, (.aload_n 0, 1)), (65, (.getfield 22, 3)), (68, (.iconst 1, 1)), (69, (.iaload, 1)), (70, (.imul, 1)), (71, (.iadd, 1)), (72, (.istore 4, 2)), (74, (.iinc 5 1, 3)), (77, (.goto (-71), 3)), (80, (.aload_n 0, 1)), (81, (.getfield 7, 3)), (84, (.iconst 2, 1)), (85, (.iload_n 1, 1)), (86, (.imul, 1)), (87, (.iload_n 3, 1)), (88, (.iadd, 1)), (89, (.iaload, 1)), (90, (.iload 4, 2)), (92, (.imul, 1)), (93, (.ireturn, 1))]
set_option maxRecDepth 100000 in
theorem tbk_X5_workOf : sv_tbok cX5_workOf tb_X5_workOf = true := by decide +kernel
def cal_X5_workOf : List (Nat × (Nat × Nat × sv_P)) := [(78, (2, 90, sp_X5_has))]
def T_X5_workOf : sv_T := (flX5, sfX5, kcX5, klX5, cal_X5_workOf)
set_option maxRecDepth 100000 in
theorem Tok_X5_workOf (l : Launch) : sv_Tok l RX5 sv_all 1 21 T_X5_workOf := ⟨flokX5, sfokX5, kcokX5, klokX5, List.forall_mem_cons.mpr ⟨⟨fun h => absurd h (by decide), fun _ => sv_COs_gen (c_X5_has l) (Or.inl (sv_mem 701 (by decide +kernel) rfl)) kw_X5_has.1 kw_X5_has.2.1 kw_X5_has.2.2 kd_X5_has rfl (by decide) (by decide +kernel)⟩, fun _ h => absurd h List.not_mem_nil⟩⟩
theorem kw_X5_workOf : Cond.instanceMethod yX5_workOf ∈ sv_tb ∧ Cond.selects yX5_workOf.cls yX5_workOf yX5_workOf ∈ sv_tb ∧ Cond.initialized yX5_workOf.cls ∈ sv_tb ∧ Cond.code yX5_workOf cX5_workOf 7 (some .int) ∈ sv_tb := ⟨sv_mem 722 (by decide +kernel) rfl, sv_mem 27 (by decide +kernel) rfl, sv_mem 56 (by decide +kernel) rfl, sv_mem 723 (by decide +kernel) rfl⟩
theorem kd_X5_workOf : yX5_workOf.cls ≠ "java/lang/invoke/MethodHandle" ∧ yX5_workOf.cls ≠ "java/lang/invoke/VarHandle" ∧ (parseMethodDescriptor yX5_workOf.desc).map (fun d => d.parameters.length) = some 3 := by decide +kernel
def F_X5_workOf_0 (Wk : sv_K) (Kr : Option sv_AV → sv_S → Prop) (p : Int32) (set : Int32) (kind : Int32) (σ : sv_S) : Prop := Wk 6 [some (.inr (.inr (5, 0))), some (.inl p), some (.inl set), some (.inl kind), some (.inl (0 : Int32)), some (.inl (0 : Int32)), none] [] σ
set_option maxRecDepth 100000 in
theorem bk_X5_workOf_0 (Wk : sv_K) (Kr : Option sv_AV → sv_S → Prop) (p : Int32) (set : Int32) (kind : Int32) (σ : sv_S) (h : F_X5_workOf_0 Wk Kr p set kind σ) : sv_vc tb_X5_workOf T_X5_workOf sv_all (some .int) Kr [(6, [true, true, true, true, true, true, false])] Wk 500 0 [some (.inr (.inr (5, 0))), some (.inl p), some (.inl set), some (.inl kind), none, none, none] [] σ := h
def F_X5_workOf_6 (Wk : sv_K) (Kr : Option sv_AV → sv_S → Prop) (x1 : Int32) (x2 : Int32) (x3 : Int32) (x4 : Int32) (x5 : Int32) (σ : sv_S) : Prop := (((sv_gA σ 5 0 1) ≤ x5 → (vp_in (((2 : Int32) * x1) + x3) 20 ∧ Kr (some (.inl ((sv_gA σ 31 0 (((2 : Int32) * x1) + x3).toNatClampNeg) * x4))) σ)) ∧ (¬ (sv_gA σ 5 0 1) ≤ x5 → (vp_in (((10 : Int32) * x5) + x1) 50 ∧ (vp_in (((10 : Int32) * x5) + x1) 50 ∧ ((((x2 >>> (x5 &&& 31)) &&& 1 = 1 → Wk 6 [some (.inr (.inr (5, 0))), some (.inl x1), some (.inl x2), some (.inl x3), some (.inl (x4 + (((sv_gA σ 33 0 (((10 : Int32) * x5) + x1).toNatClampNeg) + (sv_gA σ 34 0 (((10 : Int32) * x5) + x1).toNatClampNeg)) * (sv_gA σ 35 0 2)))), some (.inl (x5 + (1 : Int32))), none] [] σ) ∧ (¬ (x2 >>> (x5 &&& 31)) &&& 1 = 1 → Wk 6 [some (.inr (.inr (5, 0))), some (.inl x1), some (.inl x2), some (.inl x3), some (.inl (x4 + (((sv_gA σ 33 0 (((10 : Int32) * x5) + x1).toNatClampNeg) + (sv_gA σ 34 0 (((10 : Int32) * x5) + x1).toNatClampNeg)) * (sv_gA σ 35 0 1)))), some (.inl (x5 + (1 : Int32))), none] [] σ)))))))
set_option maxRecDepth 100000 in
theorem bk_X5_workOf_6 (Wk : sv_K) (Kr : Option sv_AV → sv_S → Prop) (x1 : Int32) (x2 : Int32) (x3 : Int32) (x4 : Int32) (x5 : Int32) (σ : sv_S) (h : F_X5_workOf_6 Wk Kr x1 x2 x3 x4 x5 σ) : sv_vc tb_X5_workOf T_X5_workOf sv_all (some .int) Kr [(6, [true, true, true, true, true, true, false])] Wk 500 6 [some (.inr (.inr (5, 0))), some (.inl x1), some (.inl x2), some (.inl x3), some (.inl x4), some (.inl x5), none] [] σ := ⟨fun z2 => ((h).1 z2), fun z2 => ⟨(((h).2 z2)).1, ⟨(((((h).2 z2)).2)).1, (match ((((((h).2 z2)).2)).2) with | ⟨z1a, z1b⟩ => ⟨fun z1y => br_f (by decide) (⟨sb_vin (by decide), (z1a z1y)⟩), fun z1y => br_t (by decide) (⟨sb_vin (by decide), (z1b z1y)⟩)⟩)⟩⟩⟩
set_option maxRecDepth 100000 in
theorem m_X5_workOf (l : Launch) (hb : ∀ (Wk : sv_K) (Kr : Option sv_AV → sv_S → Prop), (∀ (p : Int32) (set : Int32) (kind : Int32) (σ : sv_S), F_X5_workOf_0 Wk Kr p set kind σ → Wk 0 [some (.inr (.inr (5, 0))), some (.inl p), some (.inl set), some (.inl kind), none, none, none] [] σ) → (∀ (x1 : Int32) (x2 : Int32) (x3 : Int32) (x4 : Int32) (x5 : Int32) (σ : sv_S), F_X5_workOf_6 Wk Kr x1 x2 x3 x4 x5 σ → Wk 6 [some (.inr (.inr (5, 0))), some (.inl x1), some (.inl x2), some (.inl x3), some (.inl x4), some (.inl x5), none] [] σ) → (∀ (p : Int32) (set : Int32) (kind : Int32) (σ : sv_S), (∃ d : dD, ∃ q : Nat, ∃ c : Nat, ∃ k : Nat, (RM d σ ∧ (q < dP d ∧ p = nI q) ∧ (c < 32 ∧ set = nI c) ∧ (k < 2 ∧ kind = nI k)) ∧ (∀ v : Int32, v = nI (work d q k c) → Kr (some (.inl v)) σ)) → Wk 0 [some (.inr (.inr (5, 0))), some (.inl p), some (.inl set), some (.inl kind), none, none, none] [] σ)) : sv_C l yX5_workOf cX5_workOf 7 (some .int) sv_all 1 21 sp_X5_workOf := by
  refine sv_meth sv_clok_all tb_X5_workOf T_X5_workOf (by decide) tbk_X5_workOf (Tok_X5_workOf l) ?_
  intro Wk Kr hc av σ hsp
  have hB := hb Wk Kr (fun p set kind σ h => hc [(6, [true, true, true, true, true, true, false])] 500 0 _ _ _ (bk_X5_workOf_0 Wk Kr p set kind σ h)) (fun x1 x2 x3 x4 x5 σ h => hc [(6, [true, true, true, true, true, true, false])] 500 6 _ _ _ (bk_X5_workOf_6 Wk Kr x1 x2 x3 x4 x5 σ h))
  unfold sp_X5_workOf at hsp
  split at hsp
  · exact ⟨⟨by simp, by simp [sv_cat]⟩, hB _ _ _ _ hsp⟩
  · exact hsp.elim
set_option maxHeartbeats 4000000 in
set_option maxRecDepth 100000 in
theorem c_X5_workOf (l : Launch) : sv_C l yX5_workOf cX5_workOf 7 (some .int) sv_all 1 21 sp_X5_workOf := by
  refine m_X5_workOf l ?_
  intro Wk Kr e0 e6 p set kind σ ⟨d, q, c, k, ⟨hR, ⟨hq, hp⟩, ⟨hc, hset⟩, hk, hkd⟩, h⟩
  subst hset
  subst hp
  subst hkd
  have hT := hR.1.2.1
  have hP := hR.1.1
  suffices key : ∀ n, n ≤ dT d → Wk 6 [some (.inr (.inr (5, 0))), some (.inl (nI q)), some (.inl (nI c)), some (.inl (nI k)), some (.inl (nI (sm (fun t => (dr d t q + dw d t q) * (if c.testBit t then dS d 2 else dS d 1)) n))), some (.inl (nI n)), none] [] σ from e0 _ _ _ _ (key 0 (by omega))
  refine lpN (fun n hn ih => ?_)
  apply e6
  unfold F_X5_workOf_6
  rw [hR.2.2.2.1]
  refine pk_le (dT d) n (fun z => ?_) (fun z => ?_)
  · rw [ix2a, nI_clamp (by omega), hR.2.2.2.2.1 k q hk hq, pk_mul]
    refine ⟨pk_in (2 * q + k) 20 (by omega), h _ ?_⟩
    rw [Nat.mul_comm, show n = dT d by omega]
    rfl
  · have ih := ih z
    have e : sm (fun t => (dr d t q + dw d t q) * (if c.testBit t then dS d 2 else dS d 1)) (n + 1) = sm (fun t => (dr d t q + dw d t q) * (if c.testBit t then dS d 2 else dS d 1)) n + (dr d n q + dw d n q) * (if c.testBit n then dS d 2 else dS d 1) := rfl
    rw [e] at ih
    have hin := pk_in (x := nI (10 * n + q)) (10 * n + q) 50 (by omega)
    have hS := hR.2.2.2.2.2.2.2.2.1
    rw [ix10, nI_clamp (by omega), hR.2.2.2.2.2.2.1 n q (by omega) hq, hR.2.2.2.2.2.2.2.1 n q (by omega) hq, nI_add, nI_1, hS 2 (by omega), hS 1 (by omega), pk_mul, pk_mul, nI_add, nI_add]
    refine ⟨hin, hin, fun y => ?_, fun y => ?_⟩
    · rw [bit_sh c hc n (by omega)] at y
      rw [if_pos y] at ih
      exact ih
    · rw [bit_sh c hc n (by omega)] at y
      rw [if_neg y] at ih
      exact ih
-- ==== X5_carryOf
def sp_X5_carryOf : sv_P := fun av σ K => match av with
  | [.inr (.inr (5, 0)), .inl t] => ∃ d : dD, ∃ e : Nat, (RM d σ ∧ (e < dT d ∧ t = nI e)) ∧ (∀ v : Int32, v = nI (dS d 3 * dZ d e) → K (some (.inl v)) σ)
  | _ => False
def tb_X5_carryOf : List (Nat × (Instr × Nat)) := [(0, (.aload_n 0, 1)), (1, (.getfield 22, 3)), (4, (.iconst 3, 1)), (5, (.iaload, 1)), (6, (.aload_n 0, 1)), (7, (.getfield 13, 3)), (10, (.iload_n 1, 1)), (11, (.iaload, 1)), (12, (.imul, 1)), (13, (.ireturn, 1))]
set_option maxRecDepth 100000 in
theorem tbk_X5_carryOf : sv_tbok cX5_carryOf tb_X5_carryOf = true := by decide +kernel
def cal_X5_carryOf : List (Nat × (Nat × Nat × sv_P)) := []
def T_X5_carryOf : sv_T := (flX5, sfX5, kcX5, klX5, cal_X5_carryOf)
set_option maxRecDepth 100000 in
theorem Tok_X5_carryOf (l : Launch) : sv_Tok l RX5 sv_all 0 0 T_X5_carryOf := ⟨flokX5, sfokX5, kcokX5, klokX5, fun _ h => absurd h List.not_mem_nil⟩
theorem kw_X5_carryOf : Cond.instanceMethod yX5_carryOf ∈ sv_tb ∧ Cond.selects yX5_carryOf.cls yX5_carryOf yX5_carryOf ∈ sv_tb ∧ Cond.initialized yX5_carryOf.cls ∈ sv_tb ∧ Cond.code yX5_carryOf cX5_carryOf 2 (some .int) ∈ sv_tb := ⟨sv_mem 709 (by decide +kernel) rfl, sv_mem 24 (by decide +kernel) rfl, sv_mem 56 (by decide +kernel) rfl, sv_mem 710 (by decide +kernel) rfl⟩
theorem kd_X5_carryOf : yX5_carryOf.cls ≠ "java/lang/invoke/MethodHandle" ∧ yX5_carryOf.cls ≠ "java/lang/invoke/VarHandle" ∧ (parseMethodDescriptor yX5_carryOf.desc).map (fun d => d.parameters.length) = some 1 := by decide +kernel
def F_X5_carryOf_0 (Wk : sv_K) (Kr : Option sv_AV → sv_S → Prop) (t : Int32) (σ : sv_S) : Prop := (vp_in t 5 ∧ Kr (some (.inl ((sv_gA σ 35 0 3) * (sv_gA σ 32 0 t.toNatClampNeg)))) σ)
set_option maxRecDepth 100000 in
theorem bk_X5_carryOf_0 (Wk : sv_K) (Kr : Option sv_AV → sv_S → Prop) (t : Int32) (σ : sv_S) (h : F_X5_carryOf_0 Wk Kr t σ) : sv_vc tb_X5_carryOf T_X5_carryOf sv_all (some .int) Kr [] Wk 500 0 [some (.inr (.inr (5, 0))), some (.inl t)] [] σ := ⟨sb_vin (by decide), h⟩
set_option maxRecDepth 100000 in
theorem m_X5_carryOf (l : Launch) (hb : ∀ (Wk : sv_K) (Kr : Option sv_AV → sv_S → Prop), (∀ (t : Int32) (σ : sv_S), F_X5_carryOf_0 Wk Kr t σ → Wk 0 [some (.inr (.inr (5, 0))), some (.inl t)] [] σ) → (∀ (t : Int32) (σ : sv_S), (∃ d : dD, ∃ e : Nat, (RM d σ ∧ (e < dT d ∧ t = nI e)) ∧ (∀ v : Int32, v = nI (dS d 3 * dZ d e) → Kr (some (.inl v)) σ)) → Wk 0 [some (.inr (.inr (5, 0))), some (.inl t)] [] σ)) : sv_C l yX5_carryOf cX5_carryOf 2 (some .int) sv_all 0 0 sp_X5_carryOf := by
  refine sv_meth sv_clok_all tb_X5_carryOf T_X5_carryOf (by decide) tbk_X5_carryOf (Tok_X5_carryOf l) ?_
  intro Wk Kr hc av σ hsp
  have hB := hb Wk Kr (fun t σ h => hc [] 500 0 _ _ _ (bk_X5_carryOf_0 Wk Kr t σ h))
  unfold sp_X5_carryOf at hsp
  split at hsp
  · exact ⟨⟨by simp, by simp [sv_cat]⟩, hB _ _ hsp⟩
  · exact hsp.elim
set_option maxHeartbeats 4000000 in
set_option maxRecDepth 100000 in
theorem c_X5_carryOf (l : Launch) : sv_C l yX5_carryOf cX5_carryOf 2 (some .int) sv_all 0 0 sp_X5_carryOf := by
  refine m_X5_carryOf l ?_
  intro Wk Kr e0 t σ ⟨d, e, ⟨hR, he, ht⟩, h⟩
  subst ht
  have hT := hR.1.2.1
  apply e0
  refine ⟨pk_in e 5 (by omega), h _ ?_⟩
  rw [hR.2.2.2.2.2.2.2.2.1 3 (by omega), nI_clamp (by omega), hR.2.2.2.2.2.1 e he, pk_mul]
-- ==== X5_stateBehind
def sp_X5_stateBehind : sv_P := fun av σ K => match av with
  | [.inr (.inr (5, 0)), .inl state, .inl p, .inl set] => ∃ d : dD, ∃ z : Nat, ∃ q : Nat, ∃ c : Nat, (RM d σ ∧ (z < 3 ^ dT d ∧ state = nI z) ∧ (q < dP d ∧ p = nI q) ∧ (c < 2 ^ dT d ∧ set = nI c)) ∧ (∀ v : Int32, v = nI (snx d q z c) → K (some (.inl v)) σ)
  | _ => False
def tb_X5_stateBehind : List (Nat × (Instr × Nat)) := [(0, (.iconst 0, 1)), (1, (.istore 4, 2)), (3, (.aload_n 0, 1)), (4, (.getfield 54, 3)), (7, (.iconst 1, 1)), (8, (.isub, 1)), (9, (.istore 5, 2)), (11, (.iload 5, 2)), (13, (.ifCond .lt 71, 3)), (16, (.iload_n 1, 1)), (17, (.iload 5, 2)), (19, (.invokestatic 81, 3)), (22, (.iconst 2, 1)), (23, (.if_icmp .eq 18, 3)), (26, (.aload_n 0, 1)), (27, (.getfield 19, 3)), (30, (.bipush 10, 2)), (32, (.iload 5, 2)), (34, (.imul, 1)), (35, (.iload_n 2, 1)), (36, (.iadd, 1)), (37, (.iaload, 1)), (38, (.ifCond .le 7, 3)), (41, (.iconst 1, 1)), (42, (.goto 4, 3)), (45, (.iconst 0, 1)), (46, (.istore 6, 2)), (48, (.iconst 3, 1)), (49, (.iload 4, 2)), (51, (.imul, 1)), (52, (.iload_n 3, 1)), (53, (.iload 5, 2)), (55, (.invokestatic 78, 3)), (58, (.ifCond .ne 7, 3)), (61, (.iconst 0, 1)), (62, (.goto 13, 3)), (65, (.iload 6, 2)), (67, (.ifCond .eq 7, 3)), (70, (.iconst 2, 1)), (71, (.goto 4, 3)), (74, (.iconst 1, 1)), (75, (.iadd, 1)), (76, (.istore 4, 2)), (78, (.iinc 5 (-1), 3)), (81, (.goto (-70), 3)), (84, (.iload 4, 2)), (86, (.ireturn, 1))]
set_option maxRecDepth 100000 in
theorem tbk_X5_stateBehind : sv_tbok cX5_stateBehind tb_X5_stateBehind = true := by decide +kernel
def cal_X5_stateBehind : List (Nat × (Nat × Nat × sv_P)) := [(81, (2, 90, sp_X5_stateAt)), (78, (2, 90, sp_X5_has))]
def T_X5_stateBehind : sv_T := (flX5, sfX5, kcX5, klX5, cal_X5_stateBehind)
set_option maxRecDepth 100000 in
theorem Tok_X5_stateBehind (l : Launch) : sv_Tok l RX5 sv_all 1 23 T_X5_stateBehind := ⟨flokX5, sfokX5, kcokX5, klokX5, List.forall_mem_cons.mpr ⟨⟨fun h => absurd h (by decide), fun _ => sv_COs_gen (c_X5_stateAt l) (Or.inl (sv_mem 704 (by decide +kernel) rfl)) kw_X5_stateAt.1 kw_X5_stateAt.2.1 kw_X5_stateAt.2.2 kd_X5_stateAt rfl (by decide) (by decide +kernel)⟩, List.forall_mem_cons.mpr ⟨⟨fun h => absurd h (by decide), fun _ => sv_COs_gen (c_X5_has l) (Or.inl (sv_mem 701 (by decide +kernel) rfl)) kw_X5_has.1 kw_X5_has.2.1 kw_X5_has.2.2 kd_X5_has rfl (by decide) (by decide +kernel)⟩, fun _ h => absurd h List.not_mem_nil⟩⟩⟩
theorem kw_X5_stateBehind : Cond.instanceMethod yX5_stateBehind ∈ sv_tb ∧ Cond.selects yX5_stateBehind.cls yX5_stateBehind yX5_stateBehind ∈ sv_tb ∧ Cond.initialized yX5_stateBehind.cls ∈ sv_tb ∧ Cond.code yX5_stateBehind cX5_stateBehind 7 (some .int) ∈ sv_tb := ⟨sv_mem 730 (by decide +kernel) rfl, sv_mem 29 (by decide +kernel) rfl, sv_mem 56 (by decide +kernel) rfl, sv_mem 731 (by decide +kernel) rfl⟩
theorem kd_X5_stateBehind : yX5_stateBehind.cls ≠ "java/lang/invoke/MethodHandle" ∧ yX5_stateBehind.cls ≠ "java/lang/invoke/VarHandle" ∧ (parseMethodDescriptor yX5_stateBehind.desc).map (fun d => d.parameters.length) = some 3 := by decide +kernel
def F_X5_stateBehind_0 (Wk : sv_K) (Kr : Option sv_AV → sv_S → Prop) (state : Int32) (p : Int32) (set : Int32) (σ : sv_S) : Prop := Wk 11 [some (.inr (.inr (5, 0))), some (.inl state), some (.inl p), some (.inl set), some (.inl (0 : Int32)), some (.inl ((sv_gA σ 5 0 1) - (1 : Int32))), none] [] σ
set_option maxRecDepth 100000 in
theorem bk_X5_stateBehind_0 (Wk : sv_K) (Kr : Option sv_AV → sv_S → Prop) (state : Int32) (p : Int32) (set : Int32) (σ : sv_S) (h : F_X5_stateBehind_0 Wk Kr state p set σ) : sv_vc tb_X5_stateBehind T_X5_stateBehind sv_all (some .int) Kr [(11, [true, true, true, true, true, true, false])] Wk 500 0 [some (.inr (.inr (5, 0))), some (.inl state), some (.inl p), some (.inl set), none, none, none] [] σ := h
def F_X5_stateBehind_11 (Wk : sv_K) (Kr : Option sv_AV → sv_S → Prop) (x1 : Int32) (x2 : Int32) (x3 : Int32) (x4 : Int32) (x5 : Int32) (σ : sv_S) : Prop := ((x5 < (0 : Int32) → Kr (some (.inl x4)) σ) ∧ (¬ x5 < (0 : Int32) → (∃ z1 : Nat, ∃ e2 : Nat, ((z1 < 243 ∧ x1 = nI z1) ∧ (e2 < 5 ∧ x5 = nI e2)) ∧ (∀ v3 : Int32, v3 = nI (dg e2 z1) → ((v3 = (2 : Int32) → ((((x3 >>> (x5 &&& 31)) &&& 1 = 1 → Wk 11 [some (.inr (.inr (5, 0))), some (.inl x1), some (.inl x2), some (.inl x3), some (.inl (((3 : Int32) * x4) + (2 : Int32))), some (.inl (x5 + (-1 : Int32))), none] [] σ) ∧ (¬ (x3 >>> (x5 &&& 31)) &&& 1 = 1 → Wk 11 [some (.inr (.inr (5, 0))), some (.inl x1), some (.inl x2), some (.inl x3), some (.inl (((3 : Int32) * x4) + (0 : Int32))), some (.inl (x5 + (-1 : Int32))), none] [] σ)))) ∧ (¬ v3 = (2 : Int32) → (vp_in (((10 : Int32) * x5) + x2) 50 ∧ (((sv_gA σ 34 0 (((10 : Int32) * x5) + x2).toNatClampNeg) ≤ (0 : Int32) → ((((x3 >>> (x5 &&& 31)) &&& 1 = 1 → Wk 11 [some (.inr (.inr (5, 0))), some (.inl x1), some (.inl x2), some (.inl x3), some (.inl (((3 : Int32) * x4) + (1 : Int32))), some (.inl (x5 + (-1 : Int32))), none] [] σ) ∧ (¬ (x3 >>> (x5 &&& 31)) &&& 1 = 1 → Wk 11 [some (.inr (.inr (5, 0))), some (.inl x1), some (.inl x2), some (.inl x3), some (.inl (((3 : Int32) * x4) + (0 : Int32))), some (.inl (x5 + (-1 : Int32))), none] [] σ)))) ∧ (¬ (sv_gA σ 34 0 (((10 : Int32) * x5) + x2).toNatClampNeg) ≤ (0 : Int32) → ((((x3 >>> (x5 &&& 31)) &&& 1 = 1 → Wk 11 [some (.inr (.inr (5, 0))), some (.inl x1), some (.inl x2), some (.inl x3), some (.inl (((3 : Int32) * x4) + (2 : Int32))), some (.inl (x5 + (-1 : Int32))), none] [] σ) ∧ (¬ (x3 >>> (x5 &&& 31)) &&& 1 = 1 → Wk 11 [some (.inr (.inr (5, 0))), some (.inl x1), some (.inl x2), some (.inl x3), some (.inl (((3 : Int32) * x4) + (0 : Int32))), some (.inl (x5 + (-1 : Int32))), none] [] σ))))))))))))
set_option maxRecDepth 100000 in
theorem bk_X5_stateBehind_11 (Wk : sv_K) (Kr : Option sv_AV → sv_S → Prop) (x1 : Int32) (x2 : Int32) (x3 : Int32) (x4 : Int32) (x5 : Int32) (σ : sv_S) (h : F_X5_stateBehind_11 Wk Kr x1 x2 x3 x4 x5 σ) : sv_vc tb_X5_stateBehind T_X5_stateBehind sv_all (some .int) Kr [(11, [true, true, true, true, true, true, false])] Wk 500 11 [some (.inr (.inr (5, 0))), some (.inl x1), some (.inl x2), some (.inl x3), some (.inl x4), some (.inl x5), none] [] σ := ⟨fun z10 => ((h).1 z10), fun z10 => (match ((h).2 z10) with | ⟨z1, e2, z9p, z9k⟩ => ⟨z1, e2, z9p, fun v3 z9y => ⟨fun z8 => (match (((z9k v3 z9y)).1 z8) with | ⟨z4a, z4b⟩ => ⟨fun z4y => sb_nt (by decide) (br_f (by decide) ((z4a z4y))), fun z4y => sb_nf (by decide) ((z4b z4y))⟩), fun z8 => ⟨((((z9k v3 z9y)).2 z8)).1, ⟨fun z7 => (match (((((((z9k v3 z9y)).2 z8)).2)).1 z7) with | ⟨z5a, z5b⟩ => ⟨fun z5y => sb_nt (by decide) (br_t (by decide) ((z5a z5y))), fun z5y => sb_nf (by decide) ((z5b z5y))⟩), fun z7 => (match (((((((z9k v3 z9y)).2 z8)).2)).2 z7) with | ⟨z6a, z6b⟩ => ⟨fun z6y => sb_nt (by decide) (br_f (by decide) ((z6a z6y))), fun z6y => sb_nf (by decide) ((z6b z6y))⟩)⟩⟩⟩⟩)⟩
set_option maxRecDepth 100000 in
theorem m_X5_stateBehind (l : Launch) (hb : ∀ (Wk : sv_K) (Kr : Option sv_AV → sv_S → Prop), (∀ (state : Int32) (p : Int32) (set : Int32) (σ : sv_S), F_X5_stateBehind_0 Wk Kr state p set σ → Wk 0 [some (.inr (.inr (5, 0))), some (.inl state), some (.inl p), some (.inl set), none, none, none] [] σ) → (∀ (x1 : Int32) (x2 : Int32) (x3 : Int32) (x4 : Int32) (x5 : Int32) (σ : sv_S), F_X5_stateBehind_11 Wk Kr x1 x2 x3 x4 x5 σ → Wk 11 [some (.inr (.inr (5, 0))), some (.inl x1), some (.inl x2), some (.inl x3), some (.inl x4), some (.inl x5), none] [] σ) → (∀ (state : Int32) (p : Int32) (set : Int32) (σ : sv_S), (∃ d : dD, ∃ z : Nat, ∃ q : Nat, ∃ c : Nat, (RM d σ ∧ (z < 3 ^ dT d ∧ state = nI z) ∧ (q < dP d ∧ p = nI q) ∧ (c < 2 ^ dT d ∧ set = nI c)) ∧ (∀ v : Int32, v = nI (snx d q z c) → Kr (some (.inl v)) σ)) → Wk 0 [some (.inr (.inr (5, 0))), some (.inl state), some (.inl p), some (.inl set), none, none, none] [] σ)) : sv_C l yX5_stateBehind cX5_stateBehind 7 (some .int) sv_all 1 23 sp_X5_stateBehind := by
  refine sv_meth sv_clok_all tb_X5_stateBehind T_X5_stateBehind (by decide) tbk_X5_stateBehind (Tok_X5_stateBehind l) ?_
  intro Wk Kr hc av σ hsp
  have hB := hb Wk Kr (fun state p set σ h => hc [(11, [true, true, true, true, true, true, false])] 500 0 _ _ _ (bk_X5_stateBehind_0 Wk Kr state p set σ h)) (fun x1 x2 x3 x4 x5 σ h => hc [(11, [true, true, true, true, true, true, false])] 500 11 _ _ _ (bk_X5_stateBehind_11 Wk Kr x1 x2 x3 x4 x5 σ h))
  unfold sp_X5_stateBehind at hsp
  split at hsp
  · exact ⟨⟨by simp, by simp [sv_cat]⟩, hB _ _ _ _ hsp⟩
  · exact hsp.elim
set_option maxHeartbeats 4000000 in
set_option maxRecDepth 100000 in
theorem c_X5_stateBehind (l : Launch) : sv_C l yX5_stateBehind cX5_stateBehind 7 (some .int) sv_all 1 23 sp_X5_stateBehind := by
  refine m_X5_stateBehind l ?_
  intro Wk Kr e0 e11 state p set σ ⟨d, z, q, c, ⟨hR, ⟨hz, hs⟩, ⟨hq, hp⟩, hc, hset⟩, h⟩
  subst hs
  subst hp
  subst hset
  have hT := hR.1.2.1
  have hP := hR.1.1
  have h32 := two_pow_le hR.1
  have h243 := three_le hR.1
  have key : ∀ n w, n ≤ dT d → w * 3 ^ n + sm (fun t => dgB d q z c t * 3 ^ t) n = snx d q z c → Wk 11 [some (.inr (.inr (5, 0))), some (.inl (nI z)), some (.inl (nI q)), some (.inl (nI c)), some (.inl (nI w)), some (.inl (nI n - 1)), none] [] σ := by
    intro n
    induction n with
    | zero =>
      intro w hn hw
      apply e11
      have e : w * 3 ^ 0 + 0 = snx d q z c := hw
      rw [Nat.pow_zero, Nat.mul_one, Nat.add_zero] at e
      exact br_t (by decide) (h _ (by rw [e]))
    | succ n ih =>
      intro w hn hw
      apply e11
      unfold F_X5_stateBehind_11
      rw [nI_pred n, pk_m1' n, ix10, nI_clamp (by omega), hR.2.2.2.2.2.2.2.1 n q (by omega) hq]
      have hlt : ¬ nI n < 0 := by
        rw [show (0 : Int32) = nI 0 from rfl, nI_ltI (by omega) (by omega)]
        omega
      refine br_f hlt ⟨z, n, ⟨⟨by omega, rfl⟩, by omega, rfl⟩, fun v3 h3 => ?_⟩
      subst h3
      have hdg : dg n z < 3 := Nat.mod_lt _ (by omega)
      have go : ∀ x, x = dgB d q z c n → Wk 11 [some (.inr (.inr (5, 0))), some (.inl (nI z)), some (.inl (nI q)), some (.inl (nI c)), some (.inl ((3 : Int32) * nI w + nI x)), some (.inl (nI n - 1)), none] [] σ := by
        intro x hx
        rw [show (3 : Int32) = nI 3 from rfl, pk_mul, nI_add]
        refine ih (3 * w + x) (by omega) ?_
        rw [← hw, hx]
        show (3 * w + dgB d q z c n) * 3 ^ n + sm (fun t => dgB d q z c t * 3 ^ t) n = w * 3 ^ (n + 1) + (sm (fun t => dgB d q z c t * 3 ^ t) n + dgB d q z c n * 3 ^ n)
        rw [Nat.pow_succ, Nat.add_mul, Nat.mul_comm (3 ^ n) 3, ← Nat.mul_assoc w, Nat.mul_comm w 3]
        omega
      have bt := bit_sh c (by omega) n (by omega)
      refine pk_eq (dg n z) 2 (fun y => ⟨fun x => go 2 ?_, fun x => go 0 ?_⟩) (fun y => ⟨pk_in (10 * n + q) 50 (by omega), pk_le (dw d n q) 0 (fun x => ⟨fun v => go 1 ?_, fun v => go 0 ?_⟩) (fun x => ⟨fun v => go 2 ?_, fun v => go 0 ?_⟩) rfl rfl (by have := hR.1.2.2.2.2.1 n q (by omega) hq; omega)⟩)
      · unfold dgB
        rw [if_pos (bt.mp x), if_pos (Or.inl y)]
      · unfold dgB
        rw [if_neg (fun u => x (bt.mpr u))]
      · unfold dgB
        rw [if_pos (bt.mp v), if_neg (fun u => u.elim y (fun t => by omega))]
      · unfold dgB
        rw [if_neg (fun u => v (bt.mpr u))]
      · unfold dgB
        rw [if_pos (bt.mp v), if_pos (Or.inr x)]
      · unfold dgB
        rw [if_neg (fun u => v (bt.mpr u))]
  apply e0
  unfold F_X5_stateBehind_0
  rw [hR.2.2.2.1]
  refine key (dT d) 0 (Nat.le_refl _) ?_
  rw [Nat.zero_mul, Nat.zero_add]
  exact snx_sm hR.1 q hz hc
-- ==== X5_fetched
def sp_X5_fetched : sv_P := fun av σ K => match av with
  | [.inr (.inr (5, 0)), .inl state, .inl set] => ∃ d : dD, ∃ z : Nat, ∃ c : Nat, (RM d σ ∧ (z < 3 ^ dT d ∧ state = nI z) ∧ (c < 2 ^ dT d ∧ set = nI c)) ∧ (∀ v : Int32, v = nI (carry d (nd c (sIn z))) → K (some (.inl v)) σ)
  | _ => False
def tb_X5_fetched : List (Nat × (Instr × Nat)) := [(0, (.iconst 0, 1)), (1, (.istore_n 3, 1)), (2, (.iconst 0, 1)), (3, (.istore 4, 2)), (5, (.iload 4, 2)), (7, (.aload_n 0, 1)), (8, (.getfield 54, 3)), (11, (.if_icmp .ge 40, 3)), (14, (.iload_n 3, 1)), (15, (.iload_n 2, 1)), (16, (.iload 4, 2)), (18, (.invokestatic 78, 3)), (21, (.ifCond .eq 21, 3)), (24, (.iload_n 1, 1)), (25, (.iload 4, 2)), (27, (.invokestatic 81, 3)), (30, (.ifCond .ne 12, 3)), (33, (.aload_n 0, 1)), (34, (.iload 4, 2)), (36, (.invokevirtual 85, 3)), (39, (.goto 4, 3)), (42, (.iconst 0, 1)), (43, (.iadd, 1)), (44, (.istore_n 3, 1)), (45, (.iinc 4 1, 3)), (48, (.goto (-43), 3)), (51, (.iload_n 3, 1)), (52, (.ireturn, 1))]
set_option maxRecDepth 100000 in
theorem tbk_X5_fetched : sv_tbok cX5_fetched tb_X5_fetched = true := by decide +kernel
def cal_X5_fetched : List (Nat × (Nat × Nat × sv_P)) := [(78, (2, 90, sp_X5_has)), (81, (2, 90, sp_X5_stateAt)), (85, (2, 5, sp_X5_carryOf))]
def T_X5_fetched : sv_T := (flX5, sfX5, kcX5, klX5, cal_X5_fetched)
set_option maxRecDepth 100000 in
theorem Tok_X5_fetched (l : Launch) : sv_Tok l RX5 sv_all 1 23 T_X5_fetched := ⟨flokX5, sfokX5, kcokX5, klokX5, List.forall_mem_cons.mpr ⟨⟨fun h => absurd h (by decide), fun _ => sv_COs_gen (c_X5_has l) (Or.inl (sv_mem 701 (by decide +kernel) rfl)) kw_X5_has.1 kw_X5_has.2.1 kw_X5_has.2.2 kd_X5_has rfl (by decide) (by decide +kernel)⟩, List.forall_mem_cons.mpr ⟨⟨fun h => absurd h (by decide), fun _ => sv_COs_gen (c_X5_stateAt l) (Or.inl (sv_mem 704 (by decide +kernel) rfl)) kw_X5_stateAt.1 kw_X5_stateAt.2.1 kw_X5_stateAt.2.2 kd_X5_stateAt rfl (by decide) (by decide +kernel)⟩, List.forall_mem_cons.mpr ⟨⟨fun _ => sv_COv_of (c_X5_carryOf l) sv_clok_all (sv_mem 707 (by decide +kernel) rfl) kw_X5_carryOf.1 kw_X5_carryOf.2.1 kw_X5_carryOf.2.2.1 kw_X5_carryOf.2.2.2 kd_X5_carryOf rfl (by decide) (by decide +kernel) rfl (by decide), fun h => absurd h (by decide)⟩, fun _ h => absurd h List.not_mem_nil⟩⟩⟩⟩
theorem kw_X5_fetched : Cond.instanceMethod yX5_fetched ∈ sv_tb ∧ Cond.selects yX5_fetched.cls yX5_fetched yX5_fetched ∈ sv_tb ∧ Cond.initialized yX5_fetched.cls ∈ sv_tb ∧ Cond.code yX5_fetched cX5_fetched 5 (some .int) ∈ sv_tb := ⟨sv_mem 726 (by decide +kernel) rfl, sv_mem 28 (by decide +kernel) rfl, sv_mem 56 (by decide +kernel) rfl, sv_mem 727 (by decide +kernel) rfl⟩
theorem kd_X5_fetched : yX5_fetched.cls ≠ "java/lang/invoke/MethodHandle" ∧ yX5_fetched.cls ≠ "java/lang/invoke/VarHandle" ∧ (parseMethodDescriptor yX5_fetched.desc).map (fun d => d.parameters.length) = some 2 := by decide +kernel
def F_X5_fetched_0 (Wk : sv_K) (Kr : Option sv_AV → sv_S → Prop) (state : Int32) (set : Int32) (σ : sv_S) : Prop := Wk 5 [some (.inr (.inr (5, 0))), some (.inl state), some (.inl set), some (.inl (0 : Int32)), some (.inl (0 : Int32))] [] σ
set_option maxRecDepth 100000 in
theorem bk_X5_fetched_0 (Wk : sv_K) (Kr : Option sv_AV → sv_S → Prop) (state : Int32) (set : Int32) (σ : sv_S) (h : F_X5_fetched_0 Wk Kr state set σ) : sv_vc tb_X5_fetched T_X5_fetched sv_all (some .int) Kr [(5, [true, true, true, true, true])] Wk 500 0 [some (.inr (.inr (5, 0))), some (.inl state), some (.inl set), none, none] [] σ := h
def F_X5_fetched_5 (Wk : sv_K) (Kr : Option sv_AV → sv_S → Prop) (x1 : Int32) (x2 : Int32) (x3 : Int32) (x4 : Int32) (σ : sv_S) : Prop := (((sv_gA σ 5 0 1) ≤ x4 → Kr (some (.inl x3)) σ) ∧ (¬ (sv_gA σ 5 0 1) ≤ x4 → ((((x2 >>> (x4 &&& 31)) &&& 1 = 1 → (∃ z1 : Nat, ∃ e2 : Nat, ((z1 < 243 ∧ x1 = nI z1) ∧ (e2 < 5 ∧ x4 = nI e2)) ∧ (∀ v3 : Int32, v3 = nI (dg e2 z1) → ((¬ v3 = (0 : Int32) → Wk 5 [some (.inr (.inr (5, 0))), some (.inl x1), some (.inl x2), some (.inl (x3 + (0 : Int32))), some (.inl (x4 + (1 : Int32)))] [] σ) ∧ (v3 = (0 : Int32) → (∃ d4 : dD, ∃ e5 : Nat, (RM d4 σ ∧ (e5 < dT d4 ∧ x4 = nI e5)) ∧ (∀ v6 : Int32, v6 = nI (dS d4 3 * dZ d4 e5) → Wk 5 [some (.inr (.inr (5, 0))), some (.inl x1), some (.inl x2), some (.inl (x3 + v6)), some (.inl (x4 + (1 : Int32)))] [] σ))))))) ∧ (¬ (x2 >>> (x4 &&& 31)) &&& 1 = 1 → Wk 5 [some (.inr (.inr (5, 0))), some (.inl x1), some (.inl x2), some (.inl (x3 + (0 : Int32))), some (.inl (x4 + (1 : Int32)))] [] σ)))))
set_option maxRecDepth 100000 in
theorem bk_X5_fetched_5 (Wk : sv_K) (Kr : Option sv_AV → sv_S → Prop) (x1 : Int32) (x2 : Int32) (x3 : Int32) (x4 : Int32) (σ : sv_S) (h : F_X5_fetched_5 Wk Kr x1 x2 x3 x4 σ) : sv_vc tb_X5_fetched T_X5_fetched sv_all (some .int) Kr [(5, [true, true, true, true, true])] Wk 500 5 [some (.inr (.inr (5, 0))), some (.inl x1), some (.inl x2), some (.inl x3), some (.inl x4)] [] σ := ⟨fun z8 => ((h).1 z8), fun z8 => (match ((h).2 z8) with | ⟨z7a, z7b⟩ => ⟨fun z7y => br_f (by decide) ((z7a z7y)), fun z7y => br_t (by decide) ((z7b z7y))⟩)⟩
set_option maxRecDepth 100000 in
theorem m_X5_fetched (l : Launch) (hb : ∀ (Wk : sv_K) (Kr : Option sv_AV → sv_S → Prop), (∀ (state : Int32) (set : Int32) (σ : sv_S), F_X5_fetched_0 Wk Kr state set σ → Wk 0 [some (.inr (.inr (5, 0))), some (.inl state), some (.inl set), none, none] [] σ) → (∀ (x1 : Int32) (x2 : Int32) (x3 : Int32) (x4 : Int32) (σ : sv_S), F_X5_fetched_5 Wk Kr x1 x2 x3 x4 σ → Wk 5 [some (.inr (.inr (5, 0))), some (.inl x1), some (.inl x2), some (.inl x3), some (.inl x4)] [] σ) → (∀ (state : Int32) (set : Int32) (σ : sv_S), (∃ d : dD, ∃ z : Nat, ∃ c : Nat, (RM d σ ∧ (z < 3 ^ dT d ∧ state = nI z) ∧ (c < 2 ^ dT d ∧ set = nI c)) ∧ (∀ v : Int32, v = nI (carry d (nd c (sIn z))) → Kr (some (.inl v)) σ)) → Wk 0 [some (.inr (.inr (5, 0))), some (.inl state), some (.inl set), none, none] [] σ)) : sv_C l yX5_fetched cX5_fetched 5 (some .int) sv_all 1 23 sp_X5_fetched := by
  refine sv_meth sv_clok_all tb_X5_fetched T_X5_fetched (by decide) tbk_X5_fetched (Tok_X5_fetched l) ?_
  intro Wk Kr hc av σ hsp
  have hB := hb Wk Kr (fun state set σ h => hc [(5, [true, true, true, true, true])] 500 0 _ _ _ (bk_X5_fetched_0 Wk Kr state set σ h)) (fun x1 x2 x3 x4 σ h => hc [(5, [true, true, true, true, true])] 500 5 _ _ _ (bk_X5_fetched_5 Wk Kr x1 x2 x3 x4 σ h))
  unfold sp_X5_fetched at hsp
  split at hsp
  · exact ⟨⟨by simp, by simp [sv_cat]⟩, hB _ _ _ hsp⟩
  · exact hsp.elim
set_option maxHeartbeats 4000000 in
set_option maxRecDepth 100000 in
theorem c_X5_fetched (l : Launch) : sv_C l yX5_fetched cX5_fetched 5 (some .int) sv_all 1 23 sp_X5_fetched := by
  refine m_X5_fetched l ?_
  intro Wk Kr e0 e5 state set σ ⟨d, z, c, ⟨hR, ⟨hz, hs⟩, hc, hset⟩, h⟩
  subst hs
  subst hset
  have hT := hR.1.2.1
  have h32 := two_pow_le hR.1
  have h243 := three_le hR.1
  have hI := (sIn_lt (dT d) (by omega) z hz).1
  suffices key : ∀ n, n ≤ dT d → Wk 5 [some (.inr (.inr (5, 0))), some (.inl (nI z)), some (.inl (nI c)), some (.inl (nI (sm (fun t => if (nd c (sIn z)).testBit t then dS d 3 * dZ d t else 0) n))), some (.inl (nI n))] [] σ from e0 _ _ _ (key 0 (by omega))
  refine lpN (fun n hn ih => ?_)
  apply e5
  unfold F_X5_fetched_5
  rw [hR.2.2.2.1, nI_1]
  refine pk_le (dT d) n (fun y => h _ ?_) (fun y => ?_)
  · rw [carry_sm, show n = dT d by omega]
  · have ih := ih y
    have e : sm (fun t => if (nd c (sIn z)).testBit t then dS d 3 * dZ d t else 0) (n + 1) = sm (fun t => if (nd c (sIn z)).testBit t then dS d 3 * dZ d t else 0) n + (if (nd c (sIn z)).testBit n then dS d 3 * dZ d n else 0) := rfl
    rw [e] at ih
    have b := nd_bit c (by omega) (sIn z) (by omega) n (by omega)
    rw [sIn_bit z (by omega) n (by omega)] at b
    have bt := bit_sh c (by omega) n (by omega)
    have hdg : dg n z < 3 := Nat.mod_lt _ (by omega)
    have skip : ¬ (nd c (sIn z)).testBit n = true → Wk 5 [some (.inr (.inr (5, 0))), some (.inl (nI z)), some (.inl (nI c)), some (.inl (nI (sm (fun t => if (nd c (sIn z)).testBit t then dS d 3 * dZ d t else 0) n) + (0 : Int32))), some (.inl (nI (n + 1)))] [] σ := by
      intro x
      rw [if_neg x] at ih
      rw [show (0 : Int32) = nI 0 from rfl, nI_add]
      exact ih
    refine ⟨fun x => ⟨z, n, ⟨⟨by omega, rfl⟩, by omega, rfl⟩, fun v3 h3 => ?_⟩, fun x => skip (fun w => x (bt.mpr (b.mp w).1))⟩
    subst h3
    refine ⟨fun w => skip (fun v => (b.mp v).2 (fun u => w (by rw [u]; rfl))), fun w => ⟨d, n, ⟨hR, y, rfl⟩, fun v6 h6 => ?_⟩⟩
    subst h6
    have w0 : dg n z = 0 := (nI_eq (by omega) (by omega)).mp (show nI (dg n z) = nI 0 from w)
    rw [if_pos (b.mpr ⟨bt.mp x, fun u => u w0⟩)] at ih
    rw [nI_add]
    exact ih
-- ==== X5_returned
def sp_X5_returned : sv_P := fun av σ K => match av with
  | [.inr (.inr (5, 0)), .inl state, .inl set] => ∃ d : dD, ∃ z : Nat, ∃ c : Nat, (RM d σ ∧ (z < 3 ^ dT d ∧ state = nI z) ∧ (c < 2 ^ dT d ∧ set = nI c)) ∧ (∀ v : Int32, v = nI (carry d (nd (sDi z) c)) → K (some (.inl v)) σ)
  | _ => False
def tb_X5_returned : List (Nat × (Instr × Nat)) := [(0, (.iconst 0, 1)), (1, (.istore_n 3, 1)), (2, (.iconst 0, 1)), (3, (.istore 4, 2)), (5, (.iload 4, 2)), (7, (.aload_n 0, 1)), (8, (.getfield 54, 3)), (11, (.if_icmp .ge 41, 3)), (14, (.iload_n 3, 1)), (15, (.iload_n 2, 1)), (16, (.iload 4, 2)), (18, (.invokestatic 78, 3)), (21, (.ifCond .ne 22, 3)), (24, (.iload_n 1, 1)), (25, (.iload 4, 2)), (27, (.invokestatic 81, 3)), (30, (.iconst 2, 1)), (31, (.if_icmp .ne 12, 3)), (34, (.aload_n 0, 1)), (35, (.iload 4, 2)), (37, (.invokevirtual 85, 3)), (40, (.goto 4, 3)), (43, (.iconst 0, 1)), (44, (.iadd, 1)), (45, (.istore_n 3, 1)), (46, (.iinc 4 1, 3)), (49, (.goto (-44), 3)), (52, (.iload_n 3, 1)), (53, (.ireturn, 1))]
set_option maxRecDepth 100000 in
theorem tbk_X5_returned : sv_tbok cX5_returned tb_X5_returned = true := by decide +kernel
def cal_X5_returned : List (Nat × (Nat × Nat × sv_P)) := [(78, (2, 90, sp_X5_has)), (81, (2, 90, sp_X5_stateAt)), (85, (2, 5, sp_X5_carryOf))]
def T_X5_returned : sv_T := (flX5, sfX5, kcX5, klX5, cal_X5_returned)
set_option maxRecDepth 100000 in
theorem Tok_X5_returned (l : Launch) : sv_Tok l RX5 sv_all 1 23 T_X5_returned := ⟨flokX5, sfokX5, kcokX5, klokX5, List.forall_mem_cons.mpr ⟨⟨fun h => absurd h (by decide), fun _ => sv_COs_gen (c_X5_has l) (Or.inl (sv_mem 701 (by decide +kernel) rfl)) kw_X5_has.1 kw_X5_has.2.1 kw_X5_has.2.2 kd_X5_has rfl (by decide) (by decide +kernel)⟩, List.forall_mem_cons.mpr ⟨⟨fun h => absurd h (by decide), fun _ => sv_COs_gen (c_X5_stateAt l) (Or.inl (sv_mem 704 (by decide +kernel) rfl)) kw_X5_stateAt.1 kw_X5_stateAt.2.1 kw_X5_stateAt.2.2 kd_X5_stateAt rfl (by decide) (by decide +kernel)⟩, List.forall_mem_cons.mpr ⟨⟨fun _ => sv_COv_of (c_X5_carryOf l) sv_clok_all (sv_mem 707 (by decide +kernel) rfl) kw_X5_carryOf.1 kw_X5_carryOf.2.1 kw_X5_carryOf.2.2.1 kw_X5_carryOf.2.2.2 kd_X5_carryOf rfl (by decide) (by decide +kernel) rfl (by decide), fun h => absurd h (by decide)⟩, fun _ h => absurd h List.not_mem_nil⟩⟩⟩⟩
theorem kw_X5_returned : Cond.instanceMethod yX5_returned ∈ sv_tb ∧ Cond.selects yX5_returned.cls yX5_returned yX5_returned ∈ sv_tb ∧ Cond.initialized yX5_returned.cls ∈ sv_tb ∧ Cond.code yX5_returned cX5_returned 5 (some .int) ∈ sv_tb := ⟨sv_mem 699 (by decide +kernel) rfl, sv_mem 23 (by decide +kernel) rfl, sv_mem 56 (by decide +kernel) rfl, sv_mem 700 (by decide +kernel) rfl⟩
theorem kd_X5_returned : yX5_returned.cls ≠ "java/lang/invoke/MethodHandle" ∧ yX5_returned.cls ≠ "java/lang/invoke/VarHandle" ∧ (parseMethodDescriptor yX5_returned.desc).map (fun d => d.parameters.length) = some 2 := by decide +kernel
def F_X5_returned_0 (Wk : sv_K) (Kr : Option sv_AV → sv_S → Prop) (state : Int32) (set : Int32) (σ : sv_S) : Prop := Wk 5 [some (.inr (.inr (5, 0))), some (.inl state), some (.inl set), some (.inl (0 : Int32)), some (.inl (0 : Int32))] [] σ
set_option maxRecDepth 100000 in
theorem bk_X5_returned_0 (Wk : sv_K) (Kr : Option sv_AV → sv_S → Prop) (state : Int32) (set : Int32) (σ : sv_S) (h : F_X5_returned_0 Wk Kr state set σ) : sv_vc tb_X5_returned T_X5_returned sv_all (some .int) Kr [(5, [true, true, true, true, true])] Wk 500 0 [some (.inr (.inr (5, 0))), some (.inl state), some (.inl set), none, none] [] σ := h
def F_X5_returned_5 (Wk : sv_K) (Kr : Option sv_AV → sv_S → Prop) (x1 : Int32) (x2 : Int32) (x3 : Int32) (x4 : Int32) (σ : sv_S) : Prop := (((sv_gA σ 5 0 1) ≤ x4 → Kr (some (.inl x3)) σ) ∧ (¬ (sv_gA σ 5 0 1) ≤ x4 → ((((x2 >>> (x4 &&& 31)) &&& 1 = 1 → Wk 5 [some (.inr (.inr (5, 0))), some (.inl x1), some (.inl x2), some (.inl (x3 + (0 : Int32))), some (.inl (x4 + (1 : Int32)))] [] σ) ∧ (¬ (x2 >>> (x4 &&& 31)) &&& 1 = 1 → (∃ z1 : Nat, ∃ e2 : Nat, ((z1 < 243 ∧ x1 = nI z1) ∧ (e2 < 5 ∧ x4 = nI e2)) ∧ (∀ v3 : Int32, v3 = nI (dg e2 z1) → ((¬ v3 = (2 : Int32) → Wk 5 [some (.inr (.inr (5, 0))), some (.inl x1), some (.inl x2), some (.inl (x3 + (0 : Int32))), some (.inl (x4 + (1 : Int32)))] [] σ) ∧ (v3 = (2 : Int32) → (∃ d4 : dD, ∃ e5 : Nat, (RM d4 σ ∧ (e5 < dT d4 ∧ x4 = nI e5)) ∧ (∀ v6 : Int32, v6 = nI (dS d4 3 * dZ d4 e5) → Wk 5 [some (.inr (.inr (5, 0))), some (.inl x1), some (.inl x2), some (.inl (x3 + v6)), some (.inl (x4 + (1 : Int32)))] [] σ)))))))))))
set_option maxRecDepth 100000 in
theorem bk_X5_returned_5 (Wk : sv_K) (Kr : Option sv_AV → sv_S → Prop) (x1 : Int32) (x2 : Int32) (x3 : Int32) (x4 : Int32) (σ : sv_S) (h : F_X5_returned_5 Wk Kr x1 x2 x3 x4 σ) : sv_vc tb_X5_returned T_X5_returned sv_all (some .int) Kr [(5, [true, true, true, true, true])] Wk 500 5 [some (.inr (.inr (5, 0))), some (.inl x1), some (.inl x2), some (.inl x3), some (.inl x4)] [] σ := ⟨fun z8 => ((h).1 z8), fun z8 => (match ((h).2 z8) with | ⟨z7a, z7b⟩ => ⟨fun z7y => sb_nt (by decide) ((z7a z7y)), fun z7y => sb_nf (by decide) ((z7b z7y))⟩)⟩
set_option maxRecDepth 100000 in
theorem m_X5_returned (l : Launch) (hb : ∀ (Wk : sv_K) (Kr : Option sv_AV → sv_S → Prop), (∀ (state : Int32) (set : Int32) (σ : sv_S), F_X5_returned_0 Wk Kr state set σ → Wk 0 [some (.inr (.inr (5, 0))), some (.inl state), some (.inl set), none, none] [] σ) → (∀ (x1 : Int32) (x2 : Int32) (x3 : Int32) (x4 : Int32) (σ : sv_S), F_X5_returned_5 Wk Kr x1 x2 x3 x4 σ → Wk 5 [some (.inr (.inr (5, 0))), some (.inl x1), some (.inl x2), some (.inl x3), some (.inl x4)] [] σ) → (∀ (state : Int32) (set : Int32) (σ : sv_S), (∃ d : dD, ∃ z : Nat, ∃ c : Nat, (RM d σ ∧ (z < 3 ^ dT d ∧ state = nI z) ∧ (c < 2 ^ dT d ∧ set = nI c)) ∧ (∀ v : Int32, v = nI (carry d (nd (sDi z) c)) → Kr (some (.inl v)) σ)) → Wk 0 [some (.inr (.inr (5, 0))), some (.inl state), some (.inl set), none, none] [] σ)) : sv_C l yX5_returned cX5_returned 5 (some .int) sv_all 1 23 sp_X5_returned := by
  refine sv_meth sv_clok_all tb_X5_returned T_X5_returned (by decide) tbk_X5_returned (Tok_X5_returned l) ?_
  intro Wk Kr hc av σ hsp
  have hB := hb Wk Kr (fun state set σ h => hc [(5, [true, true, true, true, true])] 500 0 _ _ _ (bk_X5_returned_0 Wk Kr state set σ h)) (fun x1 x2 x3 x4 σ h => hc [(5, [true, true, true, true, true])] 500 5 _ _ _ (bk_X5_returned_5 Wk Kr x1 x2 x3 x4 σ h))
  unfold sp_X5_returned at hsp
  split at hsp
  · exact ⟨⟨by simp, by simp [sv_cat]⟩, hB _ _ _ hsp⟩
  · exact hsp.elim
set_option maxHeartbeats 4000000 in
set_option maxRecDepth 100000 in
theorem c_X5_returned (l : Launch) : sv_C l yX5_returned cX5_returned 5 (some .int) sv_all 1 23 sp_X5_returned := by
  refine m_X5_returned l ?_
  intro Wk Kr e0 e5 state set σ ⟨d, z, c, ⟨hR, ⟨hz, hs⟩, hc, hset⟩, h⟩
  subst hs
  subst hset
  have hT := hR.1.2.1
  have h32 := two_pow_le hR.1
  have h243 := three_le hR.1
  have hI := (sIn_lt (dT d) (by omega) z hz).2.1
  suffices key : ∀ n, n ≤ dT d → Wk 5 [some (.inr (.inr (5, 0))), some (.inl (nI z)), some (.inl (nI c)), some (.inl (nI (sm (fun t => if (nd (sDi z) c).testBit t then dS d 3 * dZ d t else 0) n))), some (.inl (nI n))] [] σ from e0 _ _ _ (key 0 (by omega))
  refine lpN (fun n hn ih => ?_)
  apply e5
  unfold F_X5_returned_5
  rw [hR.2.2.2.1, nI_1]
  refine pk_le (dT d) n (fun y => h _ ?_) (fun y => ?_)
  · rw [carry_sm, show n = dT d by omega]
  · have ih := ih y
    have e : sm (fun t => if (nd (sDi z) c).testBit t then dS d 3 * dZ d t else 0) (n + 1) = sm (fun t => if (nd (sDi z) c).testBit t then dS d 3 * dZ d t else 0) n + (if (nd (sDi z) c).testBit n then dS d 3 * dZ d n else 0) := rfl
    rw [e] at ih
    have b := nd_bit (sDi z) (by omega) c (by omega) n (by omega)
    rw [sDi_bit z (by omega) n (by omega)] at b
    have bt := bit_sh c (by omega) n (by omega)
    have hdg : dg n z < 3 := Nat.mod_lt _ (by omega)
    have skip : ¬ (nd (sDi z) c).testBit n = true → Wk 5 [some (.inr (.inr (5, 0))), some (.inl (nI z)), some (.inl (nI c)), some (.inl (nI (sm (fun t => if (nd (sDi z) c).testBit t then dS d 3 * dZ d t else 0) n) + (0 : Int32))), some (.inl (nI (n + 1)))] [] σ := by
      intro x
      rw [if_neg x] at ih
      rw [show (0 : Int32) = nI 0 from rfl, nI_add]
      exact ih
    refine ⟨fun x => skip (fun w => (b.mp w).2 (bt.mp x)), fun x => ⟨z, n, ⟨⟨by omega, rfl⟩, by omega, rfl⟩, fun v3 h3 => ?_⟩⟩
    subst h3
    refine ⟨fun w => skip (fun v => w (by rw [(b.mp v).1]; rfl)), fun w => ⟨d, n, ⟨hR, y, rfl⟩, fun v6 h6 => ?_⟩⟩
    subst h6
    have w0 : dg n z = 2 := (nI_eq (by omega) (by omega)).mp (show nI (dg n z) = nI 2 from w)
    rw [if_pos (b.mpr ⟨w0, fun u => x (bt.mpr u)⟩)] at ih
    rw [nI_add]
    exact ih
-- ==== X5_statesNow
def sp_X5_statesNow : sv_P := fun av σ K => match av with
  | [.inr (.inr (5, 0))] => ∃ d : dD, (RM d σ) ∧ (∀ v : Int32, v = nI (3 ^ dT d) → K (some (.inl v)) σ)
  | _ => False
def tb_X5_statesNow : List (Nat × (Instr × Nat)) := [(0, (.iconst 1, 1)), (1, (.istore_n 1, 1)), (2, (.iconst 0, 1)), (3, (.istore_n 2, 1)), (4, (.iload_n 2, 1)), (5, (.aload_n 0, 1)), (6, (.getfield 54, 3)), (9, (.if_icmp .ge 13, 3)), (12, (.iload_n 1, 1)), (13, (.iconst 3, 1)), (14, (.imul, 1)), (15, (.istore_n 1, 1)), (16, (.iinc 2 1, 3)), (19, (.goto (-15), 3)), (22, (.iload_n 1, 1)), (23, (.ireturn, 1))]
set_option maxRecDepth 100000 in
theorem tbk_X5_statesNow : sv_tbok cX5_statesNow tb_X5_statesNow = true := by decide +kernel
def cal_X5_statesNow : List (Nat × (Nat × Nat × sv_P)) := []
def T_X5_statesNow : sv_T := (flX5, sfX5, kcX5, klX5, cal_X5_statesNow)
set_option maxRecDepth 100000 in
theorem Tok_X5_statesNow (l : Launch) : sv_Tok l RX5 sv_all 0 0 T_X5_statesNow := ⟨flokX5, sfokX5, kcokX5, klokX5, fun _ h => absurd h List.not_mem_nil⟩
theorem kw_X5_statesNow : Cond.instanceMethod yX5_statesNow ∈ sv_tb ∧ Cond.selects yX5_statesNow.cls yX5_statesNow yX5_statesNow ∈ sv_tb ∧ Cond.initialized yX5_statesNow.cls ∈ sv_tb ∧ Cond.code yX5_statesNow cX5_statesNow 3 (some .int) ∈ sv_tb := ⟨sv_mem 695 (by decide +kernel) rfl, sv_mem 22 (by decide +kernel) rfl, sv_mem 56 (by decide +kernel) rfl, sv_mem 696 (by decide +kernel) rfl⟩
theorem kd_X5_statesNow : yX5_statesNow.cls ≠ "java/lang/invoke/MethodHandle" ∧ yX5_statesNow.cls ≠ "java/lang/invoke/VarHandle" ∧ (parseMethodDescriptor yX5_statesNow.desc).map (fun d => d.parameters.length) = some 0 := by decide +kernel
def F_X5_statesNow_0 (Wk : sv_K) (Kr : Option sv_AV → sv_S → Prop)  (σ : sv_S) : Prop := Wk 4 [some (.inr (.inr (5, 0))), some (.inl (1 : Int32)), some (.inl (0 : Int32))] [] σ
set_option maxRecDepth 100000 in
theorem bk_X5_statesNow_0 (Wk : sv_K) (Kr : Option sv_AV → sv_S → Prop)  (σ : sv_S) (h : F_X5_statesNow_0 Wk Kr  σ) : sv_vc tb_X5_statesNow T_X5_statesNow sv_all (some .int) Kr [(4, [true, true, true])] Wk 500 0 [some (.inr (.inr (5, 0))), none, none] [] σ := h
def F_X5_statesNow_4 (Wk : sv_K) (Kr : Option sv_AV → sv_S → Prop) (x1 : Int32) (x2 : Int32) (σ : sv_S) : Prop := (((sv_gA σ 5 0 1) ≤ x2 → Kr (some (.inl x1)) σ) ∧ (¬ (sv_gA σ 5 0 1) ≤ x2 → Wk 4 [some (.inr (.inr (5, 0))), some (.inl (x1 * (3 : Int32))), some (.inl (x2 + (1 : Int32)))] [] σ))
set_option maxRecDepth 100000 in
theorem bk_X5_statesNow_4 (Wk : sv_K) (Kr : Option sv_AV → sv_S → Prop) (x1 : Int32) (x2 : Int32) (σ : sv_S) (h : F_X5_statesNow_4 Wk Kr x1 x2 σ) : sv_vc tb_X5_statesNow T_X5_statesNow sv_all (some .int) Kr [(4, [true, true, true])] Wk 500 4 [some (.inr (.inr (5, 0))), some (.inl x1), some (.inl x2)] [] σ := h
set_option maxRecDepth 100000 in
theorem m_X5_statesNow (l : Launch) (hb : ∀ (Wk : sv_K) (Kr : Option sv_AV → sv_S → Prop), (∀  (σ : sv_S), F_X5_statesNow_0 Wk Kr  σ → Wk 0 [some (.inr (.inr (5, 0))), none, none] [] σ) → (∀ (x1 : Int32) (x2 : Int32) (σ : sv_S), F_X5_statesNow_4 Wk Kr x1 x2 σ → Wk 4 [some (.inr (.inr (5, 0))), some (.inl x1), some (.inl x2)] [] σ) → (∀  (σ : sv_S), (∃ d : dD, (RM d σ) ∧ (∀ v : Int32, v = nI (3 ^ dT d) → Kr (some (.inl v)) σ)) → Wk 0 [some (.inr (.inr (5, 0))), none, none] [] σ)) : sv_C l yX5_statesNow cX5_statesNow 3 (some .int) sv_all 0 0 sp_X5_statesNow := by
  refine sv_meth sv_clok_all tb_X5_statesNow T_X5_statesNow (by decide) tbk_X5_statesNow (Tok_X5_statesNow l) ?_
  intro Wk Kr hc av σ hsp
  have hB := hb Wk Kr (fun  σ h => hc [(4, [true, true, true])] 500 0 _ _ _ (bk_X5_statesNow_0 Wk Kr  σ h)) (fun x1 x2 σ h => hc [(4, [true, true, true])] 500 4 _ _ _ (bk_X5_statesNow_4 Wk Kr x1 x2 σ h))
  unfold sp_X5_statesNow at hsp
  split at hsp
  · exact ⟨⟨by simp, by simp [sv_cat]⟩, hB  _ hsp⟩
  · exact hsp.elim
set_option maxHeartbeats 4000000 in
set_option maxRecDepth 100000 in
theorem c_X5_statesNow (l : Launch) : sv_C l yX5_statesNow cX5_statesNow 3 (some .int) sv_all 0 0 sp_X5_statesNow := by
  refine m_X5_statesNow l ?_
  intro Wk Kr e0 e4 σ ⟨d, hR, h⟩
  have hT := hR.1.2.1
  suffices key : ∀ n, n ≤ dT d → Wk 4 [some (.inr (.inr (5, 0))), some (.inl (nI (3 ^ n))), some (.inl (nI n))] [] σ from e0 _ (key 0 (by omega))
  refine lpN (fun n hn ih => ?_)
  apply e4
  unfold F_X5_statesNow_4
  rw [hR.2.2.2.1, nI_1, show (3 : Int32) = nI 3 from rfl, pk_mul, ← Nat.pow_succ]
  exact pk_le (dT d) n (fun y => h _ (by rw [show n = dT d by omega])) (fun y => ih y)
-- ==== X5_costOf
def sp_X5_costOf : sv_P := fun av σ K => match av with
  | [.inr (.inr (5, 0)), .inl kind] => ∃ d : dD, ∃ k : Nat, ∃ f : Nat → Nat, (RM d σ ∧ (k < 2 ∧ kind = nI k) ∧ (∀ p, p < dP d → f p < 2 ^ dT d ∧ sv_gA σ 37 0 p = nI (f p))) ∧ (∀ v : Int32, v = nI (costL d f k) → K (some (.inl v)) σ)
  | _ => False
def tb_X5_costOf : List (Nat × (Instr × Nat)) := [(0, (.iconst 0, 1)), (1, (.istore_n 2, 1)), (2, (.iconst 0, 1)), (3, (.istore_n 3, 1)), (4, (.iconst 0, 1)), (5, (.istore 4, 2)), (7, (.iload 4, 2)), (9, (.aload_n 0, 1)), (10, (.getfield 46, 3)), (13, (.if_icmp .ge 67, 3)), (16, (.iload_n 2, 1)), (17, (.aload_n 0, 1)), (18, (.iload 4, 2)), (20, (.aload_n 0, 1)), (21, (.getfield 28, 3)), (24, (.iload 4, 2)), (26, (.iaload, 1)), (27, (.iload_n 1, 1)), (28, (.invokevirtual 89, 3)), (31, (.aload_n 0, 1)), (32, (.iload_n 3, 1)), (33, (.aload_n 0, 1)), (34, (.getfield 28, 3)), (37, (.iload 4, 2)), (39, (.iaload, 1)), (40, (.invokevirtual 93, 3)), (43, (.iadd, 1)), (44, (.aload_n 0, 1)), (45, (.iload_n 3, 1)), (46, (.aload_n 0, 1)), (47, (.getfield 28, 3)), (50, (.iload 4, 2)), (52, (.iaload, 1)), (53, (.invokevirtual 96, 3)), (56, (.iadd, 1)), (57, (.iadd, 1)), (58, (.istore_n 2, 1)), (59, (.aload_n 0, 1)), (60, (.iload_n 3, 1)), (61, (.iload 4, 2)), (63, (.aload_n 0, 1)), (64, (.getfield 28, 3)), (67, (.iload 4, 2)), (69, (.iaload, 1)), (70, (.invokevirtual 99, 3)), (73, (.istore_n 3, 1)), (74, (.iinc 4 1, 3)), (77, (.goto (-70), 3)), (80, (.iload_n 2, 1)), (81, (.aload_n 0, 1)), (82, (.iload_n 3, 1)), (83, (.iconst 0, 1)), (84, (.invokevirtual 96, 3)), (87, (.iadd, 1)), (88, (.ireturn, 1))]
set_option maxRecDepth 100000 in
theorem tbk_X5_costOf : sv_tbok cX5_costOf tb_X5_costOf = true := by decide +kernel
def cal_X5_costOf : List (Nat × (Nat × Nat × sv_P)) := [(89, (4, 5, sp_X5_workOf)), (93, (3, 5, sp_X5_fetched)), (96, (3, 5, sp_X5_returned)), (99, (4, 5, sp_X5_stateBehind))]
def T_X5_costOf : sv_T := (flX5, sfX5, kcX5, klX5, cal_X5_costOf)
set_option maxRecDepth 100000 in
theorem Tok_X5_costOf (l : Launch) : sv_Tok l RX5 sv_all 2 49 T_X5_costOf := ⟨flokX5, sfokX5, kcokX5, klokX5, List.forall_mem_cons.mpr ⟨⟨fun _ => sv_COv_of (c_X5_workOf l) sv_clok_all (sv_mem 720 (by decide +kernel) rfl) kw_X5_workOf.1 kw_X5_workOf.2.1 kw_X5_workOf.2.2.1 kw_X5_workOf.2.2.2 kd_X5_workOf rfl (by decide) (by decide +kernel) rfl (by decide), fun h => absurd h (by decide)⟩, List.forall_mem_cons.mpr ⟨⟨fun _ => sv_COv_of (c_X5_fetched l) sv_clok_all (sv_mem 724 (by decide +kernel) rfl) kw_X5_fetched.1 kw_X5_fetched.2.1 kw_X5_fetched.2.2.1 kw_X5_fetched.2.2.2 kd_X5_fetched rfl (by decide) (by decide +kernel) rfl (by decide), fun h => absurd h (by decide)⟩, List.forall_mem_cons.mpr ⟨⟨fun _ => sv_COv_of (c_X5_returned l) sv_clok_all (sv_mem 697 (by decide +kernel) rfl) kw_X5_returned.1 kw_X5_returned.2.1 kw_X5_returned.2.2.1 kw_X5_returned.2.2.2 kd_X5_returned rfl (by decide) (by decide +kernel) rfl (by decide), fun h => absurd h (by decide)⟩, List.forall_mem_cons.mpr ⟨⟨fun _ => sv_COv_of (c_X5_stateBehind l) sv_clok_all (sv_mem 728 (by decide +kernel) rfl) kw_X5_stateBehind.1 kw_X5_stateBehind.2.1 kw_X5_stateBehind.2.2.1 kw_X5_stateBehind.2.2.2 kd_X5_stateBehind rfl (by decide) (by decide +kernel) rfl (by decide), fun h => absurd h (by decide)⟩, fun _ h => absurd h List.not_mem_nil⟩⟩⟩⟩⟩
theorem kw_X5_costOf : Cond.instanceMethod yX5_costOf ∈ sv_tb ∧ Cond.selects yX5_costOf.cls yX5_costOf yX5_costOf ∈ sv_tb ∧ Cond.initialized yX5_costOf.cls ∈ sv_tb ∧ Cond.code yX5_costOf cX5_costOf 5 (some .int) ∈ sv_tb := ⟨sv_mem 742 (by decide +kernel) rfl, sv_mem 32 (by decide +kernel) rfl, sv_mem 56 (by decide +kernel) rfl, sv_mem 743 (by decide +kernel) rfl⟩
theorem kd_X5_costOf : yX5_costOf.cls ≠ "java/lang/invoke/MethodHandle" ∧ yX5_costOf.cls ≠ "java/lang/invoke/VarHandle" ∧ (parseMethodDescriptor yX5_costOf.desc).map (fun d => d.parameters.length) = some 1 := by decide +kernel
def F_X5_costOf_0 (Wk : sv_K) (Kr : Option sv_AV → sv_S → Prop) (kind : Int32) (σ : sv_S) : Prop := Wk 7 [some (.inr (.inr (5, 0))), some (.inl kind), some (.inl (0 : Int32)), some (.inl (0 : Int32)), some (.inl (0 : Int32))] [] σ
set_option maxRecDepth 100000 in
theorem bk_X5_costOf_0 (Wk : sv_K) (Kr : Option sv_AV → sv_S → Prop) (kind : Int32) (σ : sv_S) (h : F_X5_costOf_0 Wk Kr kind σ) : sv_vc tb_X5_costOf T_X5_costOf sv_all (some .int) Kr [(7, [true, true, true, true, true])] Wk 500 0 [some (.inr (.inr (5, 0))), some (.inl kind), none, none, none] [] σ := h
def F_X5_costOf_7 (Wk : sv_K) (Kr : Option sv_AV → sv_S → Prop) (x1 : Int32) (x2 : Int32) (x3 : Int32) (x4 : Int32) (σ : sv_S) : Prop := (((sv_gA σ 5 0 0) ≤ x4 → (∃ d1 : dD, ∃ z2 : Nat, ∃ c3 : Nat, (RM d1 σ ∧ (z2 < 3 ^ dT d1 ∧ x3 = nI z2) ∧ (c3 < 2 ^ dT d1 ∧ (0 : Int32) = nI c3)) ∧ (∀ v4 : Int32, v4 = nI (carry d1 (nd (sDi z2) c3)) → Kr (some (.inl (x2 + v4))) σ))) ∧ (¬ (sv_gA σ 5 0 0) ≤ x4 → (vp_in x4 10 ∧ (∃ d5 : dD, ∃ q6 : Nat, ∃ c7 : Nat, ∃ k8 : Nat, (RM d5 σ ∧ (q6 < dP d5 ∧ x4 = nI q6) ∧ (c7 < 32 ∧ (sv_gA σ 37 0 x4.toNatClampNeg) = nI c7) ∧ (k8 < 2 ∧ x1 = nI k8)) ∧ (∀ v9 : Int32, v9 = nI (work d5 q6 k8 c7) → (vp_in x4 10 ∧ (∃ d10 : dD, ∃ z11 : Nat, ∃ c12 : Nat, (RM d10 σ ∧ (z11 < 3 ^ dT d10 ∧ x3 = nI z11) ∧ (c12 < 2 ^ dT d10 ∧ (sv_gA σ 37 0 x4.toNatClampNeg) = nI c12)) ∧ (∀ v13 : Int32, v13 = nI (carry d10 (nd c12 (sIn z11))) → (vp_in x4 10 ∧ (∃ d14 : dD, ∃ z15 : Nat, ∃ c16 : Nat, (RM d14 σ ∧ (z15 < 3 ^ dT d14 ∧ x3 = nI z15) ∧ (c16 < 2 ^ dT d14 ∧ (sv_gA σ 37 0 x4.toNatClampNeg) = nI c16)) ∧ (∀ v17 : Int32, v17 = nI (carry d14 (nd (sDi z15) c16)) → (vp_in x4 10 ∧ (∃ d18 : dD, ∃ z19 : Nat, ∃ q20 : Nat, ∃ c21 : Nat, (RM d18 σ ∧ (z19 < 3 ^ dT d18 ∧ x3 = nI z19) ∧ (q20 < dP d18 ∧ x4 = nI q20) ∧ (c21 < 2 ^ dT d18 ∧ (sv_gA σ 37 0 x4.toNatClampNeg) = nI c21)) ∧ (∀ v22 : Int32, v22 = nI (snx d18 q20 z19 c21) → Wk 7 [some (.inr (.inr (5, 0))), some (.inl x1), some (.inl (x2 + ((v9 + v13) + v17))), some (.inl v22), some (.inl (x4 + (1 : Int32)))] [] σ))))))))))))))
set_option maxRecDepth 100000 in
theorem bk_X5_costOf_7 (Wk : sv_K) (Kr : Option sv_AV → sv_S → Prop) (x1 : Int32) (x2 : Int32) (x3 : Int32) (x4 : Int32) (σ : sv_S) (h : F_X5_costOf_7 Wk Kr x1 x2 x3 x4 σ) : sv_vc tb_X5_costOf T_X5_costOf sv_all (some .int) Kr [(7, [true, true, true, true, true])] Wk 500 7 [some (.inr (.inr (5, 0))), some (.inl x1), some (.inl x2), some (.inl x3), some (.inl x4)] [] σ := h
set_option maxRecDepth 100000 in
theorem m_X5_costOf (l : Launch) (hb : ∀ (Wk : sv_K) (Kr : Option sv_AV → sv_S → Prop), (∀ (kind : Int32) (σ : sv_S), F_X5_costOf_0 Wk Kr kind σ → Wk 0 [some (.inr (.inr (5, 0))), some (.inl kind), none, none, none] [] σ) → (∀ (x1 : Int32) (x2 : Int32) (x3 : Int32) (x4 : Int32) (σ : sv_S), F_X5_costOf_7 Wk Kr x1 x2 x3 x4 σ → Wk 7 [some (.inr (.inr (5, 0))), some (.inl x1), some (.inl x2), some (.inl x3), some (.inl x4)] [] σ) → (∀ (kind : Int32) (σ : sv_S), (∃ d : dD, ∃ k : Nat, ∃ f : Nat → Nat, (RM d σ ∧ (k < 2 ∧ kind = nI k) ∧ (∀ p, p < dP d → f p < 2 ^ dT d ∧ sv_gA σ 37 0 p = nI (f p))) ∧ (∀ v : Int32, v = nI (costL d f k) → Kr (some (.inl v)) σ)) → Wk 0 [some (.inr (.inr (5, 0))), some (.inl kind), none, none, none] [] σ)) : sv_C l yX5_costOf cX5_costOf 5 (some .int) sv_all 2 49 sp_X5_costOf := by
  refine sv_meth sv_clok_all tb_X5_costOf T_X5_costOf (by decide) tbk_X5_costOf (Tok_X5_costOf l) ?_
  intro Wk Kr hc av σ hsp
  have hB := hb Wk Kr (fun kind σ h => hc [(7, [true, true, true, true, true])] 500 0 _ _ _ (bk_X5_costOf_0 Wk Kr kind σ h)) (fun x1 x2 x3 x4 σ h => hc [(7, [true, true, true, true, true])] 500 7 _ _ _ (bk_X5_costOf_7 Wk Kr x1 x2 x3 x4 σ h))
  unfold sp_X5_costOf at hsp
  split at hsp
  · exact ⟨⟨by simp, by simp [sv_cat]⟩, hB _ _ hsp⟩
  · exact hsp.elim
set_option maxHeartbeats 4000000 in
set_option maxRecDepth 100000 in
theorem c_X5_costOf (l : Launch) : sv_C l yX5_costOf cX5_costOf 5 (some .int) sv_all 2 49 sp_X5_costOf := by
  refine m_X5_costOf l ?_
  intro Wk Kr e0 e7 kind σ ⟨d, k, L, ⟨hR, ⟨hk, hkd⟩, hL⟩, h⟩
  subst hkd
  have hT := hR.1.2.1
  have hP := hR.1.1
  have h32 := two_pow_le hR.1
  have hLl : ∀ p, p < dP d → L p < 2 ^ dT d := fun p hp => (hL p hp).1
  suffices key : ∀ n, n ≤ dP d → Wk 7 [some (.inr (.inr (5, 0))), some (.inl (nI k)), some (.inl (nI (sm (fun p => stc d k p (prv L p) (dtyL d L p) (L p)) n))), some (.inl (nI (stL d L n))), some (.inl (nI n))] [] σ from e0 _ _ (key 0 (by omega))
  refine lpN (fun n hn ih => ?_)
  apply e7
  unfold F_X5_costOf_7
  rw [hR.2.2.1]
  have hst := stL_at hR.1 hLl hn
  refine pk_le (dP d) n (fun y => ⟨d, stL d L n, 0, ⟨hR, ⟨hst.1, rfl⟩, Nat.two_pow_pos _, rfl⟩, fun v4 h4 => h _ ?_⟩) (fun y => ?_)
  · rw [h4, nI_add, hst.2.2, show n = dP d by omega, costL_stc k (fun p hp => Nat.lt_of_lt_of_le (hLl p hp) h32)]
  · have hin := pk_in (x := nI n) n 10 (by omega)
    have hLn := hLl n y
    rw [nI_clamp (by omega), (hL n y).2, nI_1]
    refine ⟨hin, d, n, L n, k, ⟨hR, ⟨y, rfl⟩, ⟨by omega, rfl⟩, hk, rfl⟩, fun v9 h9 => ⟨hin, d, stL d L n, L n, ⟨hR, ⟨hst.1, rfl⟩, hLn, rfl⟩, fun v13 h13 => ⟨hin, d, stL d L n, L n, ⟨hR, ⟨hst.1, rfl⟩, hLn, rfl⟩, fun v17 h17 => ⟨hin, d, stL d L n, n, L n, ⟨hR, ⟨hst.1, rfl⟩, ⟨y, rfl⟩, hLn, rfl⟩, fun v22 h22 => ?_⟩⟩⟩⟩
    rw [h9, h13, h17, h22, nI_add, nI_add, nI_add, hst.2.1, hst.2.2]
    exact ih y
