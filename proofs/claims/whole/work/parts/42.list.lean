def cntd (t : Nat) : Nat → Nat
  | 0 => 0
  | n + 1 => cntd t n + (if dg t n = 0 then 1 else 0)
theorem cntd_lt : ∀ t, t < 5 → ∀ j, j < 243 → dg t j = 0 → cntd t j < 81 ∧ outs t (cntd t j) = j := by decide +kernel
theorem cntd_all : ∀ t, t < 5 → cntd t 243 = 81 := by decide +kernel
theorem cntd_le : ∀ t, t < 5 → ∀ j, j < 244 → cntd t j ≤ 81 := by decide +kernel
-- ==== X0_listOutStates
def sp_X0_listOutStates : sv_P := fun av σ K => match av with
  | [.inr (.inr (0, 0)), .inl t] => ∃ e : Nat, ((e < 5 ∧ t = nI e) ∧ (∀ j, j < 243 → sv_gA σ 6 0 j = nI (sIn j))) ∧ (∀ σ2 : sv_S, sq [8] σ σ2 ∧ (∀ i, i < 81 → sv_gA σ2 8 e i = nI (outs e i)) ∧ (∀ t i, t ≠ e → sv_gA σ2 8 t i = sv_gA σ 8 t i) → K none σ2)
  | _ => False
def tb_X0_listOutStates : List (Nat × (Instr × Nat)) := [(0, (.iconst 0, 1)), (1, (.istore_n 2, 1)), (2, (.iconst 0, 1)), (3, (.istore_n 3, 1)), (4, (.iload_n 3, 1)), (5, (.sipush 243, 3)), (8, (.if_icmp .ge 37, 3)), (11, (.aload_n 0, 1)), (12, (.getfield 15, 3)), (15, (.iload_n 3, 1)), (16, (.iaload, 1)), (17, (.iload_n 1, 1)), (18, (.invokestatic 47, 3)), (21, (.ifCond .eq 6, 3)), (24, (.goto 15, 3)), (27, (.aload_n 0, 1)), (28, (.getfield 21, 3)), (31, (.iload_n 1, 1)), (32, (.aaload, 1)), (33, (.iload_n 2, 1)), (34, (.iload_n 3, 1)), (35, (.iastore, 1)), (36, (.iinc 2 1, 3)), (39, (.iinc 3 1, 3)), (42, (.goto (-38), 3)), (45, (.return_, 1))]
set_option maxRecDepth 100000 in
theorem tbk_X0_listOutStates : sv_tbok cX0_listOutStates tb_X0_listOutStates = true := by decide +kernel
def cal_X0_listOutStates : List (Nat × (Nat × Nat × sv_P)) := [(47, (2, 90, sp_X4_holds))]
def T_X0_listOutStates : sv_T := (flX0, sfX0, kcX0, klX0, cal_X0_listOutStates)
set_option maxRecDepth 100000 in
theorem Tok_X0_listOutStates (l : Launch) : sv_Tok l RX0 [0, 6, 7, 8] 1 21 T_X0_listOutStates := ⟨flokX0, sfokX0, kcokX0, klokX0, List.forall_mem_cons.mpr ⟨⟨fun h => absurd h (by decide), fun _ => sv_COs_gen (c_X4_holds l) (Or.inr ⟨_, List.mem_of_getElem? (i := 1) rfl⟩) kw_X4_holds.1 kw_X4_holds.2.1 kw_X4_holds.2.2 kd_X4_holds rfl (by decide) (by decide +kernel)⟩, fun _ h => absurd h List.not_mem_nil⟩⟩
theorem kw_X0_listOutStates : Cond.instanceMethod yX0_listOutStates ∈ sv_tb ∧ Cond.selects yX0_listOutStates.cls yX0_listOutStates yX0_listOutStates ∈ sv_tb ∧ Cond.initialized yX0_listOutStates.cls ∈ sv_tb ∧ Cond.code yX0_listOutStates cX0_listOutStates 4 none ∈ sv_tb := ⟨sv_mem 155 (by decide +kernel) rfl, sv_mem 0 (by decide +kernel) rfl, sv_mem 54 (by decide +kernel) rfl, sv_mem 156 (by decide +kernel) rfl⟩
theorem kd_X0_listOutStates : yX0_listOutStates.cls ≠ "java/lang/invoke/MethodHandle" ∧ yX0_listOutStates.cls ≠ "java/lang/invoke/VarHandle" ∧ (parseMethodDescriptor yX0_listOutStates.desc).map (fun d => d.parameters.length) = some 1 := by decide +kernel
def F_X0_listOutStates_0 (Wk : sv_K) (Kr : Option sv_AV → sv_S → Prop) (t : Int32) (σ : sv_S) : Prop := Wk 4 [some (.inr (.inr (0, 0))), some (.inl t), some (.inl (0 : Int32)), some (.inl (0 : Int32))] [] σ
set_option maxRecDepth 100000 in
theorem bk_X0_listOutStates_0 (Wk : sv_K) (Kr : Option sv_AV → sv_S → Prop) (t : Int32) (σ : sv_S) (h : F_X0_listOutStates_0 Wk Kr t σ) : sv_vc tb_X0_listOutStates T_X0_listOutStates [0, 6, 7, 8] none Kr [(4, [true, true, true, true])] Wk 500 0 [some (.inr (.inr (0, 0))), some (.inl t), none, none] [] σ := h
def F_X0_listOutStates_4 (Wk : sv_K) (Kr : Option sv_AV → sv_S → Prop) (x1 : Int32) (x2 : Int32) (x3 : Int32) (σ : sv_S) : Prop := (((243 : Int32) ≤ x3 → Kr none σ) ∧ (¬ (243 : Int32) ≤ x3 → (vp_in x3 243 ∧ (((((sv_gA σ 6 0 x3.toNatClampNeg) >>> (x1 &&& 31)) &&& 1 = 1 → Wk 4 [some (.inr (.inr (0, 0))), some (.inl x1), some (.inl x2), some (.inl (x3 + (1 : Int32)))] [] σ) ∧ (¬ ((sv_gA σ 6 0 x3.toNatClampNeg) >>> (x1 &&& 31)) &&& 1 = 1 → (vp_in x1 5 ∧ (vp_in x2 81 ∧ Wk 4 [some (.inr (.inr (0, 0))), some (.inl x1), some (.inl (x2 + (1 : Int32))), some (.inl (x3 + (1 : Int32)))] [] (sv_sA σ 8 x1.toNatClampNeg x2.toNatClampNeg x3)))))))))
set_option maxRecDepth 100000 in
theorem bk_X0_listOutStates_4 (Wk : sv_K) (Kr : Option sv_AV → sv_S → Prop) (x1 : Int32) (x2 : Int32) (x3 : Int32) (σ : sv_S) (h : F_X0_listOutStates_4 Wk Kr x1 x2 x3 σ) : sv_vc tb_X0_listOutStates T_X0_listOutStates [0, 6, 7, 8] none Kr [(4, [true, true, true, true])] Wk 500 4 [some (.inr (.inr (0, 0))), some (.inl x1), some (.inl x2), some (.inl x3)] [] σ := ⟨fun z2 => ⟨rfl, ((h).1 z2)⟩, fun z2 => ⟨(((h).2 z2)).1, (match ((((h).2 z2)).2) with | ⟨z1a, z1b⟩ => ⟨fun z1y => br_f (by decide) ((z1a z1y)), fun z1y => br_t (by decide) ((z1b z1y))⟩)⟩⟩
set_option maxRecDepth 100000 in
theorem m_X0_listOutStates (l : Launch) (hb : ∀ (Wk : sv_K) (Kr : Option sv_AV → sv_S → Prop), (∀ (t : Int32) (σ : sv_S), F_X0_listOutStates_0 Wk Kr t σ → Wk 0 [some (.inr (.inr (0, 0))), some (.inl t), none, none] [] σ) → (∀ (x1 : Int32) (x2 : Int32) (x3 : Int32) (σ : sv_S), F_X0_listOutStates_4 Wk Kr x1 x2 x3 σ → Wk 4 [some (.inr (.inr (0, 0))), some (.inl x1), some (.inl x2), some (.inl x3)] [] σ) → (∀ (t : Int32) (σ : sv_S), (∃ e : Nat, ((e < 5 ∧ t = nI e) ∧ (∀ j, j < 243 → sv_gA σ 6 0 j = nI (sIn j))) ∧ (∀ σ2 : sv_S, sq [8] σ σ2 ∧ (∀ i, i < 81 → sv_gA σ2 8 e i = nI (outs e i)) ∧ (∀ t i, t ≠ e → sv_gA σ2 8 t i = sv_gA σ 8 t i) → Kr none σ2)) → Wk 0 [some (.inr (.inr (0, 0))), some (.inl t), none, none] [] σ)) : sv_C l yX0_listOutStates cX0_listOutStates 4 none [0, 6, 7, 8] 1 21 sp_X0_listOutStates := by
  refine sv_meth sv_clok_all tb_X0_listOutStates T_X0_listOutStates (by decide) tbk_X0_listOutStates (Tok_X0_listOutStates l) ?_
  intro Wk Kr hc av σ hsp
  have hB := hb Wk Kr (fun t σ h => hc [(4, [true, true, true, true])] 500 0 _ _ _ (bk_X0_listOutStates_0 Wk Kr t σ h)) (fun x1 x2 x3 σ h => hc [(4, [true, true, true, true])] 500 4 _ _ _ (bk_X0_listOutStates_4 Wk Kr x1 x2 x3 σ h))
  unfold sp_X0_listOutStates at hsp
  split at hsp
  · exact ⟨⟨by simp, by simp [sv_cat]⟩, hB _ _ hsp⟩
  · exact hsp.elim
set_option maxHeartbeats 4000000 in
set_option maxRecDepth 100000 in
theorem c_X0_listOutStates (l : Launch) : sv_C l yX0_listOutStates cX0_listOutStates 4 none [0, 6, 7, 8] 1 21 sp_X0_listOutStates := by
  refine m_X0_listOutStates l ?_
  intro Wk Kr e0 e4 t σ ⟨e, ⟨⟨he, ht⟩, hset⟩, h⟩
  subst ht
  suffices key : ∀ j, j ≤ 243 → ∀ σ', sq [8] σ σ' → (∀ i, i < cntd e j → sv_gA σ' 8 e i = nI (outs e i)) → (∀ t i, t ≠ e → sv_gA σ' 8 t i = sv_gA σ 8 t i) → Wk 4 [some (.inr (.inr (0, 0))), some (.inl (nI e)), some (.inl (nI (cntd e j))), some (.inl (nI j))] [] σ' from e0 _ _ (key 0 (by omega) σ (sq_rf _ _) (fun i hi => absurd hi (Nat.not_lt_zero _)) (fun _ _ _ => rfl))
  refine lpN (fun j hj ih σ' hs ho hr => ?_)
  apply e4
  unfold F_X0_listOutStates_4
  refine pk_le 243 j (fun y => h _ ⟨hs, fun i hi => ho i (by rw [show j = 243 by omega, cntd_all e he]; exact hi), hr⟩) (fun y => ?_)
  have hI := (sIn_lt 5 (by omega) j y).1
  rw [nI_clamp (by omega : j < 2 ^ 31), hs.1 _ (by decide), hset j y, bit_sh _ hI e he, sIn_bit j y e he, nI_1, nI_1]
  have ih := ih y
  have e1 : cntd e (j + 1) = cntd e j + (if dg e j = 0 then 1 else 0) := rfl
  rw [e1] at ih
  refine ⟨pk_in j 243 y, fun a => ?_, fun a => ?_⟩
  · rw [if_neg a] at ih
    exact ih σ' hs ho hr
  · have a0 : dg e j = 0 := Classical.byContradiction a
    have hc := cntd_lt e he j y a0
    rw [if_pos a0] at ih
    rw [nI_clamp (by omega : e < 2 ^ 31), nI_clamp (by omega)]
    refine ⟨pk_in e 5 he, pk_in (cntd e j) 81 hc.1, ih _ (sq_tr hs (sq_sA _ _ _ _ (by decide))) (fun i hi => ?_) (fun t i hti => ?_)⟩
    · by_cases c : i = cntd e j
      · rw [c, gA_same, hc.2]
      · rw [gA_nj _ c]
        exact ho i (by omega)
    · rw [gA_ni _ hti]
      exact hr t i hti
