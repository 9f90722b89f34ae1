-- ==== X3_cells
def sp_X3_cells : sv_P := fun av σ K => match av with
  | [.inl pos, .inl size] => ∃ a : Nat, ∃ z : Nat, ((a < 60 ∧ pos = nI a) ∧ (z ≤ 20 ∧ size = nI z)) ∧ (∀ v : Int64, v = lN (msk a z) → K (some (.inr (.inl v))) σ)
  | _ => False
def tb_X3_cells : List (Nat × (Instr × Nat)) := [(0, (.lconst 1, 1)), (1, (.iload_n 1, 1)), (2, (.lshl, 1)), (3, (.lconst 1, 1)), (4, (.lsub, 1)), (5, (.iload_n 0, 1)), (6, (.lshl, 1)), (7, (.lreturn, 1))]
set_option maxRecDepth 100000 in
theorem tbk_X3_cells : sv_tbok cX3_cells tb_X3_cells = true := by decide +kernel
def cal_X3_cells : List (Nat × (Nat × Nat × sv_P)) := []
def T_X3_cells : sv_T := (flX3, sfX3, kcX3, klX3, cal_X3_cells)
set_option maxRecDepth 100000 in
theorem Tok_X3_cells (l : Launch) : sv_Tok l RX3 sv_all 0 0 T_X3_cells := ⟨flokX3, sfokX3, kcokX3, klokX3, fun _ h => absurd h List.not_mem_nil⟩
theorem kw_X3_cells : Cond.static yX3_cells ∈ sv_tb ∧ Cond.initialized yX3_cells.cls ∈ sv_tb ∧ Cond.code yX3_cells cX3_cells 2 (some .long) ∈ sv_tb := ⟨sv_mem 505 (by decide +kernel) rfl, sv_mem 55 (by decide +kernel) rfl, sv_mem 506 (by decide +kernel) rfl⟩
theorem kd_X3_cells : yX3_cells.cls ≠ "java/lang/invoke/MethodHandle" ∧ yX3_cells.cls ≠ "java/lang/invoke/VarHandle" ∧ (parseMethodDescriptor yX3_cells.desc).map (fun d => d.parameters.length) = some 2 := by decide +kernel
def F_X3_cells_0 (Wk : sv_K) (Kr : Option sv_AV → sv_S → Prop) (pos : Int32) (size : Int32) (σ : sv_S) : Prop := Kr (some (.inr (.inl ((((1 : Int64) <<< (size.toInt64 &&& 63)) - (1 : Int64)) <<< (pos.toInt64 &&& 63))))) σ
set_option maxRecDepth 100000 in
theorem bk_X3_cells_0 (Wk : sv_K) (Kr : Option sv_AV → sv_S → Prop) (pos : Int32) (size : Int32) (σ : sv_S) (h : F_X3_cells_0 Wk Kr pos size σ) : sv_vc tb_X3_cells T_X3_cells sv_all (some .long) Kr [] Wk 500 0 [some (.inl pos), some (.inl size)] [] σ := ⟨rfl, h⟩
set_option maxRecDepth 100000 in
theorem m_X3_cells (l : Launch) (hb : ∀ (Wk : sv_K) (Kr : Option sv_AV → sv_S → Prop), (∀ (pos : Int32) (size : Int32) (σ : sv_S), F_X3_cells_0 Wk Kr pos size σ → Wk 0 [some (.inl pos), some (.inl size)] [] σ) → (∀ (pos : Int32) (size : Int32) (σ : sv_S), (∃ a : Nat, ∃ z : Nat, ((a < 60 ∧ pos = nI a) ∧ (z ≤ 20 ∧ size = nI z)) ∧ (∀ v : Int64, v = lN (msk a z) → Kr (some (.inr (.inl v))) σ)) → Wk 0 [some (.inl pos), some (.inl size)] [] σ)) : sv_C l yX3_cells cX3_cells 2 (some .long) sv_all 0 0 sp_X3_cells := by
  refine sv_meth sv_clok_all tb_X3_cells T_X3_cells (by decide) tbk_X3_cells (Tok_X3_cells l) ?_
  intro Wk Kr hc av σ hsp
  have hB := hb Wk Kr (fun pos size σ h => hc [] 500 0 _ _ _ (bk_X3_cells_0 Wk Kr pos size σ h))
  unfold sp_X3_cells at hsp
  split at hsp
  · exact ⟨⟨by simp, by simp [sv_cat]⟩, hB _ _ _ hsp⟩
  · exact hsp.elim
set_option maxHeartbeats 4000000 in
set_option maxRecDepth 100000 in
theorem c_X3_cells (l : Launch) : sv_C l yX3_cells cX3_cells 2 (some .long) sv_all 0 0 sp_X3_cells := by
  refine m_X3_cells l ?_
  intro Wk Kr e0 pos size σ ⟨a, z, ⟨⟨ha, h1⟩, hz, h2⟩, h⟩
  subst h1
  subst h2
  apply e0
  exact h _ (msk_java z (by omega) a ha)
-- ==== X3_firstFree
def sp_X3_firstFree : sv_P := fun av σ K => match av with
  | [.inr (.inr (3, 0)), .inl size] => ∃ d : dD, ∃ pl : Nat → Option Nat, ∃ t : Nat, (RP d σ ∧ (t < dT d ∧ size = nI (dZ d t)) ∧ UI d pl σ) ∧ (∀ v : Int32, v = fpI (fplace d pl t) → K (some (.inl v)) σ)
  | _ => False
def tb_X3_firstFree : List (Nat × (Instr × Nat)) := [(0, (.iconst 0, 1)), (1, (.istore_n 2, 1)), (2, (.iload_n 2, 1)), (3, (.iload_n 1, 1)), (4, (.iadd, 1)), (5, (.aload_n 0, 1)), (6, (.getfield 18, 3)), (9, (.getfield 85, 3)), (12, (.iconst 0, 1)), (13, (.iaload, 1)), (14, (.if_icmp .gt 26, 3)), (17, (.aload_n 0, 1)), (18, (.getfield 30, 3)), (21, (.iload_n 2, 1)), (22, (.iload_n 1, 1)), (23, (.invokestatic 69, 3)), (26, (.land, 1)), (27, (.lconst 0, 1)), (28, (.lcmp, 1)), (29, (.ifCond .ne 5, 3)), (32, (.iload_n 2, 1)), (33, (.ireturn, 1)), (34, (.iinc 2 1, 3)), (37, (.goto (-35), 3)), (40, (.bipush (-9), 2)), (42, (.ireturn, 1))]
set_option maxRecDepth 100000 in
theorem tbk_X3_firstFree : sv_tbok cX3_firstFree tb_X3_firstFree = true := by decide +kernel
def cal_X3_firstFree : List (Nat × (Nat × Nat × sv_P)) := [(69, (2, 90, sp_X3_cells))]
def T_X3_firstFree : sv_T := (flX3, sfX3, kcX3, klX3, cal_X3_firstFree)
set_option maxRecDepth 100000 in
theorem Tok_X3_firstFree (l : Launch) : sv_Tok l RX3 sv_all 1 21 T_X3_firstFree := ⟨flokX3, sfokX3, kcokX3, klokX3, List.forall_mem_cons.mpr ⟨⟨fun h => absurd h (by decide), fun _ => sv_COs_gen (c_X3_cells l) (Or.inl (sv_mem 504 (by decide +kernel) rfl)) kw_X3_cells.1 kw_X3_cells.2.1 kw_X3_cells.2.2 kd_X3_cells rfl (by decide) (by decide +kernel)⟩, fun _ h => absurd h List.not_mem_nil⟩⟩
theorem kw_X3_firstFree : Cond.instanceMethod yX3_firstFree ∈ sv_tb ∧ Cond.selects yX3_firstFree.cls yX3_firstFree yX3_firstFree ∈ sv_tb ∧ Cond.initialized yX3_firstFree.cls ∈ sv_tb ∧ Cond.code yX3_firstFree cX3_firstFree 3 (some .int) ∈ sv_tb := ⟨sv_mem 514 (by decide +kernel) rfl, sv_mem 14 (by decide +kernel) rfl, sv_mem 55 (by decide +kernel) rfl, sv_mem 515 (by decide +kernel) rfl⟩
theorem kd_X3_firstFree : yX3_firstFree.cls ≠ "java/lang/invoke/MethodHandle" ∧ yX3_firstFree.cls ≠ "java/lang/invoke/VarHandle" ∧ (parseMethodDescriptor yX3_firstFree.desc).map (fun d => d.parameters.length) = some 1 := by decide +kernel
def F_X3_firstFree_0 (Wk : sv_K) (Kr : Option sv_AV → sv_S → Prop) (size : Int32) (σ : sv_S) : Prop := Wk 2 [some (.inr (.inr (3, 0))), some (.inl size), some (.inl (0 : Int32))] [] σ
set_option maxRecDepth 100000 in
theorem bk_X3_firstFree_0 (Wk : sv_K) (Kr : Option sv_AV → sv_S → Prop) (size : Int32) (σ : sv_S) (h : F_X3_firstFree_0 Wk Kr size σ) : sv_vc tb_X3_firstFree T_X3_firstFree sv_all (some .int) Kr [(2, [true, true, true])] Wk 500 0 [some (.inr (.inr (3, 0))), some (.inl size), none] [] σ := h
def F_X3_firstFree_2 (Wk : sv_K) (Kr : Option sv_AV → sv_S → Prop) (x1 : Int32) (x2 : Int32) (σ : sv_S) : Prop := (((sv_gA σ 20 0 0) < (x2 + x1) → Kr (some (.inl (-9 : Int32))) σ) ∧ (¬ (sv_gA σ 20 0 0) < (x2 + x1) → (∃ a1 : Nat, ∃ z2 : Nat, ((a1 < 60 ∧ x2 = nI a1) ∧ (z2 ≤ 20 ∧ x1 = nI z2)) ∧ (∀ v3 : Int64, v3 = lN (msk a1 z2) → ((¬ (lg_cmp ((sv_gJ σ 3 4) &&& v3) (0 : Int64)) = (0 : Int32) → Wk 2 [some (.inr (.inr (3, 0))), some (.inl x1), some (.inl (x2 + (1 : Int32)))] [] σ) ∧ ((lg_cmp ((sv_gJ σ 3 4) &&& v3) (0 : Int64)) = (0 : Int32) → Kr (some (.inl x2)) σ))))))
set_option maxRecDepth 100000 in
theorem bk_X3_firstFree_2 (Wk : sv_K) (Kr : Option sv_AV → sv_S → Prop) (x1 : Int32) (x2 : Int32) (σ : sv_S) (h : F_X3_firstFree_2 Wk Kr x1 x2 σ) : sv_vc tb_X3_firstFree T_X3_firstFree sv_all (some .int) Kr [(2, [true, true, true])] Wk 500 2 [some (.inr (.inr (3, 0))), some (.inl x1), some (.inl x2)] [] σ := ⟨sb_vin (by decide), h⟩
set_option maxRecDepth 100000 in
theorem m_X3_firstFree (l : Launch) (hb : ∀ (Wk : sv_K) (Kr : Option sv_AV → sv_S → Prop), (∀ (size : Int32) (σ : sv_S), F_X3_firstFree_0 Wk Kr size σ → Wk 0 [some (.inr (.inr (3, 0))), some (.inl size), none] [] σ) → (∀ (x1 : Int32) (x2 : Int32) (σ : sv_S), F_X3_firstFree_2 Wk Kr x1 x2 σ → Wk 2 [some (.inr (.inr (3, 0))), some (.inl x1), some (.inl x2)] [] σ) → (∀ (size : Int32) (σ : sv_S), (∃ d : dD, ∃ pl : Nat → Option Nat, ∃ t : Nat, (RP d σ ∧ (t < dT d ∧ size = nI (dZ d t)) ∧ UI d pl σ) ∧ (∀ v : Int32, v = fpI (fplace d pl t) → Kr (some (.inl v)) σ)) → Wk 0 [some (.inr (.inr (3, 0))), some (.inl size), none] [] σ)) : sv_C l yX3_firstFree cX3_firstFree 3 (some .int) sv_all 1 21 sp_X3_firstFree := by
  refine sv_meth sv_clok_all tb_X3_firstFree T_X3_firstFree (by decide) tbk_X3_firstFree (Tok_X3_firstFree l) ?_
  intro Wk Kr hc av σ hsp
  have hB := hb Wk Kr (fun size σ h => hc [(2, [true, true, true])] 500 0 _ _ _ (bk_X3_firstFree_0 Wk Kr size σ h)) (fun x1 x2 σ h => hc [(2, [true, true, true])] 500 2 _ _ _ (bk_X3_firstFree_2 Wk Kr x1 x2 σ h))
  unfold sp_X3_firstFree at hsp
  split at hsp
  · exact ⟨⟨by simp, by simp [sv_cat]⟩, hB _ _ hsp⟩
  · exact hsp.elim
theorem lg_zero {n : Nat} (h : n < 2 ^ 63) : lg_cmp (lN n) 0 = 0 ↔ n = 0 := by
  have e : (0 : Int64) = lN 0 := rfl
  unfold lg_cmp
  rw [e]
  by_cases hn : n = 0
  · subst hn
    simp
  · have h1 : lN n > lN 0 := (pk_lLT (by omega) h).mpr (by omega)
    rw [if_pos h1]
    simp [hn]
set_option maxHeartbeats 4000000 in
set_option maxRecDepth 100000 in
theorem c_X3_firstFree (l : Launch) : sv_C l yX3_firstFree cX3_firstFree 3 (some .int) sv_all 1 21 sp_X3_firstFree := by
  refine m_X3_firstFree l ?_
  intro Wk Kr e0 e2 size σ ⟨d, pl, t, ⟨hR, ⟨ht, hsz⟩, hU⟩, h⟩
  subst hsz
  obtain ⟨u, hu1, hu2, hu3, hu4, hu5⟩ := hU
  have hz := hR.1.2.2.2.1 t ht
  have hroom := hR.1.2.2.2.2.2.2.1
  have key : ∀ m n, n + m = 61 → (∀ j, j < n → ¬ frP d pl t j) → Wk 2 [some (.inr (.inr (3, 0))), some (.inl (nI (dZ d t))), some (.inl (nI n))] [] σ := by
    intro m
    induction m with
    | zero =>
      intro n hn hno
      apply e2
      unfold F_X3_firstFree_2
      rw [hR.2.2.2.1 0 (by omega), nI_add]
      refine pk_lt (dS d 0) (n + dZ d t) (fun y => h _ ?_) (fun y => by omega)
      rw [fplace_none (fun j => fun hj => hno j (by have := hj.1; omega) hj)]
      rfl
    | succ m ih =>
      intro n hn hno
      apply e2
      unfold F_X3_firstFree_2
      rw [hR.2.2.2.1 0 (by omega), nI_add, nI_1, hu1]
      refine pk_lt (dS d 0) (n + dZ d t) (fun y => h _ ?_) (fun y => ⟨n, dZ d t, ⟨⟨by omega, rfl⟩, hz.2, rfl⟩, fun v3 h3 => ?_⟩)
      · rw [fplace_none (fun j => fun hj => by
          rcases Nat.lt_or_ge j n with g | g
          · exact hno j g hj
          · have := hj.1
            omega)]
        rfl
      · rw [h3, lN_and]
        have hlt : u &&& msk n (dZ d t) < 2 ^ 63 := Nat.lt_of_le_of_lt Nat.and_le_left (by omega)
        refine ⟨fun z => ih (n + 1) (by omega) (fun j hj => ?_), fun z => h _ ?_⟩
        · by_cases hjn : j = n
          · subst hjn
            intro hf
            exact z ((lg_zero hlt).mpr ((msk_free hR.1 ht hu3).mpr hf.2))
          · exact hno j (by omega)
        · have hf : frP d pl t n := ⟨y, (msk_free hR.1 ht hu3).mp ((lg_zero hlt).mp z)⟩
          rw [fplace_some hR.1 ht hf hno]
          rfl
  apply e0
  exact key 61 0 (by omega) (fun j hj => by omega)
-- ==== X3_readOrder
def sp_X3_readOrder : sv_P := fun av σ K => match av with
  | [.inr (.inr (3, 0)), .inl order] => ∃ d : dD, ∃ o : Nat, (RP d σ ∧ (o < fct (dT d) ∧ order = nI o)) ∧ (∀ σ2 : sv_S, sq [29] σ σ2 ∧ (∀ k, k < dT d → sv_gA σ2 29 0 k = nI (ordX (dT d) o k)) → K none σ2)
  | _ => False
def tb_X3_readOrder : List (Nat × (Instr × Nat)) := [(0, (.iload_n 1, 1)), (1, (.istore_n 2, 1)), (2, (.aload_n 0, 1)), (3, (.getfield 18, 3)), (6, (.invokevirtual 50, 3)), (9, (.iconst 1, 1)), (10, (.isub, 1)), (11, (.istore_n 3, 1)), (12, (.iconst 0, 1)), (13, (.istore 4, 2)), (15, (.iload 4, 2)), (17, (.aload_n 0, 1)), (18, (.getfield 18, 3)), (21, (.getfield 56, 3)), (24, (.if_icmp .ge 92, 3)), (27, (.getstatic 59, 3)), (30, (.aload_n 0, 1)), (31, (.getfield 18, 3)), (34, (.getfield 56, 3)), (37, (.iconst 1, 1)), (38, (.isub, 1)), (39, (.iload 4, 2)), (41, (.isub, 1)), (42, (.iaload, 1)), (43, (.istore 5, 2)), (45, (.iconst 0, 1)), (46, (.istore 6, 2)), (48, (.iload 6, 2)), (50, (.aload_n 0, 1)), (51, (.getfield 18, 3)), (54, (.getfield 56, 3)), (57, (.if_icmp .ge 53, 3)), (60, (.iload_n 3, 1)), (61, (.iload 6, 2)), (63, (.invokestatic 62, 3)), (66, (.ifCond .ne 6, 3)), (69, (.goto 35, 3)), (72, (.iload_n 2, 1)), (73, (.iload 5, 2)), (75, (.if_icmp .ge 24, 3)), (78, (.aload_n 0, 1)), (79, (.getfield 9, 3)), (82, (.iload 4, 2)), (84, (.iload 6, 2)), (86, (.iastore, 1)), (87, (.iload_n 3, 1)), (88, (.iconst 1, 1)), (89, (.iload 6, 2)), (91, (.ishl, 1)), (92, (.iconst (-1), 1)), (93, (.ixor, 1)), (94, (.iand, 1)), (95, (.istore_n 3, 1)), (96, (.goto 14, 3)), (99, (.iload_n 2, 1)), (100, (.iload 5, 2)), (102, (.isub, 1)), (103, (.istore_n 2, 1)), (104, (.iinc 6 1, 3)), (107, (.goto (-59), 3)), (110, (.iinc 4 1, 3)), (113, (.goto (-98), 3)), (116, (.return_, 1))]
set_option maxRecDepth 100000 in
theorem tbk_X3_readOrder : sv_tbok cX3_readOrder tb_X3_readOrder = true := by decide +kernel
def cal_X3_readOrder : List (Nat × (Nat × Nat × sv_P)) := [(50, (1, 2, sp_X2_countSets)), (62, (2, 90, sp_X4_holds))]
def T_X3_readOrder : sv_T := (flX3, sfX3, kcX3, klX3, cal_X3_readOrder)
set_option maxRecDepth 100000 in
theorem Tok_X3_readOrder (l : Launch) : sv_Tok l RX3 sv_all 1 21 T_X3_readOrder := ⟨flokX3, sfokX3, kcokX3, klokX3, List.forall_mem_cons.mpr ⟨⟨fun _ => sv_COv_of (c_X2_countSets l) sv_clok_all (sv_mem 497 (by decide +kernel) rfl) kw_X2_countSets.1 kw_X2_countSets.2.1 kw_X2_countSets.2.2.1 kw_X2_countSets.2.2.2 kd_X2_countSets rfl (by decide) (by decide +kernel) rfl (by decide), fun h => absurd h (by decide)⟩, List.forall_mem_cons.mpr ⟨⟨fun h => absurd h (by decide), fun _ => sv_COs_gen (c_X4_holds l) (Or.inr ⟨_, List.mem_of_getElem? (i := 4) rfl⟩) kw_X4_holds.1 kw_X4_holds.2.1 kw_X4_holds.2.2 kd_X4_holds rfl (by decide) (by decide +kernel)⟩, fun _ h => absurd h List.not_mem_nil⟩⟩⟩
theorem kw_X3_readOrder : Cond.instanceMethod yX3_readOrder ∈ sv_tb ∧ Cond.selects yX3_readOrder.cls yX3_readOrder yX3_readOrder ∈ sv_tb ∧ Cond.initialized yX3_readOrder.cls ∈ sv_tb ∧ Cond.code yX3_readOrder cX3_readOrder 7 none ∈ sv_tb := ⟨sv_mem 495 (by decide +kernel) rfl, sv_mem 11 (by decide +kernel) rfl, sv_mem 55 (by decide +kernel) rfl, sv_mem 496 (by decide +kernel) rfl⟩
theorem kd_X3_readOrder : yX3_readOrder.cls ≠ "java/lang/invoke/MethodHandle" ∧ yX3_readOrder.cls ≠ "java/lang/invoke/VarHandle" ∧ (parseMethodDescriptor yX3_readOrder.desc).map (fun d => d.parameters.length) = some 1 := by decide +kernel
def F_X3_readOrder_0 (Wk : sv_K) (Kr : Option sv_AV → sv_S → Prop) (order : Int32) (σ : sv_S) : Prop := (∃ d1 : dD, (RP d1 σ) ∧ (∀ v2 : Int32, v2 = nI (2 ^ dT d1) → Wk 15 [some (.inr (.inr (3, 0))), none, some (.inl order), some (.inl (v2 - (1 : Int32))), some (.inl (0 : Int32)), none, none] [] σ))
set_option maxRecDepth 100000 in
theorem bk_X3_readOrder_0 (Wk : sv_K) (Kr : Option sv_AV → sv_S → Prop) (order : Int32) (σ : sv_S) (h : F_X3_readOrder_0 Wk Kr order σ) : sv_vc tb_X3_readOrder T_X3_readOrder sv_all none Kr [(15, [true, false, true, true, true, false, false]), (48, [true, false, true, true, true, true, true])] Wk 500 0 [some (.inr (.inr (3, 0))), some (.inl order), none, none, none, none, none] [] σ := h
def F_X3_readOrder_15 (Wk : sv_K) (Kr : Option sv_AV → sv_S → Prop) (x2 : Int32) (x3 : Int32) (x4 : Int32) (σ : sv_S) : Prop := (((sv_gA σ 2 0 1) ≤ x4 → Kr none σ) ∧ (¬ (sv_gA σ 2 0 1) ≤ x4 → (vp_in (((sv_gA σ 2 0 1) - (1 : Int32)) - x4) 6 ∧ Wk 48 [some (.inr (.inr (3, 0))), none, some (.inl x2), some (.inl x3), some (.inl x4), some (.inl (sv_tab 43 (((sv_gA σ 2 0 1) - (1 : Int32)) - x4).toNatClampNeg)), some (.inl (0 : Int32))] [] σ)))
set_option maxRecDepth 100000 in
theorem bk_X3_readOrder_15 (Wk : sv_K) (Kr : Option sv_AV → sv_S → Prop) (x2 : Int32) (x3 : Int32) (x4 : Int32) (σ : sv_S) (h : F_X3_readOrder_15 Wk Kr x2 x3 x4 σ) : sv_vc tb_X3_readOrder T_X3_readOrder sv_all none Kr [(15, [true, false, true, true, true, false, false]), (48, [true, false, true, true, true, true, true])] Wk 500 15 [some (.inr (.inr (3, 0))), none, some (.inl x2), some (.inl x3), some (.inl x4), none, none] [] σ := ⟨fun z1 => ⟨rfl, ((h).1 z1)⟩, fun z1 => ((h).2 z1)⟩
def F_X3_readOrder_48 (Wk : sv_K) (Kr : Option sv_AV → sv_S → Prop) (x2 : Int32) (x3 : Int32) (x4 : Int32) (x5 : Int32) (x6 : Int32) (σ : sv_S) : Prop := (((sv_gA σ 2 0 1) ≤ x6 → Wk 15 [some (.inr (.inr (3, 0))), none, some (.inl x2), some (.inl x3), some (.inl (x4 + (1 : Int32))), none, none] [] σ) ∧ (¬ (sv_gA σ 2 0 1) ≤ x6 → ((((x3 >>> (x6 &&& 31)) &&& 1 = 1 → ((x5 ≤ x2 → Wk 48 [some (.inr (.inr (3, 0))), none, some (.inl (x2 - x5)), some (.inl x3), some (.inl x4), some (.inl x5), some (.inl (x6 + (1 : Int32)))] [] σ) ∧ (¬ x5 ≤ x2 → (vp_in x4 5 ∧ Wk 15 [some (.inr (.inr (3, 0))), none, some (.inl x2), some (.inl (x3 &&& (((1 : Int32) <<< (x6 &&& 31)) ^^^ (-1 : Int32)))), some (.inl (x4 + (1 : Int32))), none, none] [] (sv_sA σ 29 0 x4.toNatClampNeg x6))))) ∧ (¬ (x3 >>> (x6 &&& 31)) &&& 1 = 1 → Wk 48 [some (.inr (.inr (3, 0))), none, some (.inl x2), some (.inl x3), some (.inl x4), some (.inl x5), some (.inl (x6 + (1 : Int32)))] [] σ)))))
set_option maxRecDepth 100000 in
theorem bk_X3_readOrder_48 (Wk : sv_K) (Kr : Option sv_AV → sv_S → Prop) (x2 : Int32) (x3 : Int32) (x4 : Int32) (x5 : Int32) (x6 : Int32) (σ : sv_S) (h : F_X3_readOrder_48 Wk Kr x2 x3 x4 x5 x6 σ) : sv_vc tb_X3_readOrder T_X3_readOrder sv_all none Kr [(15, [true, false, true, true, true, false, false]), (48, [true, false, true, true, true, true, true])] Wk 500 48 [some (.inr (.inr (3, 0))), none, some (.inl x2), some (.inl x3), some (.inl x4), some (.inl x5), some (.inl x6)] [] σ := ⟨fun z2 => ((h).1 z2), fun z2 => (match ((h).2 z2) with | ⟨z1a, z1b⟩ => ⟨fun z1y => sb_nt (by decide) ((z1a z1y)), fun z1y => sb_nf (by decide) ((z1b z1y))⟩)⟩
set_option maxRecDepth 100000 in
theorem m_X3_readOrder (l : Launch) (hb : ∀ (Wk : sv_K) (Kr : Option sv_AV → sv_S → Prop), (∀ (order : Int32) (σ : sv_S), F_X3_readOrder_0 Wk Kr order σ → Wk 0 [some (.inr (.inr (3, 0))), some (.inl order), none, none, none, none, none] [] σ) → (∀ (x2 : Int32) (x3 : Int32) (x4 : Int32) (σ : sv_S), F_X3_readOrder_15 Wk Kr x2 x3 x4 σ → Wk 15 [some (.inr (.inr (3, 0))), none, some (.inl x2), some (.inl x3), some (.inl x4), none, none] [] σ) → (∀ (x2 : Int32) (x3 : Int32) (x4 : Int32) (x5 : Int32) (x6 : Int32) (σ : sv_S), F_X3_readOrder_48 Wk Kr x2 x3 x4 x5 x6 σ → Wk 48 [some (.inr (.inr (3, 0))), none, some (.inl x2), some (.inl x3), some (.inl x4), some (.inl x5), some (.inl x6)] [] σ) → (∀ (order : Int32) (σ : sv_S), (∃ d : dD, ∃ o : Nat, (RP d σ ∧ (o < fct (dT d) ∧ order = nI o)) ∧ (∀ σ2 : sv_S, sq [29] σ σ2 ∧ (∀ k, k < dT d → sv_gA σ2 29 0 k = nI (ordX (dT d) o k)) → Kr none σ2)) → Wk 0 [some (.inr (.inr (3, 0))), some (.inl order), none, none, none, none, none] [] σ)) : sv_C l yX3_readOrder cX3_readOrder 7 none sv_all 1 21 sp_X3_readOrder := by
  refine sv_meth sv_clok_all tb_X3_readOrder T_X3_readOrder (by decide) tbk_X3_readOrder (Tok_X3_readOrder l) ?_
  intro Wk Kr hc av σ hsp
  have hB := hb Wk Kr (fun order σ h => hc [(15, [true, false, true, true, true, false, false]), (48, [true, false, true, true, true, true, true])] 500 0 _ _ _ (bk_X3_readOrder_0 Wk Kr order σ h)) (fun x2 x3 x4 σ h => hc [(15, [true, false, true, true, true, false, false]), (48, [true, false, true, true, true, true, true])] 500 15 _ _ _ (bk_X3_readOrder_15 Wk Kr x2 x3 x4 σ h)) (fun x2 x3 x4 x5 x6 σ h => hc [(15, [true, false, true, true, true, false, false]), (48, [true, false, true, true, true, true, true])] 500 48 _ _ _ (bk_X3_readOrder_48 Wk Kr x2 x3 x4 x5 x6 σ h))
  unfold sp_X3_readOrder at hsp
  split at hsp
  · exact ⟨⟨by simp, by simp [sv_cat]⟩, hB _ _ hsp⟩
  · exact hsp.elim
theorem scX_succ (block rest n t left : Nat) : scX block rest (n + 1) t left = if rest.testBit t = true then (if left < block then (t, left) else scX block rest n (t + 1) (left - block)) else scX block rest n (t + 1) left := rfl
theorem scX_bnd (block rest : Nat) : ∀ (n t left : Nat), (scX block rest n t left).2 ≤ left
  | 0, t, left => Nat.le_refl _
  | n + 1, t, left => by
    unfold scX
    split
    · split
      · exact Nat.le_refl _
      · have := scX_bnd block rest n (t + 1) (left - block)
        omega
    · exact scX_bnd block rest n (t + 1) left
set_option maxHeartbeats 4000000 in
set_option maxRecDepth 100000 in
theorem c_X3_readOrder (l : Launch) : sv_C l yX3_readOrder cX3_readOrder 7 none sv_all 1 21 sp_X3_readOrder := by
  refine m_X3_readOrder l ?_
  intro Wk Kr e0 e15 e48 order σ ⟨d, o, ⟨hR, ho, hord⟩, h⟩
  subst hord
  have hT := hR.1.2.1
  have hpos : 0 < 2 ^ dT d := Nat.two_pow_pos _
  have key : ∀ m i σ', i + m = dT d → sq [29] σ σ' → (∀ k, k < i → sv_gA σ' 29 0 k = nI (ordX (dT d) o k)) → Wk 15 [some (.inr (.inr (3, 0))), none, some (.inl (nI (rdX (dT d) o i).1)), some (.inl (nI (rdX (dT d) o i).2)), some (.inl (nI i)), none, none] [] σ' := by
    intro m
    induction m with
    | zero =>
      intro i σ' hi hs hr
      have hR' := RP_fr hR hs
      apply e15
      unfold F_X3_readOrder_15
      rw [hR'.2.2.1]
      exact pk_le (dT d) i (fun _ => h _ ⟨hs, fun k hk => hr k (by omega)⟩) (fun z => by omega)
    | succ m ih =>
      intro i σ' hi hs hr
      have hR' := RP_fr hR hs
      have hrl := rd_lt (dT d) (by omega) o ho i (by omega)
      have hol := ord_lt (dT d) (by omega) o ho i (by omega)
      apply e15
      unfold F_X3_readOrder_15
      have ei : nI (dT d) - 1 - nI i = nI (dT d - 1 - i) := by
        rw [show (1 : Int32) = nI 1 from rfl, pk_sub (by omega), pk_sub (by omega)]
      rw [hR'.2.2.1, ei, nI_clamp (by omega), (by decide +kernel : ∀ n, n < 6 → sv_tab 43 n = nI (fct n)) (dT d - 1 - i) (by omega)]
      refine pk_le (dT d) i (fun z => by omega) (fun _ => ⟨pk_in (dT d - 1 - i) 6 (by omega), ?_⟩)
      have hfb : fct (dT d - 1 - i) ≤ 120 := (by decide +kernel : ∀ n, n < 6 → fct n ≤ 120) _ (by omega)
      have inner : ∀ n t left, t + n = dT d → left < 2 ^ 20 → scX (fct (dT d - 1 - i)) (rdX (dT d) o i).2 n t left = scX (fct (dT d - 1 - i)) (rdX (dT d) o i).2 (dT d) 0 (rdX (dT d) o i).1 → Wk 48 [some (.inr (.inr (3, 0))), none, some (.inl (nI left)), some (.inl (nI (rdX (dT d) o i).2)), some (.inl (nI i)), some (.inl (nI (fct (dT d - 1 - i)))), some (.inl (nI t))] [] σ' := by
        intro n
        induction n with
        | zero =>
          intro t left ht hl he
          exfalso
          have : (scX (fct (dT d - 1 - i)) (rdX (dT d) o i).2 (dT d) 0 (rdX (dT d) o i).1).1 = t := by rw [← he]; rfl
          have h2 : ordX (dT d) o i = t := this
          omega
        | succ n ihn =>
          intro t left ht hl he
          rw [scX_succ] at he
          apply e48
          unfold F_X3_readOrder_48
          rw [hR'.2.2.1, nI_1, nI_1]
          refine pk_le (dT d) t (fun z => by omega) (fun _ => ⟨fun y => ?_, fun y => ?_⟩)
          · rw [bit_sh _ hrl.2 t (by omega)] at y
            rw [if_pos y] at he
            refine pk_le (fct (dT d - 1 - i)) left (fun z => ?_) (fun z => ⟨pk_in i 5 (by omega), ?_⟩)
            · rw [if_neg (by omega)] at he
              rw [pk_sub z]
              exact ihn (t + 1) (left - fct (dT d - 1 - i)) (by omega) (by omega) he
            · rw [if_pos z] at he
              have e1 : ordX (dT d) o i = t := by
                unfold ordX
                rw [← he]
              have e2 : (rdX (dT d) o (i + 1)).1 = left := by
                show (scX _ _ _ _ _).2 = left
                rw [← he]
              have e3 : (rdX (dT d) o (i + 1)).2 = nd (rdX (dT d) o i).2 (2 ^ t) := by
                show nd _ (2 ^ (scX _ _ _ _ _).1) = _
                rw [← he]
              have hsh : (1 : Int32) <<< (nI t &&& 31) = nI (2 ^ t) := (by decide +kernel : ∀ e, e < 5 → (1 : Int32) <<< (nI e &&& 31) = nI (2 ^ e)) t (by omega)
              have h2t : 2 ^ t < 32 := (by decide +kernel : ∀ e, e < 5 → 2 ^ e < 32) t (by omega)
              rw [hsh, nd_nI _ hrl.2 _ h2t, nI_clamp (by omega)]
              have := ih (i + 1) (sv_sA σ' 29 0 i (nI t)) (by omega) (sq_tr hs (sq_sA _ _ _ _ (by decide))) (fun k hk => by
                by_cases hki : k = i
                · subst hki
                  rw [gA_same, e1]
                · rw [gA_nj _ hki]
                  exact hr k (by omega))
              rw [e2, e3] at this
              exact this
          · rw [bit_sh _ hrl.2 t (by omega)] at y
            rw [if_neg y] at he
            exact ihn (t + 1) left (by omega) hl he
      exact inner (dT d) 0 (rdX (dT d) o i).1 (by omega) hrl.1 rfl
  apply e0
  refine ⟨d, hR, fun v2 h2 => ?_⟩
  have ev : v2 - 1 = nI (2 ^ dT d - 1) := by
    have := nI_pred (2 ^ dT d - 1)
    rw [show 2 ^ dT d - 1 + 1 = 2 ^ dT d by omega] at this
    rw [h2, this]
  rw [ev]
  exact key (dT d) 0 σ (by omega) (sq_rf _ _) (fun k hk => by omega)
-- ==== X3_clear
def sp_X3_clear : sv_P := fun av σ K => match av with
  | [.inr (.inr (3, 0)), .inl gone] => ∃ d : dD, ∃ pl : Nat → Option Nat, ∃ z : Nat, (RP d σ ∧ (z < 32 ∧ gone = nI z) ∧ UI d pl σ ∧ (∀ t, t < dT d → z.testBit t = true → ∃ q, pl t = some q)) ∧ (∀ σ2 : sv_S, sq [3] σ σ2 ∧ sv_gA σ2 3 0 5 = sv_gA σ 3 0 5 ∧ UI d (plgone pl z) σ2 → K none σ2)
  | _ => False
def tb_X3_clear : List (Nat × (Instr × Nat)) := [(0, (.iconst 0, 1)), (1, (.istore_n 2, 1)), (2, (.iload_n 2, 1)), (3, (.aload_n 0, 1)), (4, (.getfield 18, 3)), (7, (.getfield 56, 3)), (10, (.if_icmp .ge 48, 3)), (13, (.iload_n 1, 1)), (14, (.iload_n 2, 1)), (15, (.invokestatic 62, 3)), (18, (.ifCond .eq 34, 3)), (21, (.aload_n 0, 1)), (22, (.dup, 1)), (23, (.getfield 30, 3)), (26, (.aload_n 0, 1)), (27, (.getfield 15, 3)), (30, (.iload_n 2, 1)), (31, (.iaload, 1)), (32, (.aload_n 0, 1)), (33, (.getfield 18, 3)), (36, (.getfield 66, 3)), (39, (.iload_n 2, 1)), (40, (.iaload, 1)), (41, (.invokestatic 69, 3)), (44, (.ldc2_w 73, 3)), (47, (.lxor, 1)), (48, (.land, 1)), (49, (.putfield 30, 3)), (52, (.iinc 2 1, 3)), (55, (.goto (-53), 3)), (58, (.return_, 1))]
set_option maxRecDepth 100000 in
theorem tbk_X3_clear : sv_tbok cX3_clear tb_X3_clear = true := by decide +kernel
def cal_X3_clear : List (Nat × (Nat × Nat × sv_P)) := [(62, (2, 90, sp_X4_holds)), (69, (2, 90, sp_X3_cells))]
def T_X3_clear : sv_T := (flX3, sfX3, kcX3, klX3, cal_X3_clear)
set_option maxRecDepth 100000 in
theorem Tok_X3_clear (l : Launch) : sv_Tok l RX3 sv_all 1 21 T_X3_clear := ⟨flokX3, sfokX3, kcokX3, klokX3, List.forall_mem_cons.mpr ⟨⟨fun h => absurd h (by decide), fun _ => sv_COs_gen (c_X4_holds l) (Or.inr ⟨_, List.mem_of_getElem? (i := 4) rfl⟩) kw_X4_holds.1 kw_X4_holds.2.1 kw_X4_holds.2.2 kd_X4_holds rfl (by decide) (by decide +kernel)⟩, List.forall_mem_cons.mpr ⟨⟨fun h => absurd h (by decide), fun _ => sv_COs_gen (c_X3_cells l) (Or.inl (sv_mem 504 (by decide +kernel) rfl)) kw_X3_cells.1 kw_X3_cells.2.1 kw_X3_cells.2.2 kd_X3_cells rfl (by decide) (by decide +kernel)⟩, fun _ h => absurd h List.not_mem_nil⟩⟩⟩
theorem kw_X3_clear : Cond.instanceMethod yX3_clear ∈ sv_tb ∧ Cond.selects yX3_clear.cls yX3_clear yX3_clear ∈ sv_tb ∧ Cond.initialized yX3_clear.cls ∈ sv_tb ∧ Cond.code yX3_clear cX3_clear 3 none ∈ sv_tb := ⟨sv_mem 502 (by decide +kernel) rfl, sv_mem 12 (by decide +kernel) rfl, sv_mem 55 (by decide +kernel) rfl, sv_mem 503 (by decide +kernel) rfl⟩
theorem kd_X3_clear : yX3_clear.cls ≠ "java/lang/invoke/MethodHandle" ∧ yX3_clear.cls ≠ "java/lang/invoke/VarHandle" ∧ (parseMethodDescriptor yX3_clear.desc).map (fun d => d.parameters.length) = some 1 := by decide +kernel
def F_X3_clear_0 (Wk : sv_K) (Kr : Option sv_AV → sv_S → Prop) (gone : Int32) (σ : sv_S) : Prop := Wk 2 [some (.inr (.inr (3, 0))), some (.inl gone), some (.inl (0 : Int32))] [] σ
set_option maxRecDepth 100000 in
theorem bk_X3_clear_0 (Wk : sv_K) (Kr : Option sv_AV → sv_S → Prop) (gone : Int32) (σ : sv_S) (h : F_X3_clear_0 Wk Kr gone σ) : sv_vc tb_X3_clear T_X3_clear sv_all none Kr [(2, [true, true, true])] Wk 500 0 [some (.inr (.inr (3, 0))), some (.inl gone), none] [] σ := h
def F_X3_clear_2 (Wk : sv_K) (Kr : Option sv_AV → sv_S → Prop) (x1 : Int32) (x2 : Int32) (σ : sv_S) : Prop := (((sv_gA σ 2 0 1) ≤ x2 → Kr none σ) ∧ (¬ (sv_gA σ 2 0 1) ≤ x2 → ((((x1 >>> (x2 &&& 31)) &&& 1 = 1 → (vp_in x2 5 ∧ (vp_in x2 5 ∧ (∃ a1 : Nat, ∃ z2 : Nat, ((a1 < 60 ∧ (sv_gA σ 30 0 x2.toNatClampNeg) = nI a1) ∧ (z2 ≤ 20 ∧ (sv_gA σ 23 0 x2.toNatClampNeg) = nI z2)) ∧ (∀ v3 : Int64, v3 = lN (msk a1 z2) → Wk 2 [some (.inr (.inr (3, 0))), some (.inl x1), some (.inl (x2 + (1 : Int32)))] [] (sv_sJ σ 3 4 ((sv_gJ σ 3 4) &&& (v3 ^^^ (-1 : Int64))))))))) ∧ (¬ (x1 >>> (x2 &&& 31)) &&& 1 = 1 → Wk 2 [some (.inr (.inr (3, 0))), some (.inl x1), some (.inl (x2 + (1 : Int32)))] [] σ)))))
set_option maxRecDepth 100000 in
theorem bk_X3_clear_2 (Wk : sv_K) (Kr : Option sv_AV → sv_S → Prop) (x1 : Int32) (x2 : Int32) (σ : sv_S) (h : F_X3_clear_2 Wk Kr x1 x2 σ) : sv_vc tb_X3_clear T_X3_clear sv_all none Kr [(2, [true, true, true])] Wk 500 2 [some (.inr (.inr (3, 0))), some (.inl x1), some (.inl x2)] [] σ := ⟨fun z5 => ⟨rfl, ((h).1 z5)⟩, fun z5 => (match ((h).2 z5) with | ⟨z4a, z4b⟩ => ⟨fun z4y => br_f (by decide) ((z4a z4y)), fun z4y => br_t (by decide) ((z4b z4y))⟩)⟩
set_option maxRecDepth 100000 in
theorem m_X3_clear (l : Launch) (hb : ∀ (Wk : sv_K) (Kr : Option sv_AV → sv_S → Prop), (∀ (gone : Int32) (σ : sv_S), F_X3_clear_0 Wk Kr gone σ → Wk 0 [some (.inr (.inr (3, 0))), some (.inl gone), none] [] σ) → (∀ (x1 : Int32) (x2 : Int32) (σ : sv_S), F_X3_clear_2 Wk Kr x1 x2 σ → Wk 2 [some (.inr (.inr (3, 0))), some (.inl x1), some (.inl x2)] [] σ) → (∀ (gone : Int32) (σ : sv_S), (∃ d : dD, ∃ pl : Nat → Option Nat, ∃ z : Nat, (RP d σ ∧ (z < 32 ∧ gone = nI z) ∧ UI d pl σ ∧ (∀ t, t < dT d → z.testBit t = true → ∃ q, pl t = some q)) ∧ (∀ σ2 : sv_S, sq [3] σ σ2 ∧ sv_gA σ2 3 0 5 = sv_gA σ 3 0 5 ∧ UI d (plgone pl z) σ2 → Kr none σ2)) → Wk 0 [some (.inr (.inr (3, 0))), some (.inl gone), none] [] σ)) : sv_C l yX3_clear cX3_clear 3 none sv_all 1 21 sp_X3_clear := by
  refine sv_meth sv_clok_all tb_X3_clear T_X3_clear (by decide) tbk_X3_clear (Tok_X3_clear l) ?_
  intro Wk Kr hc av σ hsp
  have hB := hb Wk Kr (fun gone σ h => hc [(2, [true, true, true])] 500 0 _ _ _ (bk_X3_clear_0 Wk Kr gone σ h)) (fun x1 x2 σ h => hc [(2, [true, true, true])] 500 2 _ _ _ (bk_X3_clear_2 Wk Kr x1 x2 σ h))
  unfold sp_X3_clear at hsp
  split at hsp
  · exact ⟨⟨by simp, by simp [sv_cat]⟩, hB _ _ hsp⟩
  · exact hsp.elim
theorem gJ_same (σ : sv_S) (g k : Nat) (v : Int64) : sv_gJ (sv_sJ σ g k v) g k = v := by rw [sv_gJ_s, if_pos ⟨rfl, rfl⟩]
theorem xor_m1_bit {m c : Nat} (hc : c < 64) : (m ^^^ (2 ^ 64 - 1)).testBit c = true ↔ ¬ m.testBit c = true := by
  rw [Nat.testBit_xor, Nat.testBit_two_pow_sub_one]
  cases m.testBit c <;> simp [hc]
set_option maxHeartbeats 4000000 in
set_option maxRecDepth 100000 in
theorem c_X3_clear (l : Launch) : sv_C l yX3_clear cX3_clear 3 none sv_all 1 21 sp_X3_clear := by
  refine m_X3_clear l ?_
  intro Wk Kr e0 e2 gone σ ⟨d, pl, z, ⟨hR, ⟨hz, hg⟩, hU, hin⟩, h⟩
  subst hg
  have hT := hR.1.2.1
  have hroom := hR.1.2.2.2.2.2.2.1
  -- the first n things are looked at
  have key : ∀ m n σ', n + m = dT d → sq [3] σ σ' → sv_gA σ' 3 0 5 = sv_gA σ 3 0 5 → UI d (fun t => if t < n ∧ z.testBit t = true then none else pl t) σ' → Wk 2 [some (.inr (.inr (3, 0))), some (.inl (nI z)), some (.inl (nI n))] [] σ' := by
    intro m
    induction m with
    | zero =>
      intro n σ' hn hs h5 hU'
      have hR' := RP_fr hR hs
      apply e2
      unfold F_X3_clear_2
      rw [hR'.2.2.1]
      refine pk_le (dT d) n (fun _ => h _ ⟨hs, h5, ?_⟩) (fun z => by omega)
      obtain ⟨u, a1, a2, a3, a4, a5⟩ := hU'
      have e : ∀ t, t < dT d → plgone pl z t = if t < n ∧ z.testBit t = true then none else pl t := fun t ht => by
        unfold plgone
        by_cases c1 : z.testBit t = true
        · rw [if_pos c1, if_pos ⟨by omega, c1⟩]
        · rw [if_neg c1, if_neg (fun y => c1 y.2)]
      refine ⟨u, a1, a2, fun c => ?_, fun t ht q hq => a4 t ht q ((e t ht).symm.trans hq), fun t t' q q' ht ht' hne hq hq' => a5 t t' q q' ht ht' hne ((e t ht).symm.trans hq) ((e t' ht').symm.trans hq')⟩
      rw [a3]
      constructor
      · rintro ⟨t, ht, q, hq, r⟩
        exact ⟨t, ht, q, (e t ht).trans hq, r⟩
      · rintro ⟨t, ht, q, hq, r⟩
        exact ⟨t, ht, q, (e t ht).symm.trans hq, r⟩
    | succ m ih =>
      intro n σ' hn hs h5 hU'
      have hR' := RP_fr hR hs
      have hzn := hR.1.2.2.2.1 n (by omega)
      apply e2
      unfold F_X3_clear_2
      rw [hR'.2.2.1, nI_1, nI_clamp (by omega), hR'.2.2.2.2.2.1 n (by omega)]
      refine pk_le (dT d) n (fun z => by omega) (fun _ => ⟨fun y => ?_, fun y => ?_⟩)
      · rw [bit_sh z hz n (by omega)] at y
        obtain ⟨q, hq⟩ := hin n (by omega) y
        obtain ⟨u, a1, a2, a3, a4, a5⟩ := hU'
        have hqn : (fun t => if t < n ∧ z.testBit t = true then none else pl t) n = some q := by
          show (if n < n ∧ z.testBit n = true then none else pl n) = some q
          rw [if_neg (fun y => by omega)]
          exact hq
        have hpl := a4 n (by omega) q hqn
        refine ⟨pk_in n 5 (by omega), pk_in n 5 (by omega), q, dZ d n, ⟨⟨by omega, hpl.1⟩, hzn.2, rfl⟩, fun v3 h3 => ?_⟩
        rw [h3, a1, show (-1 : Int64) = lN (2 ^ 64 - 1) from by decide, lN_xor, lN_and]
        refine ih (n + 1) _ (by omega) (sq_tr hs (sq_sJ _ _ _ (by decide))) h5 ⟨u &&& (msk q (dZ d n) ^^^ (2 ^ 64 - 1)), gJ_same _ _ _ _, Nat.lt_of_le_of_lt Nat.and_le_left a2, fun c => ?_, fun t ht q' hq' => ?_, fun t t' q1 q2 ht ht' hne h1 h2 => ?_⟩
        · rw [and_bit, a3]
          constructor
          · rintro ⟨⟨t, ht, q', hq', r1, r2⟩, hx⟩
            have hq'' : (if t < n ∧ z.testBit t = true then none else pl t) = some q' := hq'
            have hc64 : c < 64 := by have := (a4 t ht q' hq').2; omega
            rw [xor_m1_bit hc64, msk_bit] at hx
            have htn : t ≠ n := fun y => by
              subst y
              have : q' = q := Option.some.inj (hq'.symm.trans hqn)
              subst this
              exact hx ⟨r1, r2⟩
            refine ⟨t, ht, q', ?_, r1, r2⟩
            show (if t < n + 1 ∧ z.testBit t = true then none else pl t) = some q'
            by_cases c1 : t < n ∧ z.testBit t = true
            · rw [if_pos c1] at hq''
              cases hq''
            · rw [if_neg (fun y => c1 ⟨by omega, y.2⟩)]
              rw [if_neg c1] at hq''
              exact hq''
          · rintro ⟨t, ht, q', hq', r1, r2⟩
            have hq'' : (if t < n + 1 ∧ z.testBit t = true then none else pl t) = some q' := hq'
            by_cases c1 : t < n + 1 ∧ z.testBit t = true
            · rw [if_pos c1] at hq''
              cases hq''
            · rw [if_neg c1] at hq''
              have htn : t ≠ n := fun y => c1 ⟨by omega, by rw [y]; assumption⟩
              have hq3 : (fun t => if t < n ∧ z.testBit t = true then none else pl t) t = some q' := by
                show (if t < n ∧ z.testBit t = true then none else pl t) = some q'
                rw [if_neg (fun y => c1 ⟨by omega, y.2⟩)]
                exact hq''
              refine ⟨⟨t, ht, q', hq3, r1, r2⟩, ?_⟩
              have hc64 : c < 64 := by have := (a4 t ht q' hq3).2; omega
              rw [xor_m1_bit hc64, msk_bit]
              have := a5 t n q' q ht (by omega) htn hq3 hqn
              omega
        · have hq'' : (if t < n + 1 ∧ z.testBit t = true then none else pl t) = some q' := hq'
          by_cases c1 : t < n + 1 ∧ z.testBit t = true
          · rw [if_pos c1] at hq''
            cases hq''
          · rw [if_neg c1] at hq''
            exact a4 t ht q' (by show (if t < n ∧ z.testBit t = true then none else pl t) = some q'; rw [if_neg (fun y => c1 ⟨by omega, y.2⟩)]; exact hq'')
        · have g1 : (if t < n + 1 ∧ z.testBit t = true then none else pl t) = some q1 := h1
          have g2 : (if t' < n + 1 ∧ z.testBit t' = true then none else pl t') = some q2 := h2
          by_cases c1 : t < n + 1 ∧ z.testBit t = true
          · rw [if_pos c1] at g1
            cases g1
          · by_cases c2 : t' < n + 1 ∧ z.testBit t' = true
            · rw [if_pos c2] at g2
              cases g2
            · rw [if_neg c1] at g1
              rw [if_neg c2] at g2
              exact a5 t t' q1 q2 ht ht' hne (by show (if t < n ∧ z.testBit t = true then none else pl t) = some q1; rw [if_neg (fun y => c1 ⟨by omega, y.2⟩)]; exact g1) (by show (if t' < n ∧ z.testBit t' = true then none else pl t') = some q2; rw [if_neg (fun y => c2 ⟨by omega, y.2⟩)]; exact g2)
      · rw [bit_sh z hz n (by omega)] at y
        refine ih (n + 1) σ' (by omega) hs h5 ?_
        have e : (fun t => if t < n + 1 ∧ z.testBit t = true then none else pl t) = (fun t => if t < n ∧ z.testBit t = true then none else pl t) := by
          funext t
          by_cases c1 : t < n ∧ z.testBit t = true
          · rw [if_pos c1, if_pos ⟨by omega, c1.2⟩]
          · rw [if_neg c1, if_neg (fun x => by
              rcases Nat.lt_or_ge t n with g | g
              · exact c1 ⟨g, x.2⟩
              · exact y (by have := x.1; rw [show n = t by omega]; exact x.2))]
        rw [e]
        exact hU'
  apply e0
  refine key (dT d) 0 σ (by omega) (sq_rf _ _) rfl ?_
  have e : (fun t => if t < 0 ∧ z.testBit t = true then none else pl t) = pl := by
    funext t
    rw [if_neg (fun y => by omega)]
  rw [e]
  exact hU
-- ==== X3_placeAll
def sp_X3_placeAll : sv_P := fun av σ K => match av with
  | [.inr (.inr (3, 0)), .inl coming] => ∃ d : dD, ∃ pl : Nat → Option Nat, ∃ rc : Nat, ∃ z : Nat, ∃ o : Nat, (RP d σ ∧ (z < 32 ∧ coming = nI z) ∧ UI d pl σ ∧ (sv_gA σ 3 0 5 = nI rc ∧ rc ≤ 60) ∧ (o < fct (dT d) ∧ ∀ k, k < dT d → sv_gA σ 29 0 k = nI (ordX (dT d) o k)) ∧ (∀ t, z.testBit t = true → pl t = none)) ∧ (∀ v : Int32, ∀ σ2 : sv_S, sq [3, 30] σ σ2 ∧ plPost d (plAll d (ordX (dT d) o) z (dT d) (pl, rc)) v σ2 → K (some (.inl v)) σ2)
  | _ => False
def tb_X3_placeAll : List (Nat × (Instr × Nat)) := [(0, (.iconst 0, 1)), (1, (.istore_n 2, 1)), (2, (.iload_n 2, 1)), (3, (.aload_n 0, 1)), (4, (.getfield 18, 3)), (7, (.getfield 56, 3)), (10, (.if_icmp .ge 105, 3)), (13, (.aload_n 0, 1)), (14, (.getfield 9, 3)), (17, (.iload_n 2, 1)), (18, (.iaload, 1)), (19, (.istore_n 3, 1)), (20, (.iload_n 1, 1)), (21, (.iload_n 3, 1)), (22, (.invokestatic 62, 3)), (25, (.ifCond .ne 6, 3)), (28, (.goto 81, 3)), (31, (.aload_n 0, 1)), (32, (.aload_n 0, 1)), (33, (.getfield 18, 3)), (36, (.getfield 66, 3)), (39, (.iload_n 3, 1)), (40, (.iaload, 1)), (41, (.invokevirtual 75, 3)), (44, (.istore 4, 2)), (46, (.iload 4, 2)), (48, (.bipush (-9), 2)), (50, (.if_icmp .ne 5, 3)), (53, (.iconst 0, 1)), (54, (.ireturn, 1)), (55, (.aload_n 0, 1)), (56, (.getfield 15, 3)), (59, (.iload_n 3, 1)), (60, (.iload 4, 2)), (62, (.iastore, 1)), (63, (.aload_n 0, 1)), (64, (.dup, 1)), (65, (.getfield 30, 3)), (68, (.iload 4, 2)), (70, (.aload_n 0, 1)), (71, (.getfield 18, 3)), (74, (.getfield 66, 3)), (77, (.iload_n 3, 1)), (78, (.iaload, 1)), (79, (.invokestatic 69, 3)), (82, (.lor, 1)), (83, (.putfield 30, 3)), (86, (.aload_n 0, 1)), (87, (.aload_n 0, 1)), (88, (.getfield 34, 3)), (91, (.iload 4, 2)), (93, (.aload_n 0, 1)), (94, (.getfield 18, 3)), (97, (.getfield 66, 3)), (100, (.iload_n 3, 1)), (101, (.iaload, 1)), (102, (.iadd, 1)), (103, (.invokestatic 79, 3)), (106, (.putfield 34, 3)), (109, (.iinc 2 1, 3)), (112, (.goto (-110), 3)), (115, (.iconst 1, 1)), (116, (.ireturn, 1))]
set_option maxRecDepth 100000 in
theorem tbk_X3_placeAll : sv_tbok cX3_placeAll tb_X3_placeAll = true := by decide +kernel
def cal_X3_placeAll : List (Nat × (Nat × Nat × sv_P)) := [(62, (2, 90, sp_X4_holds)), (75, (2, 3, sp_X3_firstFree)), (69, (2, 90, sp_X3_cells)), (79, (2, 90, sp_J9_max_7cf53))]
def T_X3_placeAll : sv_T := (flX3, sfX3, kcX3, klX3, cal_X3_placeAll)
set_option maxRecDepth 100000 in
theorem Tok_X3_placeAll (l : Launch) : sv_Tok l RX3 sv_all 2 43 T_X3_placeAll := ⟨flokX3, sfokX3, kcokX3, klokX3, List.forall_mem_cons.mpr ⟨⟨fun h => absurd h (by decide), fun _ => sv_COs_gen (c_X4_holds l) (Or.inr ⟨_, List.mem_of_getElem? (i := 4) rfl⟩) kw_X4_holds.1 kw_X4_holds.2.1 kw_X4_holds.2.2 kd_X4_holds rfl (by decide) (by decide +kernel)⟩, List.forall_mem_cons.mpr ⟨⟨fun _ => sv_COv_of (c_X3_firstFree l) sv_clok_all (sv_mem 512 (by decide +kernel) rfl) kw_X3_firstFree.1 kw_X3_firstFree.2.1 kw_X3_firstFree.2.2.1 kw_X3_firstFree.2.2.2 kd_X3_firstFree rfl (by decide) (by decide +kernel) rfl (by decide), fun h => absurd h (by decide)⟩, List.forall_mem_cons.mpr ⟨⟨fun h => absurd h (by decide), fun _ => sv_COs_gen (c_X3_cells l) (Or.inl (sv_mem 504 (by decide +kernel) rfl)) kw_X3_cells.1 kw_X3_cells.2.1 kw_X3_cells.2.2 kd_X3_cells rfl (by decide) (by decide +kernel)⟩, List.forall_mem_cons.mpr ⟨⟨fun h => absurd h (by decide), fun _ => sv_COs_max (sv_mem 516 (by decide +kernel) rfl) (by decide) (by decide)⟩, fun _ h => absurd h List.not_mem_nil⟩⟩⟩⟩⟩
theorem kw_X3_placeAll : Cond.instanceMethod yX3_placeAll ∈ sv_tb ∧ Cond.selects yX3_placeAll.cls yX3_placeAll yX3_placeAll ∈ sv_tb ∧ Cond.initialized yX3_placeAll.cls ∈ sv_tb ∧ Cond.code yX3_placeAll cX3_placeAll 5 (some .boolean) ∈ sv_tb := ⟨sv_mem 510 (by decide +kernel) rfl, sv_mem 13 (by decide +kernel) rfl, sv_mem 55 (by decide +kernel) rfl, sv_mem 511 (by decide +kernel) rfl⟩
theorem kd_X3_placeAll : yX3_placeAll.cls ≠ "java/lang/invoke/MethodHandle" ∧ yX3_placeAll.cls ≠ "java/lang/invoke/VarHandle" ∧ (parseMethodDescriptor yX3_placeAll.desc).map (fun d => d.parameters.length) = some 1 := by decide +kernel
def F_X3_placeAll_0 (Wk : sv_K) (Kr : Option sv_AV → sv_S → Prop) (coming : Int32) (σ : sv_S) : Prop := Wk 2 [some (.inr (.inr (3, 0))), some (.inl coming), some (.inl (0 : Int32)), none, none] [] σ
set_option maxRecDepth 100000 in
theorem bk_X3_placeAll_0 (Wk : sv_K) (Kr : Option sv_AV → sv_S → Prop) (coming : Int32) (σ : sv_S) (h : F_X3_placeAll_0 Wk Kr coming σ) : sv_vc tb_X3_placeAll T_X3_placeAll sv_all (some .boolean) Kr [(2, [true, true, true, false, false])] Wk 500 0 [some (.inr (.inr (3, 0))), some (.inl coming), none, none, none] [] σ := h
def F_X3_placeAll_2 (Wk : sv_K) (Kr : Option sv_AV → sv_S → Prop) (x1 : Int32) (x2 : Int32) (σ : sv_S) : Prop := (((sv_gA σ 2 0 1) ≤ x2 → Kr (some (.inl (1 : Int32))) σ) ∧ (¬ (sv_gA σ 2 0 1) ≤ x2 → (vp_in x2 5 ∧ ((((x1 >>> ((sv_gA σ 29 0 x2.toNatClampNeg) &&& 31)) &&& 1 = 1 → (vp_in (sv_gA σ 29 0 x2.toNatClampNeg) 5 ∧ (∃ d1 : dD, ∃ pl2 : Nat → Option Nat, ∃ t3 : Nat, (RP d1 σ ∧ (t3 < dT d1 ∧ (sv_gA σ 23 0 (sv_gA σ 29 0 x2.toNatClampNeg).toNatClampNeg) = nI (dZ d1 t3)) ∧ UI d1 pl2 σ) ∧ (∀ v4 : Int32, v4 = fpI (fplace d1 pl2 t3) → ((¬ v4 = (-9 : Int32) → (vp_in (sv_gA σ 29 0 x2.toNatClampNeg) 5 ∧ (vp_in (sv_gA σ 29 0 x2.toNatClampNeg) 5 ∧ (∃ a5 : Nat, ∃ z6 : Nat, ((a5 < 60 ∧ v4 = nI a5) ∧ (z6 ≤ 20 ∧ (sv_gA σ 23 0 (sv_gA σ 29 0 x2.toNatClampNeg).toNatClampNeg) = nI z6)) ∧ (∀ v7 : Int64, v7 = lN (msk a5 z6) → (vp_in (sv_gA σ 29 0 x2.toNatClampNeg) 5 ∧ Wk 2 [some (.inr (.inr (3, 0))), some (.inl x1), some (.inl (x2 + (1 : Int32))), none, none] [] (sv_sA (sv_sJ (sv_sA σ 30 0 (sv_gA σ 29 0 x2.toNatClampNeg).toNatClampNeg v4) 3 4 ((sv_gJ σ 3 4) ||| v7)) 3 0 5 (if (sv_gA σ 3 0 5) < (v4 + (sv_gA σ 23 0 (sv_gA σ 29 0 x2.toNatClampNeg).toNatClampNeg)) then (v4 + (sv_gA σ 23 0 (sv_gA σ 29 0 x2.toNatClampNeg).toNatClampNeg)) else (sv_gA σ 3 0 5))))))))) ∧ (v4 = (-9 : Int32) → Kr (some (.inl (0 : Int32))) σ)))))) ∧ (¬ (x1 >>> ((sv_gA σ 29 0 x2.toNatClampNeg) &&& 31)) &&& 1 = 1 → Wk 2 [some (.inr (.inr (3, 0))), some (.inl x1), some (.inl (x2 + (1 : Int32))), none, none] [] σ))))))
set_option maxRecDepth 100000 in
theorem bk_X3_placeAll_2 (Wk : sv_K) (Kr : Option sv_AV → sv_S → Prop) (x1 : Int32) (x2 : Int32) (σ : sv_S) (h : F_X3_placeAll_2 Wk Kr x1 x2 σ) : sv_vc tb_X3_placeAll T_X3_placeAll sv_all (some .boolean) Kr [(2, [true, true, true, false, false])] Wk 500 2 [some (.inr (.inr (3, 0))), some (.inl x1), some (.inl x2), none, none] [] σ := ⟨fun z11 => ⟨rfl, ((h).1 z11)⟩, fun z11 => ⟨(((h).2 z11)).1, (match ((((h).2 z11)).2) with | ⟨z10a, z10b⟩ => ⟨fun z10y => sb_nt (by decide) (⟨((z10a z10y)).1, (match (((z10a z10y)).2) with | ⟨d1, pl2, t3, z9p, z9k⟩ => ⟨d1, pl2, t3, z9p, fun v4 z9y => ⟨fun z8 => (((z9k v4 z9y)).1 z8), fun z8 => ⟨rfl, (((z9k v4 z9y)).2 z8)⟩⟩⟩)⟩), fun z10y => sb_nf (by decide) ((z10b z10y))⟩)⟩⟩
set_option maxRecDepth 100000 in
theorem m_X3_placeAll (l : Launch) (hb : ∀ (Wk : sv_K) (Kr : Option sv_AV → sv_S → Prop), (∀ (coming : Int32) (σ : sv_S), F_X3_placeAll_0 Wk Kr coming σ → Wk 0 [some (.inr (.inr (3, 0))), some (.inl coming), none, none, none] [] σ) → (∀ (x1 : Int32) (x2 : Int32) (σ : sv_S), F_X3_placeAll_2 Wk Kr x1 x2 σ → Wk 2 [some (.inr (.inr (3, 0))), some (.inl x1), some (.inl x2), none, none] [] σ) → (∀ (coming : Int32) (σ : sv_S), (∃ d : dD, ∃ pl : Nat → Option Nat, ∃ rc : Nat, ∃ z : Nat, ∃ o : Nat, (RP d σ ∧ (z < 32 ∧ coming = nI z) ∧ UI d pl σ ∧ (sv_gA σ 3 0 5 = nI rc ∧ rc ≤ 60) ∧ (o < fct (dT d) ∧ ∀ k, k < dT d → sv_gA σ 29 0 k = nI (ordX (dT d) o k)) ∧ (∀ t, z.testBit t = true → pl t = none)) ∧ (∀ v : Int32, ∀ σ2 : sv_S, sq [3, 30] σ σ2 ∧ plPost d (plAll d (ordX (dT d) o) z (dT d) (pl, rc)) v σ2 → Kr (some (.inl v)) σ2)) → Wk 0 [some (.inr (.inr (3, 0))), some (.inl coming), none, none, none] [] σ)) : sv_C l yX3_placeAll cX3_placeAll 5 (some .boolean) sv_all 2 43 sp_X3_placeAll := by
  refine sv_meth sv_clok_all tb_X3_placeAll T_X3_placeAll (by decide) tbk_X3_placeAll (Tok_X3_placeAll l) ?_
  intro Wk Kr hc av σ hsp
  have hB := hb Wk Kr (fun coming σ h => hc [(2, [true, true, true, false, false])] 500 0 _ _ _ (bk_X3_placeAll_0 Wk Kr coming σ h)) (fun x1 x2 σ h => hc [(2, [true, true, true, false, false])] 500 2 _ _ _ (bk_X3_placeAll_2 Wk Kr x1 x2 σ h))
  unfold sp_X3_placeAll at hsp
  split at hsp
  · exact ⟨⟨by simp, by simp [sv_cat]⟩, hB _ _ hsp⟩
  · exact hsp.elim
theorem plAll_succ (d : dD) (ord : Nat → Nat) (z n : Nat) (q : (Nat → Option Nat) × Nat) : plAll d ord z (n + 1) q = (plAll d ord z n q).bind (plstep d z (ord n)) := rfl
theorem UI_set {d : dD} (h : wfP d) {pl : Nat → Option Nat} {σ σ' : sv_S} {t a u : Nat} (ht : t < dT d) (hn : pl t = none) (hf : frP d pl t a) (hu1 : u < 2 ^ 60) (hu3 : ∀ c, u.testBit c = true ↔ ∃ t, t < dT d ∧ ∃ q, pl t = some q ∧ q ≤ c ∧ c < q + dZ d t) (hu4 : ∀ t, t < dT d → ∀ q, pl t = some q → sv_gA σ 30 0 t = nI q ∧ q + dZ d t ≤ dS d 0) (hu5 : ∀ t t' q q', t < dT d → t' < dT d → t ≠ t' → pl t = some q → pl t' = some q' → q + dZ d t ≤ q' ∨ q' + dZ d t' ≤ q)
    (e1 : sv_gJ σ' 3 4 = lN (u ||| msk a (dZ d t))) (e2 : sv_gA σ' 30 0 t = nI a) (e3 : ∀ x, x ≠ t → sv_gA σ' 30 0 x = sv_gA σ 30 0 x) : UI d (plset pl t a) σ' := by
  have hroom := h.2.2.2.2.2.2.1
  have hf1 := hf.1
  refine ⟨u ||| msk a (dZ d t), e1, ?_, fun c => ?_, fun x hx q hq => ?_, fun x x' q q' hx hx' hne hq hq' => ?_⟩
  · refine Nat.or_lt_two_pow hu1 ?_
    unfold msk
    rw [Nat.shiftLeft_eq]
    have h1 : 2 ^ dZ d t - 1 < 2 ^ dZ d t := Nat.sub_lt (Nat.two_pow_pos _) (by omega)
    calc (2 ^ dZ d t - 1) * 2 ^ a < 2 ^ dZ d t * 2 ^ a := Nat.mul_lt_mul_of_pos_right h1 (Nat.two_pow_pos _)
      _ = 2 ^ (dZ d t + a) := (Nat.pow_add 2 _ a).symm
      _ ≤ 2 ^ 60 := Nat.pow_le_pow_right (by omega) (by omega)
  · rw [or_bit, hu3, msk_bit]
    constructor
    · rintro (⟨x, hx, q, hq, r1, r2⟩ | ⟨r1, r2⟩)
      · refine ⟨x, hx, q, ?_, r1, r2⟩
        unfold plset
        rw [if_neg (fun y => by rw [y, hn] at hq; cases hq)]
        exact hq
      · exact ⟨t, ht, a, by unfold plset; rw [if_pos rfl], r1, r2⟩
    · rintro ⟨x, hx, q, hq, r1, r2⟩
      unfold plset at hq
      by_cases c1 : x = t
      · rw [if_pos c1] at hq
        have := Option.some.inj hq
        subst this
        subst c1
        exact Or.inr ⟨r1, r2⟩
      · rw [if_neg c1] at hq
        exact Or.inl ⟨x, hx, q, hq, r1, r2⟩
  · unfold plset at hq
    by_cases c1 : x = t
    · rw [if_pos c1] at hq
      have := Option.some.inj hq
      subst this
      subst c1
      exact ⟨e2, hf1⟩
    · rw [if_neg c1] at hq
      rw [e3 x c1]
      exact hu4 x hx q hq
  · unfold plset at hq hq'
    by_cases c1 : x = t
    · rw [if_pos c1] at hq
      have := Option.some.inj hq
      subst this
      subst c1
      rw [if_neg (fun y => hne y.symm)] at hq'
      have := hf.2 x' hx' q' hq'
      omega
    · rw [if_neg c1] at hq
      by_cases c2 : x' = t
      · rw [if_pos c2] at hq'
        have := Option.some.inj hq'
        subst this
        subst c2
        have := hf.2 x hx q hq
        omega
      · rw [if_neg c2] at hq'
        exact hu5 x x' q q' hx hx' hne hq hq'
theorem max_nI {x y : Nat} (hx : x < 2 ^ 31) (hy : y < 2 ^ 31) : (if nI x < nI y then nI y else nI x) = nI (max x y) := by
  by_cases q : x < y
  · rw [if_pos (nI_lt q hy), Nat.max_eq_right (by omega)]
  · rw [if_neg (nI_nlt (by omega) hx), Nat.max_eq_left (by omega)]
set_option maxHeartbeats 4000000 in
set_option maxRecDepth 100000 in
theorem c_X3_placeAll (l : Launch) : sv_C l yX3_placeAll cX3_placeAll 5 (some .boolean) sv_all 2 43 sp_X3_placeAll := by
  refine m_X3_placeAll l ?_
  intro Wk Kr e0 e2 coming σ ⟨d, pl, rc, z, o, ⟨hR, ⟨hz, hcm⟩, hU, ⟨hrc, hrc6⟩, ⟨ho, hord⟩, hno⟩, h⟩
  subst hcm
  have hT := hR.1.2.1
  have hroom := hR.1.2.2.2.2.2.2.1
  have key : ∀ m n σ' q, n + m = dT d → sq [3, 30] σ σ' → plAll d (ordX (dT d) o) z n (pl, rc) = some q → UI d q.1 σ' → sv_gA σ' 3 0 5 = nI q.2 → q.2 ≤ 60 → Wk 2 [some (.inr (.inr (3, 0))), some (.inl (nI z)), some (.inl (nI n)), none, none] [] σ' := by
    intro m
    induction m with
    | zero =>
      intro n σ' q hn hs hpa hU' h5 h6
      have hR' := RP_fr hR hs
      apply e2
      unfold F_X3_placeAll_2
      rw [hR'.2.2.1]
      refine pk_le (dT d) n (fun _ => h _ _ ⟨hs, ?_⟩) (fun z => by omega)
      rw [← show n = dT d by omega, show ordX n o = ordX (dT d) o by rw [show n = dT d by omega], hpa]
      exact ⟨rfl, hU', h5, h6⟩
    | succ m ih =>
      intro n σ' q hn hs hpa hU' h5 h6
      have hR' := RP_fr hR hs
      have hol := ord_lt (dT d) (by omega) o ho n (by omega)
      have hzt := hR.1.2.2.2.1 _ hol
      have hps := plAll_succ d (ordX (dT d) o) z n (pl, rc)
      rw [hpa] at hps
      have hps : plAll d (ordX (dT d) o) z (n + 1) (pl, rc) = plstep d z (ordX (dT d) o n) q := hps
      unfold plstep at hps
      have hord' : sv_gA σ' 29 0 n = nI (ordX (dT d) o n) := by rw [hs.1 _ (by decide)]; exact hord n (by omega)
      have hin5 : vp_in (nI (ordX (dT d) o n)) 5 := pk_in (ordX (dT d) o n) 5 (by omega)
      apply e2
      unfold F_X3_placeAll_2
      rw [hR'.2.2.1, nI_1, nI_clamp (by omega : n < 2 ^ 31), hord', nI_clamp (by omega : ordX (dT d) o n < 2 ^ 31), hR'.2.2.2.2.2.1 _ hol, h5]
      refine pk_le (dT d) n (fun z => by omega) (fun _ => ⟨pk_in n 5 (by omega), fun y => ⟨hin5, d, q.1, ordX (dT d) o n, ⟨hR', ⟨hol, rfl⟩, hU'⟩, fun v4 h4 => ⟨fun w => ?_, fun w => ?_⟩⟩, fun y => ?_⟩)
      · rw [bit_sh z hz _ (by omega)] at y
        rw [if_pos y] at hps
        cases hf : fplace d q.1 (ordX (dT d) o n) with
        | none =>
          rw [hf] at h4
          exact absurd h4 w
        | some a =>
          rw [hf] at h4 hps
          have h4 : v4 = nI a := h4
          have hfa := fplace_at hf
          subst h4
          refine ⟨hin5, hin5, a, dZ d (ordX (dT d) o n), ⟨⟨hfa.2, rfl⟩, hzt.2, rfl⟩, fun v7 h7 => ⟨hin5, ?_⟩⟩
          obtain ⟨u, a1, a2, a3, a4, a5⟩ := hU'
          have hf1 := hfa.1.1
          rw [h7, a1, lN_or, nI_add, max_nI (by omega) (by omega)]
          have hqn : q.1 (ordX (dT d) o n) = none := by
            rw [(plAll_in hpa _).2 (fun k hk e => by have := ord_inj (dT d) (by omega) o ho k (by omega) n (by omega) e; omega)]
            exact hno _ y
          refine ih (n + 1) _ _ (by omega) (sq_tr (sq_tr (sq_tr hs (sq_sA _ _ _ _ (by decide))) (sq_sJ _ _ _ (by decide))) (sq_sA _ _ _ _ (by decide))) hps (UI_set hR.1 (σ := σ') hol hqn hfa.1 a2 a3 a4 a5 ?_ ?_ (fun x hx => ?_)) (gA_same _ _ _ _ _) (by show max q.2 _ ≤ 60; omega)
          · rw [sv_gJ_sA]
            exact gJ_same _ _ _ _
          · rw [gA_ng _ (by decide), sv_gA_sJ]
            exact gA_same _ _ _ _ _
          · rw [gA_ng _ (by decide), sv_gA_sJ]
            exact gA_nj _ hx
      · rw [bit_sh z hz _ (by omega)] at y
        rw [if_pos y] at hps
        refine h _ _ ⟨hs, ?_⟩
        cases hf : fplace d q.1 (ordX (dT d) o n) with
        | none =>
          rw [hf] at hps
          have hall := plAll_none (n := n + 1) hps (dT d) (by omega)
          rw [hall]
          rfl
        | some a =>
          rw [hf] at h4
          have h4 : v4 = nI a := h4
          have hfa := fplace_at hf
          rw [h4] at w
          have h1 := nI_toInt (show a < 2 ^ 31 by omega)
          rw [w] at h1
          have h2 : (-9 : Int32).toInt = -9 := by decide
          omega
      · rw [bit_sh z hz _ (by omega)] at y
        rw [if_neg y] at hps
        exact ih (n + 1) σ' q (by omega) hs hps hU' h5 h6
  apply e0
  exact key (dT d) 0 σ (pl, rc) (by omega) (sq_rf _ _) rfl hU hrc hrc6
-- ==== X3_fillUpTo
def sp_X3_fillUpTo : sv_P := fun av σ K => match av with
  | [.inr (.inr (3, 0)), .inl last, .inl order] => ∃ d : dD, ∃ n : Nat, ∃ o : Nat, (RP d σ ∧ RQ d σ ∧ (n ≤ dP d ∧ last = nI n - 1) ∧ (o < fct (dT d) ∧ order = nI o)) ∧ (∀ v : Int32, ∀ σ2 : sv_S, sq [3, 29, 30] σ σ2 ∧ v = stkN d o n ∧ (∀ q, shl d (dL d) (ordX (dT d) o) n = some q → UI d q.1 σ2 ∧ sv_gA σ2 3 0 5 = nI q.2) → K (some (.inl v)) σ2)
  | _ => False
def tb_X3_fillUpTo : List (Nat × (Instr × Nat)) := [(0, (.aload_n 0, 1)), (1, (.iload_n 2, 1)), (2, (.invokevirtual 26, 3)), (5, (.aload_n 0, 1)), (6, (.lconst 0, 1)), (7, (.putfield 30, 3)), (10, (.aload_n 0, 1)), (11, (.iconst 0, 1)), (12, (.putfield 34, 3)), (15, (.iconst 0, 1)), (16, (.istore_n 3, 1)), (17, (.iconst 0, 1)), (18, (.istore 4, 2)), (20, (.iload 4, 2)), (22, (.iload_n 1, 1)), (23, (.if_icmp .gt 50, 3)), (26, (.aload_n 0, 1)), (27, (.getfield 22, 3)), (30, (.getfield 38, 3)), (33, (.iload 4, 2)), (35, (.iaload, 1)), (36, (.istore 5, 2)), (38, (.aload_n 0, 1)), (39, (.iload_n 3, 1)), (40, (.iload 5, 2)), (42, (.iconst (-1), 1)), (43, (.ixor, 1)), (44, (.iand, 1)), (45, (.invokevirtual 43, 3)), (48, (.aload_n 0, 1)), (49, (.iload 5, 2)), (51, (.iload_n 3, 1)), (52, (.iconst (-1), 1)), (53, (.ixor, 1)), (54, (.iand, 1)), (55, (.invokevirtual 46, 3)), (58, (.ifCond .ne 6, 3)), (61, (.iload 4, 2)), (63, (.ireturn, 1)), (64, (.iload 5, 2)), (66, (.istore_n 3, 1)), (67, (.iinc 4 1, 3)), (70, (.goto (-50), 3)), (73, (.bipush (-9), 2)), (75, (.ireturn, 1))]
set_option maxRecDepth 100000 in
theorem tbk_X3_fillUpTo : sv_tbok cX3_fillUpTo tb_X3_fillUpTo = true := by decide +kernel
def cal_X3_fillUpTo : List (Nat × (Nat × Nat × sv_P)) := [(26, (2, 3, sp_X3_readOrder)), (43, (2, 3, sp_X3_clear)), (46, (2, 3, sp_X3_placeAll))]
def T_X3_fillUpTo : sv_T := (flX3, sfX3, kcX3, klX3, cal_X3_fillUpTo)
set_option maxRecDepth 100000 in
theorem Tok_X3_fillUpTo (l : Launch) : sv_Tok l RX3 sv_all 3 67 T_X3_fillUpTo := ⟨flokX3, sfokX3, kcokX3, klokX3, List.forall_mem_cons.mpr ⟨⟨fun _ => sv_COv_of (c_X3_readOrder l) sv_clok_all (sv_mem 493 (by decide +kernel) rfl) kw_X3_readOrder.1 kw_X3_readOrder.2.1 kw_X3_readOrder.2.2.1 kw_X3_readOrder.2.2.2 kd_X3_readOrder rfl (by decide) (by decide +kernel) rfl (by decide), fun h => absurd h (by decide)⟩, List.forall_mem_cons.mpr ⟨⟨fun _ => sv_COv_of (c_X3_clear l) sv_clok_all (sv_mem 500 (by decide +kernel) rfl) kw_X3_clear.1 kw_X3_clear.2.1 kw_X3_clear.2.2.1 kw_X3_clear.2.2.2 kd_X3_clear rfl (by decide) (by decide +kernel) rfl (by decide), fun h => absurd h (by decide)⟩, List.forall_mem_cons.mpr ⟨⟨fun _ => sv_COv_of (c_X3_placeAll l) sv_clok_all (sv_mem 508 (by decide +kernel) rfl) kw_X3_placeAll.1 kw_X3_placeAll.2.1 kw_X3_placeAll.2.2.1 kw_X3_placeAll.2.2.2 kd_X3_placeAll rfl (by decide) (by decide +kernel) rfl (by decide), fun h => absurd h (by decide)⟩, fun _ h => absurd h List.not_mem_nil⟩⟩⟩⟩
theorem kw_X3_fillUpTo : Cond.instanceMethod yX3_fillUpTo ∈ sv_tb ∧ Cond.selects yX3_fillUpTo.cls yX3_fillUpTo yX3_fillUpTo ∈ sv_tb ∧ Cond.initialized yX3_fillUpTo.cls ∈ sv_tb ∧ Cond.code yX3_fillUpTo cX3_fillUpTo 6 (some .int) ∈ sv_tb := ⟨sv_mem 490 (by decide +kernel) rfl, sv_mem 491 (by decide +kernel) rfl, sv_mem 55 (by decide +kernel) rfl, sv_mem 492 (by decide +kernel) rfl⟩
theorem kd_X3_fillUpTo : yX3_fillUpTo.cls ≠ "java/lang/invoke/MethodHandle" ∧ yX3_fillUpTo.cls ≠ "java/lang/invoke/VarHandle" ∧ (parseMethodDescriptor yX3_fillUpTo.desc).map (fun d => d.parameters.length) = some 2 := by decide +kernel
def F_X3_fillUpTo_0 (Wk : sv_K) (Kr : Option sv_AV → sv_S → Prop) (last : Int32) (order : Int32) (σ : sv_S) : Prop := (∃ d1 : dD, ∃ o2 : Nat, (RP d1 σ ∧ (o2 < fct (dT d1) ∧ order = nI o2)) ∧ (∀ σ4 : sv_S, sq [29] σ σ4 ∧ (∀ k, k < dT d1 → sv_gA σ4 29 0 k = nI (ordX (dT d1) o2 k)) → Wk 20 [some (.inr (.inr (3, 0))), some (.inl last), none, some (.inl (0 : Int32)), some (.inl (0 : Int32)), none] [] (sv_sA (sv_sJ σ4 3 4 (0 : Int64)) 3 0 5 (0 : Int32))))
set_option maxRecDepth 100000 in
theorem bk_X3_fillUpTo_0 (Wk : sv_K) (Kr : Option sv_AV → sv_S → Prop) (last : Int32) (order : Int32) (σ : sv_S) (h : F_X3_fillUpTo_0 Wk Kr last order σ) : sv_vc tb_X3_fillUpTo T_X3_fillUpTo sv_all (some .int) Kr [(20, [true, true, false, true, true, false])] Wk 500 0 [some (.inr (.inr (3, 0))), some (.inl last), some (.inl order), none, none, none] [] σ := h
def F_X3_fillUpTo_20 (Wk : sv_K) (Kr : Option sv_AV → sv_S → Prop) (x1 : Int32) (x3 : Int32) (x4 : Int32) (σ : sv_S) : Prop := ((x1 < x4 → Kr (some (.inl (-9 : Int32))) σ) ∧ (¬ x1 < x4 → (vp_in x4 10 ∧ (∃ d1 : dD, ∃ pl2 : Nat → Option Nat, ∃ z3 : Nat, (RP d1 σ ∧ (z3 < 32 ∧ (x3 &&& ((sv_gA σ 17 0 x4.toNatClampNeg) ^^^ (-1 : Int32))) = nI z3) ∧ UI d1 pl2 σ ∧ (∀ t, t < dT d1 → z3.testBit t = true → ∃ q, pl2 t = some q)) ∧ (∀ σ5 : sv_S, sq [3] σ σ5 ∧ sv_gA σ5 3 0 5 = sv_gA σ 3 0 5 ∧ UI d1 (plgone pl2 z3) σ5 → (∃ d6 : dD, ∃ pl7 : Nat → Option Nat, ∃ rc8 : Nat, ∃ z9 : Nat, ∃ o10 : Nat, (RP d6 σ5 ∧ (z9 < 32 ∧ ((sv_gA σ 17 0 x4.toNatClampNeg) &&& (x3 ^^^ (-1 : Int32))) = nI z9) ∧ UI d6 pl7 σ5 ∧ (sv_gA σ5 3 0 5 = nI rc8 ∧ rc8 ≤ 60) ∧ (o10 < fct (dT d6) ∧ ∀ k, k < dT d6 → sv_gA σ5 29 0 k = nI (ordX (dT d6) o10 k)) ∧ (∀ t, z9.testBit t = true → pl7 t = none)) ∧ (∀ v11 : Int32, ∀ σ12 : sv_S, sq [3, 30] σ5 σ12 ∧ plPost d6 (plAll d6 (ordX (dT d6) o10) z9 (dT d6) (pl7, rc8)) v11 σ12 → ((¬ v11 = (0 : Int32) → Wk 20 [some (.inr (.inr (3, 0))), some (.inl x1), none, some (.inl (sv_gA σ 17 0 x4.toNatClampNeg)), some (.inl (x4 + (1 : Int32))), none] [] σ12) ∧ (v11 = (0 : Int32) → Kr (some (.inl x4)) σ12)))))))))
set_option maxRecDepth 100000 in
theorem bk_X3_fillUpTo_20 (Wk : sv_K) (Kr : Option sv_AV → sv_S → Prop) (x1 : Int32) (x3 : Int32) (x4 : Int32) (σ : sv_S) (h : F_X3_fillUpTo_20 Wk Kr x1 x3 x4 σ) : sv_vc tb_X3_fillUpTo T_X3_fillUpTo sv_all (some .int) Kr [(20, [true, true, false, true, true, false])] Wk 500 20 [some (.inr (.inr (3, 0))), some (.inl x1), none, some (.inl x3), some (.inl x4), none] [] σ := h
set_option maxRecDepth 100000 in
theorem m_X3_fillUpTo (l : Launch) (hb : ∀ (Wk : sv_K) (Kr : Option sv_AV → sv_S → Prop), (∀ (last : Int32) (order : Int32) (σ : sv_S), F_X3_fillUpTo_0 Wk Kr last order σ → Wk 0 [some (.inr (.inr (3, 0))), some (.inl last), some (.inl order), none, none, none] [] σ) → (∀ (x1 : Int32) (x3 : Int32) (x4 : Int32) (σ : sv_S), F_X3_fillUpTo_20 Wk Kr x1 x3 x4 σ → Wk 20 [some (.inr (.inr (3, 0))), some (.inl x1), none, some (.inl x3), some (.inl x4), none] [] σ) → (∀ (last : Int32) (order : Int32) (σ : sv_S), (∃ d : dD, ∃ n : Nat, ∃ o : Nat, (RP d σ ∧ RQ d σ ∧ (n ≤ dP d ∧ last = nI n - 1) ∧ (o < fct (dT d) ∧ order = nI o)) ∧ (∀ v : Int32, ∀ σ2 : sv_S, sq [3, 29, 30] σ σ2 ∧ v = stkN d o n ∧ (∀ q, shl d (dL d) (ordX (dT d) o) n = some q → UI d q.1 σ2 ∧ sv_gA σ2 3 0 5 = nI q.2) → Kr (some (.inl v)) σ2)) → Wk 0 [some (.inr (.inr (3, 0))), some (.inl last), some (.inl order), none, none, none] [] σ)) : sv_C l yX3_fillUpTo cX3_fillUpTo 6 (some .int) sv_all 3 67 sp_X3_fillUpTo := by
  refine sv_meth sv_clok_all tb_X3_fillUpTo T_X3_fillUpTo (by decide) tbk_X3_fillUpTo (Tok_X3_fillUpTo l) ?_
  intro Wk Kr hc av σ hsp
  have hB := hb Wk Kr (fun last order σ h => hc [(20, [true, true, false, true, true, false])] 500 0 _ _ _ (bk_X3_fillUpTo_0 Wk Kr last order σ h)) (fun x1 x3 x4 σ h => hc [(20, [true, true, false, true, true, false])] 500 20 _ _ _ (bk_X3_fillUpTo_20 Wk Kr x1 x3 x4 σ h))
  unfold sp_X3_fillUpTo at hsp
  split at hsp
  · exact ⟨⟨by simp, by simp [sv_cat]⟩, hB _ _ _ hsp⟩
  · exact hsp.elim
theorem shl_succ (d : dD) (L ord : Nat → Nat) (p : Nat) : shl d L ord (p + 1) = (shl d L ord p).bind (fun q => plAll d ord (fetL L p) (dT d) (plgone q.1 (nd (prv L p) (L p)), q.2)) := rfl
set_option maxHeartbeats 4000000 in
set_option maxRecDepth 100000 in
theorem c_X3_fillUpTo (l : Launch) : sv_C l yX3_fillUpTo cX3_fillUpTo 6 (some .int) sv_all 3 67 sp_X3_fillUpTo := by
  refine m_X3_fillUpTo l ?_
  intro Wk Kr e0 e20 last order σ ⟨d, n, o, ⟨hR, hQ, ⟨hn, hlast⟩, ho, hord⟩, h⟩
  subst hlast
  have hP := hR.1.1
  have hT := hR.1.2.1
  have h32 := two_pow_le hR.1
  have hLt := fun p (hp : p < dP d) => dL_lt hR.1 hQ.1 hp
  have key : ∀ m p σ' q, p + m = n → sq [3, 29, 30] σ σ' → (∀ k, k < dT d → sv_gA σ' 29 0 k = nI (ordX (dT d) o k)) → shl d (dL d) (ordX (dT d) o) p = some q → UI d q.1 σ' → sv_gA σ' 3 0 5 = nI q.2 → q.2 ≤ 60 → Wk 20 [some (.inr (.inr (3, 0))), some (.inl (nI n - 1)), none, some (.inl (nI (prv (dL d) p))), some (.inl (nI p)), none] [] σ' := by
    intro m
    induction m with
    | zero =>
      intro p σ' q hp hs hrow hsh hU h5 h6
      apply e20
      have hpn : p = n := by omega
      have hlt : nI n - 1 < nI p := by
        rw [hpn, Int32.lt_iff_toInt_lt, show (1 : Int32) = nI 1 from rfl, pk_sub_toInt (by omega) (by omega), nI_toInt (by omega)]
        omega
      refine ⟨fun _ => h _ _ ⟨hs, ?_, fun q' hq' => ?_⟩, fun y => absurd hlt y⟩
      · unfold stkN
        rw [if_neg]
        intro hf
        have h1 := frs_yes _ _ hf
        unfold stkP at h1
        have h2 : shl d (dL d) (ordX (dT d) o) (frs (stkP d (dL d) o) n + 1) = none := Option.isNone_iff_eq_none.mp h1
        have h3 := shl_none h2 p (by unfold stkP at hf ⊢; omega)
        rw [hsh] at h3
        cases h3
      · rw [← hpn, hsh] at hq'
        cases hq'
        exact ⟨hU, h5⟩
    | succ m ih =>
      intro p σ' q hp hs hrow hsh hU h5 h6
      have hR' := RP_fr hR hs
      have hQ' := RQ_fr hQ hs
      have hpv := prv_lt (L := dL d) (P := dP d) hLt (show p ≤ dP d by omega)
      have hlp := hLt p (by omega)
      have hin := shl_in hR.1 (L := dL d) hQ.1 ho (show p ≤ dP d by omega) hsh
      apply e20
      have hnlt : ¬ nI n - 1 < nI p := by
        rw [Int32.lt_iff_toInt_lt, show (1 : Int32) = nI 1 from rfl, pk_sub_toInt (by omega) (by omega), nI_toInt (by omega)]
        omega
      unfold F_X3_fillUpTo_20
      rw [nI_clamp (by omega : p < 2 ^ 31), hQ'.2 p (by omega), nI_1, nd_nI _ hpv _ hlp, nd_nI _ hlp _ hpv]
      refine ⟨fun y => absurd y hnlt, fun _ => ⟨pk_in p 10 (by omega), d, q.1, nd (prv (dL d) p) (dL d p), ⟨hR', ⟨nd_lt hpv, rfl⟩, hU, fun t ht hz => ?_⟩, fun σ5 ⟨hs5, h55, hU5⟩ => ⟨d, plgone q.1 (nd (prv (dL d) p) (dL d p)), q.2, fetL (dL d) p, o, ⟨RP_fr hR' hs5, ⟨fetL_lt hlp, rfl⟩, hU5, ⟨h55.trans h5, h6⟩, ⟨ho, fun k hk => by rw [hs5.1 _ (by decide)]; exact hrow k hk⟩, fun t hz => ?_⟩, fun v11 σ12 ⟨hs12, hpost⟩ => ?_⟩⟩⟩
      · rw [nd_bit _ hpv _ hlp t (by omega)] at hz
        have := (hin t).mpr hz.1
        cases hq : q.1 t with
        | none => exact absurd hq this
        | some a => exact ⟨a, rfl⟩
      · have ht5 : t < 5 := Classical.byContradiction fun y => by
          have := hi_bit (n := 5) (fetL_lt hlp) (show 5 ≤ t by omega)
          rw [hz] at this
          cases this
        rw [fet_prv, nd_bit _ hlp _ hpv t ht5] at hz
        unfold plgone
        split
        · rfl
        · apply Classical.byContradiction
          intro hc
          exact hz.2 ((hin t).mp hc)
      · have hss := shl_succ d (dL d) (ordX (dT d) o) p
        rw [hsh] at hss
        have hss : shl d (dL d) (ordX (dT d) o) (p + 1) = plAll d (ordX (dT d) o) (fetL (dL d) p) (dT d) (plgone q.1 (nd (prv (dL d) p) (dL d p)), q.2) := hss
        rw [← hss] at hpost
        have hsa : sq [3, 29, 30] σ σ12 := sq_tr (sq_tr hs (sq_mono hs5 (by decide))) (sq_mono hs12 (by decide))
        cases hc : shl d (dL d) (ordX (dT d) o) (p + 1) with
        | none =>
          rw [hc] at hpost
          have hv : v11 = 0 := hpost
          subst hv
          refine ⟨fun y => absurd rfl y, fun _ => h _ _ ⟨hsa, ?_, fun q' hq' => ?_⟩⟩
          · have e : frs (stkP d (dL d) o) n = p := frs_eq (by omega) (by unfold stkP; rw [hc]; rfl) (fun j hj => by
              unfold stkP
              cases hj2 : shl d (dL d) (ordX (dT d) o) (j + 1) with
              | some _ => rfl
              | none =>
                have := shl_none hj2 p (by omega)
                rw [hsh] at this
                cases this)
            unfold stkN
            rw [e, if_pos (by omega)]
          · have := shl_none hc n (by omega)
            rw [this] at hq'
            cases hq'
        | some q2 =>
          rw [hc] at hpost
          obtain ⟨hv, hU2, h52, h62⟩ : v11 = 1 ∧ UI d q2.1 σ12 ∧ (sv_gA σ12 3 0 5 = nI q2.2 ∧ q2.2 ≤ 60) := hpost
          subst hv
          refine ⟨fun _ => ?_, fun y => absurd y (by decide)⟩
          have := ih (p + 1) σ12 q2 (by omega) hsa (fun k hk => by rw [hs12.1 _ (by decide), hs5.1 _ (by decide)]; exact hrow k hk) hc hU2 h52 h62
          have e : prv (dL d) (p + 1) = dL d p := by
            unfold prv
            rw [if_neg (by omega), Nat.add_sub_cancel]
          rw [e] at this
          exact this
  apply e0
  refine ⟨d, o, ⟨hR, ho, hord⟩, fun σ4 ⟨hs4, hrow⟩ => ?_⟩
  refine key n 0 _ (fun _ => none, 0) (by omega) (sq_tr (sq_tr (sq_mono hs4 (by decide)) (sq_sJ _ _ _ (by decide))) (sq_sA _ _ _ _ (by decide))) (fun k hk => ?_) rfl ⟨0, ?_, by decide, fun c => ?_, fun t ht q hq => (by cases hq), fun t t' q q' _ _ _ hq _ => (by cases hq)⟩ (gA_same _ _ _ _ _) (Nat.zero_le _)
  · rw [gA_ng _ (by decide), sv_gA_sJ]
    exact hrow k hk
  · rw [sv_gJ_sA]
    exact gJ_same _ _ _ _
  · rw [Nat.zero_testBit]
    constructor
    · intro y; cases y
    · rintro ⟨t, ht, q, hq, _⟩
      cases hq
