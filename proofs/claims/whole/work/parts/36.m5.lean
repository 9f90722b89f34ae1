-- ==== X5_comesIn
def sp_X5_comesIn : sv_P := fun av σ K => match av with
  | [.inr (.inr (5, 0)), .inl t, .inl p] => ∃ d : dD, ∃ e : Nat, ∃ q : Nat, (RM d σ ∧ (e < dT d ∧ t = nI e) ∧ (q < dP d ∧ p = nI q)) ∧ (((fetL (dL d) q).testBit e = true → K (some (.inl (1 : Int32))) σ) ∧ (¬ (fetL (dL d) q).testBit e = true → K (some (.inl (0 : Int32))) σ))
  | _ => False
def tb_X5_comesIn : List (Nat × (Instr × Nat)) := [(0, (.aload_n 0, 1)), (1, (.getfield 25, 3)), (4, (.iload_n 2, 1)), (5, (.iaload, 1)), (6, (.iload_n 1, 1)), (7, (.invokestatic 78, 3)), (10, (.ifCond .eq 26, 3)), (13, (.iload_n 2, 1)), (14, (.ifCond .eq 18, 3)), (17, (.aload_n 0, 1)), (18, (.getfield 25, 3)), (21, (.iload_n 2, 1)), (22, (.iconst 1, 1)), (23, (.isub, 1)), (24, (.iaload, 1)), (25, (.iload_n 1, 1)), (26, (.invokestatic 78, 3)), (29, (.ifCond .ne 7, 3)), (32, (.iconst 1, 1)), (33, (.goto 4, 3)), (36, (.iconst 0, 1)), (37, (.ireturn, 1))]
set_option maxRecDepth 100000 in
theorem tbk_X5_comesIn : sv_tbok cX5_comesIn tb_X5_comesIn = true := by decide +kernel
def cal_X5_comesIn : List (Nat × (Nat × Nat × sv_P)) := [(78, (2, 90, sp_X5_has))]
def T_X5_comesIn : sv_T := (flX5, sfX5, kcX5, klX5, cal_X5_comesIn)
set_option maxRecDepth 100000 in
theorem Tok_X5_comesIn (l : Launch) : sv_Tok l RX5 sv_all 1 21 T_X5_comesIn := ⟨flokX5, sfokX5, kcokX5, klokX5, List.forall_mem_cons.mpr ⟨⟨fun h => absurd h (by decide), fun _ => sv_COs_gen (c_X5_has l) (Or.inl (sv_mem 701 (by decide +kernel) rfl)) kw_X5_has.1 kw_X5_has.2.1 kw_X5_has.2.2 kd_X5_has rfl (by decide) (by decide +kernel)⟩, fun _ h => absurd h List.not_mem_nil⟩⟩
theorem kw_X5_comesIn : Cond.instanceMethod yX5_comesIn ∈ sv_tb ∧ Cond.selects yX5_comesIn.cls yX5_comesIn yX5_comesIn ∈ sv_tb ∧ Cond.initialized yX5_comesIn.cls ∈ sv_tb ∧ Cond.code yX5_comesIn cX5_comesIn 3 (some .boolean) ∈ sv_tb := ⟨sv_mem 770 (by decide +kernel) rfl, sv_mem 36 (by decide +kernel) rfl, sv_mem 56 (by decide +kernel) rfl, sv_mem 771 (by decide +kernel) rfl⟩
theorem kd_X5_comesIn : yX5_comesIn.cls ≠ "java/lang/invoke/MethodHandle" ∧ yX5_comesIn.cls ≠ "java/lang/invoke/VarHandle" ∧ (parseMethodDescriptor yX5_comesIn.desc).map (fun d => d.parameters.length) = some 2 := by decide +kernel
def F_X5_comesIn_0 (Wk : sv_K) (Kr : Option sv_AV → sv_S → Prop) (t : Int32) (p : Int32) (σ : sv_S) : Prop := (vp_in p 10 ∧ (((((sv_gA σ 36 0 p.toNatClampNeg) >>> (t &&& 31)) &&& 1 = 1 → ((p = (0 : Int32) → Kr (some (.inl (1 : Int32))) σ) ∧ (¬ p = (0 : Int32) → (vp_in (p - (1 : Int32)) 10 ∧ (((((sv_gA σ 36 0 (p - (1 : Int32)).toNatClampNeg) >>> (t &&& 31)) &&& 1 = 1 → Kr (some (.inl (0 : Int32))) σ) ∧ (¬ ((sv_gA σ 36 0 (p - (1 : Int32)).toNatClampNeg) >>> (t &&& 31)) &&& 1 = 1 → Kr (some (.inl (1 : Int32))) σ))))))) ∧ (¬ ((sv_gA σ 36 0 p.toNatClampNeg) >>> (t &&& 31)) &&& 1 = 1 → Kr (some (.inl (0 : Int32))) σ))))
set_option maxRecDepth 100000 in
theorem bk_X5_comesIn_0 (Wk : sv_K) (Kr : Option sv_AV → sv_S → Prop) (t : Int32) (p : Int32) (σ : sv_S) (h : F_X5_comesIn_0 Wk Kr t p σ) : sv_vc tb_X5_comesIn T_X5_comesIn sv_all (some .boolean) Kr [] Wk 500 0 [some (.inr (.inr (5, 0))), some (.inl t), some (.inl p)] [] σ := ⟨(h).1, (match ((h).2) with | ⟨z3a, z3b⟩ => ⟨fun z3y => br_f (by decide) (⟨fun z2 => ⟨rfl, (((z3a z3y)).1 z2)⟩, fun z2 => ⟨((((z3a z3y)).2 z2)).1, (match (((((z3a z3y)).2 z2)).2) with | ⟨z1a, z1b⟩ => ⟨fun z1y => sb_nt (by decide) (⟨rfl, (z1a z1y)⟩), fun z1y => sb_nf (by decide) (⟨rfl, (z1b z1y)⟩)⟩)⟩⟩), fun z3y => br_t (by decide) (⟨rfl, (z3b z3y)⟩)⟩)⟩
set_option maxRecDepth 100000 in
theorem m_X5_comesIn (l : Launch) (hb : ∀ (Wk : sv_K) (Kr : Option sv_AV → sv_S → Prop), (∀ (t : Int32) (p : Int32) (σ : sv_S), F_X5_comesIn_0 Wk Kr t p σ → Wk 0 [some (.inr (.inr (5, 0))), some (.inl t), some (.inl p)] [] σ) → (∀ (t : Int32) (p : Int32) (σ : sv_S), (∃ d : dD, ∃ e : Nat, ∃ q : Nat, (RM d σ ∧ (e < dT d ∧ t = nI e) ∧ (q < dP d ∧ p = nI q)) ∧ (((fetL (dL d) q).testBit e = true → Kr (some (.inl (1 : Int32))) σ) ∧ (¬ (fetL (dL d) q).testBit e = true → Kr (some (.inl (0 : Int32))) σ))) → Wk 0 [some (.inr (.inr (5, 0))), some (.inl t), some (.inl p)] [] σ)) : sv_C l yX5_comesIn cX5_comesIn 3 (some .boolean) sv_all 1 21 sp_X5_comesIn := by
  refine sv_meth sv_clok_all tb_X5_comesIn T_X5_comesIn (by decide) tbk_X5_comesIn (Tok_X5_comesIn l) ?_
  intro Wk Kr hc av σ hsp
  have hB := hb Wk Kr (fun t p σ h => hc [] 500 0 _ _ _ (bk_X5_comesIn_0 Wk Kr t p σ h))
  unfold sp_X5_comesIn at hsp
  split at hsp
  · exact ⟨⟨by simp, by simp [sv_cat]⟩, hB _ _ _ hsp⟩
  · exact hsp.elim
set_option maxHeartbeats 4000000 in
set_option maxRecDepth 100000 in
theorem c_X5_comesIn (l : Launch) : sv_C l yX5_comesIn cX5_comesIn 3 (some .boolean) sv_all 1 21 sp_X5_comesIn := by
  refine m_X5_comesIn l ?_
  intro Wk Kr e0 t p σ ⟨d, e, q, ⟨hR, ⟨he, ht⟩, hq, hp⟩, h1, h0⟩
  subst ht
  subst hp
  have hT := hR.1.2.1
  have hP := hR.1.1
  have hpl := hR.2.2.2.2.2.2.2.2.2
  have hL := L32 hR.1 hR.2.1
  apply e0
  unfold F_X5_comesIn_0
  rw [nI_clamp (by omega), hpl q hq, bit_sh _ (hL q hq) e (by omega)]
  have hb : (fetL (dL d) q).testBit e = true ↔ (dL d q).testBit e = true ∧ ¬ (if q = 0 then 0 else dL d (q - 1)).testBit e = true := by
    refine nd_bit _ (hL q hq) _ ?_ e (by omega)
    split
    · omega
    · exact hL _ (by omega)
  refine ⟨pk_in q 10 (by omega), fun a => pk_eq q 0 (fun b => h1 ?_) (fun b => ?_), fun a => h0 (fun b => a (hb.mp b).1)⟩
  · rw [hb, if_pos b, Nat.zero_testBit]
    exact ⟨a, by decide⟩
  · rw [if_neg b] at hb
    rw [show (1 : Int32) = nI 1 from rfl, pk_sub (by omega), nI_clamp (by omega), hpl (q - 1) (by omega), ← show (1 : Int32) = nI 1 from rfl, bit_sh _ (hL (q - 1) (by omega)) e (by omega)]
    exact ⟨pk_in (q - 1) 10 (by omega), fun g => h0 (fun y => (hb.mp y).2 g), fun g => h1 (hb.mpr ⟨a, g⟩)⟩
-- ==== X5_goesBehind
def sp_X5_goesBehind : sv_P := fun av σ K => match av with
  | [.inr (.inr (5, 0)), .inl t, .inl p] => ∃ d : dD, ∃ e : Nat, ∃ q : Nat, (RM d σ ∧ (e < dT d ∧ t = nI e) ∧ (q < dP d ∧ p = nI q)) ∧ ((gbh d e q → K (some (.inl (1 : Int32))) σ) ∧ (¬ gbh d e q → K (some (.inl (0 : Int32))) σ))
  | _ => False
def tb_X5_goesBehind : List (Nat × (Instr × Nat)) := [(0, (.aload_n 0, 1)), (1, (.getfield 25, 3)), (4, (.iload_n 2, 1)), (5, (.iaload, 1)), (6, (.iload_n 1, 1)), (7, (.invokestatic 78, 3)), (10, (.ifCond .eq 32, 3)), (13, (.iload_n 2, 1)), (14, (.aload_n 0, 1)), (15, (.getfield 46, 3)), (18, (.iconst 1, 1)), (19, (.isub, 1)), (20, (.if_icmp .eq 18, 3)), (23, (.aload_n 0, 1)), (24, (.getfield 25, 3)), (27, (.iload_n 2, 1)), (28, (.iconst 1, 1)), (29, (.iadd, 1)), (30, (.iaload, 1)), (31, (.iload_n 1, 1)), (32, (.invokestatic 78, 3)), (35, (.ifCond .ne 7, 3)), (38, (.iconst 1, 1)), (39, (.goto 4, 3)), (42, (.iconst 0, 1)), (43, (.ireturn, 1))]
set_option maxRecDepth 100000 in
theorem tbk_X5_goesBehind : sv_tbok cX5_goesBehind tb_X5_goesBehind = true := by decide +kernel
def cal_X5_goesBehind : List (Nat × (Nat × Nat × sv_P)) := [(78, (2, 90, sp_X5_has))]
def T_X5_goesBehind : sv_T := (flX5, sfX5, kcX5, klX5, cal_X5_goesBehind)
set_option maxRecDepth 100000 in
theorem Tok_X5_goesBehind (l : Launch) : sv_Tok l RX5 sv_all 1 21 T_X5_goesBehind := ⟨flokX5, sfokX5, kcokX5, klokX5, List.forall_mem_cons.mpr ⟨⟨fun h => absurd h (by decide), fun _ => sv_COs_gen (c_X5_has l) (Or.inl (sv_mem 701 (by decide +kernel) rfl)) kw_X5_has.1 kw_X5_has.2.1 kw_X5_has.2.2 kd_X5_has rfl (by decide) (by decide +kernel)⟩, fun _ h => absurd h List.not_mem_nil⟩⟩
theorem kw_X5_goesBehind : Cond.instanceMethod yX5_goesBehind ∈ sv_tb ∧ Cond.selects yX5_goesBehind.cls yX5_goesBehind yX5_goesBehind ∈ sv_tb ∧ Cond.initialized yX5_goesBehind.cls ∈ sv_tb ∧ Cond.code yX5_goesBehind cX5_goesBehind 3 (some .boolean) ∈ sv_tb := ⟨sv_mem 782 (by decide +kernel) rfl, sv_mem 39 (by decide +kernel) rfl, sv_mem 56 (by decide +kernel) rfl, sv_mem 783 (by decide +kernel) rfl⟩
theorem kd_X5_goesBehind : yX5_goesBehind.cls ≠ "java/lang/invoke/MethodHandle" ∧ yX5_goesBehind.cls ≠ "java/lang/invoke/VarHandle" ∧ (parseMethodDescriptor yX5_goesBehind.desc).map (fun d => d.parameters.length) = some 2 := by decide +kernel
def F_X5_goesBehind_0 (Wk : sv_K) (Kr : Option sv_AV → sv_S → Prop) (t : Int32) (p : Int32) (σ : sv_S) : Prop := (vp_in p 10 ∧ (((((sv_gA σ 36 0 p.toNatClampNeg) >>> (t &&& 31)) &&& 1 = 1 → ((p = ((sv_gA σ 5 0 0) - (1 : Int32)) → Kr (some (.inl (1 : Int32))) σ) ∧ (¬ p = ((sv_gA σ 5 0 0) - (1 : Int32)) → (vp_in (p + (1 : Int32)) 10 ∧ (((((sv_gA σ 36 0 (p + (1 : Int32)).toNatClampNeg) >>> (t &&& 31)) &&& 1 = 1 → Kr (some (.inl (0 : Int32))) σ) ∧ (¬ ((sv_gA σ 36 0 (p + (1 : Int32)).toNatClampNeg) >>> (t &&& 31)) &&& 1 = 1 → Kr (some (.inl (1 : Int32))) σ))))))) ∧ (¬ ((sv_gA σ 36 0 p.toNatClampNeg) >>> (t &&& 31)) &&& 1 = 1 → Kr (some (.inl (0 : Int32))) σ))))
set_option maxRecDepth 100000 in
theorem bk_X5_goesBehind_0 (Wk : sv_K) (Kr : Option sv_AV → sv_S → Prop) (t : Int32) (p : Int32) (σ : sv_S) (h : F_X5_goesBehind_0 Wk Kr t p σ) : sv_vc tb_X5_goesBehind T_X5_goesBehind sv_all (some .boolean) Kr [] Wk 500 0 [some (.inr (.inr (5, 0))), some (.inl t), some (.inl p)] [] σ := ⟨(h).1, (match ((h).2) with | ⟨z3a, z3b⟩ => ⟨fun z3y => br_f (by decide) (⟨fun z2 => ⟨rfl, (((z3a z3y)).1 z2)⟩, fun z2 => ⟨((((z3a z3y)).2 z2)).1, (match (((((z3a z3y)).2 z2)).2) with | ⟨z1a, z1b⟩ => ⟨fun z1y => sb_nt (by decide) (⟨rfl, (z1a z1y)⟩), fun z1y => sb_nf (by decide) (⟨rfl, (z1b z1y)⟩)⟩)⟩⟩), fun z3y => br_t (by decide) (⟨rfl, (z3b z3y)⟩)⟩)⟩
set_option maxRecDepth 100000 in
theorem m_X5_goesBehind (l : Launch) (hb : ∀ (Wk : sv_K) (Kr : Option sv_AV → sv_S → Prop), (∀ (t : Int32) (p : Int32) (σ : sv_S), F_X5_goesBehind_0 Wk Kr t p σ → Wk 0 [some (.inr (.inr (5, 0))), some (.inl t), some (.inl p)] [] σ) → (∀ (t : Int32) (p : Int32) (σ : sv_S), (∃ d : dD, ∃ e : Nat, ∃ q : Nat, (RM d σ ∧ (e < dT d ∧ t = nI e) ∧ (q < dP d ∧ p = nI q)) ∧ ((gbh d e q → Kr (some (.inl (1 : Int32))) σ) ∧ (¬ gbh d e q → Kr (some (.inl (0 : Int32))) σ))) → Wk 0 [some (.inr (.inr (5, 0))), some (.inl t), some (.inl p)] [] σ)) : sv_C l yX5_goesBehind cX5_goesBehind 3 (some .boolean) sv_all 1 21 sp_X5_goesBehind := by
  refine sv_meth sv_clok_all tb_X5_goesBehind T_X5_goesBehind (by decide) tbk_X5_goesBehind (Tok_X5_goesBehind l) ?_
  intro Wk Kr hc av σ hsp
  have hB := hb Wk Kr (fun t p σ h => hc [] 500 0 _ _ _ (bk_X5_goesBehind_0 Wk Kr t p σ h))
  unfold sp_X5_goesBehind at hsp
  split at hsp
  · exact ⟨⟨by simp, by simp [sv_cat]⟩, hB _ _ _ hsp⟩
  · exact hsp.elim
set_option maxHeartbeats 4000000 in
set_option maxRecDepth 100000 in
theorem c_X5_goesBehind (l : Launch) : sv_C l yX5_goesBehind cX5_goesBehind 3 (some .boolean) sv_all 1 21 sp_X5_goesBehind := by
  refine m_X5_goesBehind l ?_
  intro Wk Kr e0 t p σ ⟨d, e, q, ⟨hR, ⟨he, ht⟩, hq, hp⟩, h1, h0⟩
  subst ht
  subst hp
  have hT := hR.1.2.1
  have hP := hR.1.1
  have hpl := hR.2.2.2.2.2.2.2.2.2
  have hL := L32 hR.1 hR.2.1
  apply e0
  unfold F_X5_goesBehind_0
  rw [nI_clamp (by omega), hpl q hq, bit_sh _ (hL q hq) e (by omega), hR.2.2.1]
  refine ⟨pk_in q 10 (by omega), fun a => pk_eq q (dP d - 1) (fun b => h1 ⟨a, Or.inl (by omega)⟩) (fun b => ?_) rfl (by rw [show (1 : Int32) = nI 1 from rfl, pk_sub (by omega)]), fun a => h0 (fun b => a b.1)⟩
  rw [nI_1, nI_clamp (by omega), hpl (q + 1) (by omega), bit_sh _ (hL (q + 1) (by omega)) e (by omega)]
  exact ⟨pk_in (q + 1) 10 (by omega), fun g => h0 (fun y => y.2.elim (fun z => by omega) (fun z => z g)), fun g => h1 ⟨a, Or.inr g⟩⟩
-- ==== X5_isReturned
def sp_X5_isReturned : sv_P := fun av σ K => match av with
  | [.inr (.inr (5, 0)), .inl t, .inl p] => ∃ d : dD, ∃ e : Nat, ∃ q : Nat, (RM d σ ∧ (e < dT d ∧ t = nI e) ∧ (q < dP d ∧ p = nI q)) ∧ (((rtnL d (dL d) q).testBit e = true → K (some (.inl (1 : Int32))) σ) ∧ (¬ (rtnL d (dL d) q).testBit e = true → K (some (.inl (0 : Int32))) σ))
  | _ => False
def tb_X5_isReturned : List (Nat × (Instr × Nat)) := [(0, (.iconst 0, 1)), (1, (.istore_n 3, 1)), (2, (.iload_n 2, 1)), (3, (.istore 4, 2)), (5, (.iload 4, 2)), (7, (.ifCond .lt 48, 3)), (10, (.aload_n 0, 1)), (11, (.getfield 25, 3)), (14, (.iload 4, 2)), (16, (.iaload, 1)), (17, (.iload_n 1, 1)), (18, (.invokestatic 78, 3)), (21, (.ifCond .eq 34, 3)), (24, (.iload_n 3, 1)), (25, (.ifCond .ne 18, 3)), (28, (.aload_n 0, 1)), (29, (.getfield 19, 3)), (32, (.bipush 10, 2)), (34, (.iload_n 1, 1)), (35, (.imul, 1)), (36, (.iload 4, 2)), (38, (.iadd, 1)), (39, (.iaload, 1)), (40, (.ifCond .le 7, 3)), (43, (.iconst 1, 1)), (44, (.goto 4, 3)), (47, (.iconst 0, 1)), (48, (.istore_n 3, 1)), (49, (.iinc 4 (-1), 3)), (52, (.goto (-47), 3)), (55, (.aload_n 0, 1)), (56, (.iload_n 1, 1)), (57, (.iload_n 2, 1)), (58, (.invokevirtual 136, 3)), (61, (.ifCond .eq 11, 3)), (64, (.iload_n 3, 1)), (65, (.ifCond .eq 7, 3)), (68, (.iconst 1, 1)), (69, (.goto 4, 3)), (72, (.iconst 0, 1)), (73, (.ireturn, 1))]
set_option maxRecDepth 100000 in
theorem tbk_X5_isReturned : sv_tbok cX5_isReturned tb_X5_isReturned = true := by decide +kernel
def cal_X5_isReturned : List (Nat × (Nat × Nat × sv_P)) := [(78, (2, 90, sp_X5_has)), (136, (3, 5, sp_X5_goesBehind))]
def T_X5_isReturned : sv_T := (flX5, sfX5, kcX5, klX5, cal_X5_isReturned)
set_option maxRecDepth 100000 in
theorem Tok_X5_isReturned (l : Launch) : sv_Tok l RX5 sv_all 2 43 T_X5_isReturned := ⟨flokX5, sfokX5, kcokX5, klokX5, List.forall_mem_cons.mpr ⟨⟨fun h => absurd h (by decide), fun _ => sv_COs_gen (c_X5_has l) (Or.inl (sv_mem 701 (by decide +kernel) rfl)) kw_X5_has.1 kw_X5_has.2.1 kw_X5_has.2.2 kd_X5_has rfl (by decide) (by decide +kernel)⟩, List.forall_mem_cons.mpr ⟨⟨fun _ => sv_COv_of (c_X5_goesBehind l) sv_clok_all (sv_mem 780 (by decide +kernel) rfl) kw_X5_goesBehind.1 kw_X5_goesBehind.2.1 kw_X5_goesBehind.2.2.1 kw_X5_goesBehind.2.2.2 kd_X5_goesBehind rfl (by decide) (by decide +kernel) rfl (by decide), fun h => absurd h (by decide)⟩, fun _ h => absurd h List.not_mem_nil⟩⟩⟩
theorem kw_X5_isReturned : Cond.instanceMethod yX5_isReturned ∈ sv_tb ∧ Cond.selects yX5_isReturned.cls yX5_isReturned yX5_isReturned ∈ sv_tb ∧ Cond.initialized yX5_isReturned.cls ∈ sv_tb ∧ Cond.code yX5_isReturned cX5_isReturned 5 (some .boolean) ∈ sv_tb := ⟨sv_mem 778 (by decide +kernel) rfl, sv_mem 38 (by decide +kernel) rfl, sv_mem 56 (by decide +kernel) rfl, sv_mem 779 (by decide +kernel) rfl⟩
theorem kd_X5_isReturned : yX5_isReturned.cls ≠ "java/lang/invoke/MethodHandle" ∧ yX5_isReturned.cls ≠ "java/lang/invoke/VarHandle" ∧ (parseMethodDescriptor yX5_isReturned.desc).map (fun d => d.parameters.length) = some 2 := by decide +kernel
def F_X5_isReturned_0 (Wk : sv_K) (Kr : Option sv_AV → sv_S → Prop) (t : Int32) (p : Int32) (σ : sv_S) : Prop := Wk 5 [some (.inr (.inr (5, 0))), some (.inl t), some (.inl p), some (.inl (0 : Int32)), some (.inl p)] [] σ
set_option maxRecDepth 100000 in
theorem bk_X5_isReturned_0 (Wk : sv_K) (Kr : Option sv_AV → sv_S → Prop) (t : Int32) (p : Int32) (σ : sv_S) (h : F_X5_isReturned_0 Wk Kr t p σ) : sv_vc tb_X5_isReturned T_X5_isReturned sv_all (some .boolean) Kr [(5, [true, true, true, true, true])] Wk 500 0 [some (.inr (.inr (5, 0))), some (.inl t), some (.inl p), none, none] [] σ := h
def F_X5_isReturned_5 (Wk : sv_K) (Kr : Option sv_AV → sv_S → Prop) (x1 : Int32) (x2 : Int32) (x3 : Int32) (x4 : Int32) (σ : sv_S) : Prop := ((x4 < (0 : Int32) → (∃ d1 : dD, ∃ e2 : Nat, ∃ q3 : Nat, (RM d1 σ ∧ (e2 < dT d1 ∧ x1 = nI e2) ∧ (q3 < dP d1 ∧ x2 = nI q3)) ∧ ((gbh d1 e2 q3 → ((x3 = (0 : Int32) → Kr (some (.inl (0 : Int32))) σ) ∧ (¬ x3 = (0 : Int32) → Kr (some (.inl (1 : Int32))) σ))) ∧ (¬ gbh d1 e2 q3 → Kr (some (.inl (0 : Int32))) σ)))) ∧ (¬ x4 < (0 : Int32) → (vp_in x4 10 ∧ (((((sv_gA σ 36 0 x4.toNatClampNeg) >>> (x1 &&& 31)) &&& 1 = 1 → ((¬ x3 = (0 : Int32) → Wk 5 [some (.inr (.inr (5, 0))), some (.inl x1), some (.inl x2), some (.inl (1 : Int32)), some (.inl (x4 + (-1 : Int32)))] [] σ) ∧ (x3 = (0 : Int32) → (vp_in (((10 : Int32) * x1) + x4) 50 ∧ (((sv_gA σ 34 0 (((10 : Int32) * x1) + x4).toNatClampNeg) ≤ (0 : Int32) → Wk 5 [some (.inr (.inr (5, 0))), some (.inl x1), some (.inl x2), some (.inl (0 : Int32)), some (.inl (x4 + (-1 : Int32)))] [] σ) ∧ (¬ (sv_gA σ 34 0 (((10 : Int32) * x1) + x4).toNatClampNeg) ≤ (0 : Int32) → Wk 5 [some (.inr (.inr (5, 0))), some (.inl x1), some (.inl x2), some (.inl (1 : Int32)), some (.inl (x4 + (-1 : Int32)))] [] σ)))))) ∧ (¬ ((sv_gA σ 36 0 x4.toNatClampNeg) >>> (x1 &&& 31)) &&& 1 = 1 → (∃ d6 : dD, ∃ e7 : Nat, ∃ q8 : Nat, (RM d6 σ ∧ (e7 < dT d6 ∧ x1 = nI e7) ∧ (q8 < dP d6 ∧ x2 = nI q8)) ∧ ((gbh d6 e7 q8 → ((x3 = (0 : Int32) → Kr (some (.inl (0 : Int32))) σ) ∧ (¬ x3 = (0 : Int32) → Kr (some (.inl (1 : Int32))) σ))) ∧ (¬ gbh d6 e7 q8 → Kr (some (.inl (0 : Int32))) σ)))))))))
set_option maxRecDepth 100000 in
theorem bk_X5_isReturned_5 (Wk : sv_K) (Kr : Option sv_AV → sv_S → Prop) (x1 : Int32) (x2 : Int32) (x3 : Int32) (x4 : Int32) (σ : sv_S) (h : F_X5_isReturned_5 Wk Kr x1 x2 x3 x4 σ) : sv_vc tb_X5_isReturned T_X5_isReturned sv_all (some .boolean) Kr [(5, [true, true, true, true, true])] Wk 500 5 [some (.inr (.inr (5, 0))), some (.inl x1), some (.inl x2), some (.inl x3), some (.inl x4)] [] σ := ⟨fun z12 => (match ((h).1 z12) with | ⟨d1, e2, q3, z5p, z5a, z5b⟩ => ⟨d1, e2, q3, z5p, fun z5y => br_f (by decide) (⟨fun z4 => ⟨rfl, (((z5a z5y)).1 z4)⟩, fun z4 => ⟨rfl, (((z5a z5y)).2 z4)⟩⟩), fun z5y => br_t (by decide) (⟨rfl, (z5b z5y)⟩)⟩), fun z12 => ⟨(((h).2 z12)).1, (match ((((h).2 z12)).2) with | ⟨z11a, z11b⟩ => ⟨fun z11y => br_f (by decide) ((z11a z11y)), fun z11y => br_t (by decide) ((match (z11b z11y) with | ⟨d6, e7, q8, z10p, z10a, z10b⟩ => ⟨d6, e7, q8, z10p, fun z10y => br_f (by decide) (⟨fun z9 => ⟨rfl, (((z10a z10y)).1 z9)⟩, fun z9 => ⟨rfl, (((z10a z10y)).2 z9)⟩⟩), fun z10y => br_t (by decide) (⟨rfl, (z10b z10y)⟩)⟩))⟩)⟩⟩
set_option maxRecDepth 100000 in
theorem m_X5_isReturned (l : Launch) (hb : ∀ (Wk : sv_K) (Kr : Option sv_AV → sv_S → Prop), (∀ (t : Int32) (p : Int32) (σ : sv_S), F_X5_isReturned_0 Wk Kr t p σ → Wk 0 [some (.inr (.inr (5, 0))), some (.inl t), some (.inl p), none, none] [] σ) → (∀ (x1 : Int32) (x2 : Int32) (x3 : Int32) (x4 : Int32) (σ : sv_S), F_X5_isReturned_5 Wk Kr x1 x2 x3 x4 σ → Wk 5 [some (.inr (.inr (5, 0))), some (.inl x1), some (.inl x2), some (.inl x3), some (.inl x4)] [] σ) → (∀ (t : Int32) (p : Int32) (σ : sv_S), (∃ d : dD, ∃ e : Nat, ∃ q : Nat, (RM d σ ∧ (e < dT d ∧ t = nI e) ∧ (q < dP d ∧ p = nI q)) ∧ (((rtnL d (dL d) q).testBit e = true → Kr (some (.inl (1 : Int32))) σ) ∧ (¬ (rtnL d (dL d) q).testBit e = true → Kr (some (.inl (0 : Int32))) σ))) → Wk 0 [some (.inr (.inr (5, 0))), some (.inl t), some (.inl p), none, none] [] σ)) : sv_C l yX5_isReturned cX5_isReturned 5 (some .boolean) sv_all 2 43 sp_X5_isReturned := by
  refine sv_meth sv_clok_all tb_X5_isReturned T_X5_isReturned (by decide) tbk_X5_isReturned (Tok_X5_isReturned l) ?_
  intro Wk Kr hc av σ hsp
  have hB := hb Wk Kr (fun t p σ h => hc [(5, [true, true, true, true, true])] 500 0 _ _ _ (bk_X5_isReturned_0 Wk Kr t p σ h)) (fun x1 x2 x3 x4 σ h => hc [(5, [true, true, true, true, true])] 500 5 _ _ _ (bk_X5_isReturned_5 Wk Kr x1 x2 x3 x4 σ h))
  unfold sp_X5_isReturned at hsp
  split at hsp
  · exact ⟨⟨by simp, by simp [sv_cat]⟩, hB _ _ _ hsp⟩
  · exact hsp.elim
set_option maxHeartbeats 4000000 in
set_option maxRecDepth 100000 in
theorem c_X5_isReturned (l : Launch) : sv_C l yX5_isReturned cX5_isReturned 5 (some .boolean) sv_all 2 43 sp_X5_isReturned := by
  refine m_X5_isReturned l ?_
  intro Wk Kr e0 e5 t p σ ⟨d, e, q, ⟨hR, ⟨he, ht⟩, hq, hp⟩, h1, h0⟩
  subst ht
  subst hp
  have hT := hR.1.2.1
  have hP := hR.1.1
  have hpl := hR.2.2.2.2.2.2.2.2.2
  have hL := L32 hR.1 hR.2.1
  have hb := rtn_bit hR.1 hR.2.1 hq (show e < 5 by omega)
  have fin : ∀ x : Int32, (x = 0 ∨ x = 1) → (x = 1 ↔ (dtyL d (dL d) (q + 1)).testBit e = true) → (gbh d e q → ((x = (0 : Int32) → Kr (some (.inl (0 : Int32))) σ) ∧ (¬ x = (0 : Int32) → Kr (some (.inl (1 : Int32))) σ))) ∧ (¬ gbh d e q → Kr (some (.inl (0 : Int32))) σ) := by
    intro x hx hxd
    refine ⟨fun g => ⟨fun y => h0 (fun z => ?_), fun y => h1 ?_⟩, fun g => h0 (fun z => g (hb.mp z).1)⟩
    · have := hxd.mpr (hb.mp z).2
      rw [y] at this
      exact absurd this (by decide)
    · exact hb.mpr ⟨g, hxd.mp (hx.resolve_left y)⟩
  have key : ∀ n (x : Int32), n ≤ q + 1 → (x = 0 ∨ x = 1) → ((x = 1 ∨ (dtyL d (dL d) n).testBit e = true) ↔ (dtyL d (dL d) (q + 1)).testBit e = true) → Wk 5 [some (.inr (.inr (5, 0))), some (.inl (nI e)), some (.inl (nI q)), some (.inl x), some (.inl (nI n - 1))] [] σ := by
    intro n
    induction n with
    | zero =>
      intro x hn hx hxd
      apply e5
      refine br_t (by decide) ⟨d, e, q, ⟨hR, ⟨he, rfl⟩, hq, rfl⟩, fin x hx ?_⟩
      rw [← hxd]
      show _ ↔ x = 1 ∨ (0 : Nat).testBit e = true
      rw [Nat.zero_testBit]
      simp
    | succ n ih =>
      intro x hn hx hxd
      apply e5
      unfold F_X5_isReturned_5
      have hlt : ¬ nI n < 0 := by
        rw [show (0 : Int32) = nI 0 from rfl, nI_ltI (by omega) (by omega)]
        omega
      rw [nI_pred n, pk_m1' n, ix10, nI_clamp (by omega), nI_clamp (by omega), hpl n (by omega), bit_sh _ (hL n (by omega)) e (by omega), hR.2.2.2.2.2.2.2.1 e n (by omega) (by omega)]
      have hd := dty_bit (d := d) (L := dL d) (n := n) (show e < 5 by omega)
      have hwl := hR.1.2.2.2.2.1 e n (by omega) (by omega)
      refine br_f hlt ⟨pk_in n 10 (by omega), fun a => ⟨fun b => ?_, fun b => ⟨pk_in (10 * e + n) 50 (by omega), pk_le (dw d e n) 0 (fun g => ?_) (fun g => ?_)⟩⟩, fun a => ⟨d, e, q, ⟨hR, ⟨he, rfl⟩, hq, rfl⟩, fin x hx ?_⟩⟩
      · have hx1 := hx.resolve_left b
        refine ih 1 (by omega) (Or.inr rfl) ?_
        rw [← hxd]
        exact ⟨fun _ => Or.inl hx1, fun _ => Or.inl rfl⟩
      · refine ih 0 (by omega) (Or.inl rfl) ?_
        rw [← hxd, hd]
        subst b
        constructor
        · rintro (y | y)
          · exact Or.inl y
          · exact Or.inr ⟨Or.inl y, a⟩
        · rintro (y | y)
          · exact Or.inl y
          · exact Or.inr (y.1.resolve_right (by omega))
      · refine ih 1 (by omega) (Or.inr rfl) ?_
        rw [← hxd, hd]
        exact ⟨fun _ => Or.inr ⟨Or.inr g, a⟩, fun _ => Or.inl rfl⟩
      · rw [← hxd, hd]
        exact ⟨fun y => Or.inl y, fun y => y.elim id (fun z => absurd z.2 a)⟩
  have := key (q + 1) 0 (Nat.le_refl _) (Or.inl rfl) ⟨fun y => y.elim (fun z => absurd z (by decide)) id, Or.inr⟩
  rw [nI_pred q] at this
  exact e0 _ _ _ this
-- ==== X5_manyFetched
def sp_X5_manyFetched : sv_P := fun av σ K => match av with
  | [.inr (.inr (5, 0)), .inl t] => ∃ d : dD, ∃ e : Nat, (RM d σ ∧ (e < dT d ∧ t = nI e)) ∧ (∀ v : Int32, v = nI (cntF d (2 ^ e)) → K (some (.inl v)) σ)
  | _ => False
def tb_X5_manyFetched : List (Nat × (Instr × Nat)) := [(0, (.iconst 0, 1)), (1, (.istore_n 2, 1)), (2, (.iconst 0, 1)), (3, (.istore_n 3, 1)), (4, (.iload_n 3, 1)), (5, (.aload_n 0, 1)), (6, (.getfield 46, 3)), (9, (.if_icmp .ge 26, 3)), (12, (.iload_n 2, 1)), (13, (.aload_n 0, 1)), (14, (.iload_n 1, 1)), (15, (.iload_n 3, 1)), (16, (.invokevirtual 139, 3)), (19, (.ifCond .eq 7, 3)), (22, (.iconst 1, 1)), (23, (.goto 4, 3)), (26, (.iconst 0, 1)), (27, (.iadd, 1)), (28, (.istore_n 2, 1)), (29, (.iinc 3 1, 3)), (32, (.goto (-28), 3)), (35, (.iload_n 2, 1)), (36, (.ireturn, 1))]
set_option maxRecDepth 100000 in
theorem tbk_X5_manyFetched : sv_tbok cX5_manyFetched tb_X5_manyFetched = true := by decide +kernel
def cal_X5_manyFetched : List (Nat × (Nat × Nat × sv_P)) := [(139, (3, 5, sp_X5_comesIn))]
def T_X5_manyFetched : sv_T := (flX5, sfX5, kcX5, klX5, cal_X5_manyFetched)
set_option maxRecDepth 100000 in
theorem Tok_X5_manyFetched (l : Launch) : sv_Tok l RX5 sv_all 2 43 T_X5_manyFetched := ⟨flokX5, sfokX5, kcokX5, klokX5, List.forall_mem_cons.mpr ⟨⟨fun _ => sv_COv_of (c_X5_comesIn l) sv_clok_all (sv_mem 768 (by decide +kernel) rfl) kw_X5_comesIn.1 kw_X5_comesIn.2.1 kw_X5_comesIn.2.2.1 kw_X5_comesIn.2.2.2 kd_X5_comesIn rfl (by decide) (by decide +kernel) rfl (by decide), fun h => absurd h (by decide)⟩, fun _ h => absurd h List.not_mem_nil⟩⟩
theorem kw_X5_manyFetched : Cond.instanceMethod yX5_manyFetched ∈ sv_tb ∧ Cond.selects yX5_manyFetched.cls yX5_manyFetched yX5_manyFetched ∈ sv_tb ∧ Cond.initialized yX5_manyFetched.cls ∈ sv_tb ∧ Cond.code yX5_manyFetched cX5_manyFetched 4 (some .int) ∈ sv_tb := ⟨sv_mem 766 (by decide +kernel) rfl, sv_mem 35 (by decide +kernel) rfl, sv_mem 56 (by decide +kernel) rfl, sv_mem 767 (by decide +kernel) rfl⟩
theorem kd_X5_manyFetched : yX5_manyFetched.cls ≠ "java/lang/invoke/MethodHandle" ∧ yX5_manyFetched.cls ≠ "java/lang/invoke/VarHandle" ∧ (parseMethodDescriptor yX5_manyFetched.desc).map (fun d => d.parameters.length) = some 1 := by decide +kernel
def F_X5_manyFetched_0 (Wk : sv_K) (Kr : Option sv_AV → sv_S → Prop) (t : Int32) (σ : sv_S) : Prop := Wk 4 [some (.inr (.inr (5, 0))), some (.inl t), some (.inl (0 : Int32)), some (.inl (0 : Int32))] [] σ
set_option maxRecDepth 100000 in
theorem bk_X5_manyFetched_0 (Wk : sv_K) (Kr : Option sv_AV → sv_S → Prop) (t : Int32) (σ : sv_S) (h : F_X5_manyFetched_0 Wk Kr t σ) : sv_vc tb_X5_manyFetched T_X5_manyFetched sv_all (some .int) Kr [(4, [true, true, true, true])] Wk 500 0 [some (.inr (.inr (5, 0))), some (.inl t), none, none] [] σ := h
def F_X5_manyFetched_4 (Wk : sv_K) (Kr : Option sv_AV → sv_S → Prop) (x1 : Int32) (x2 : Int32) (x3 : Int32) (σ : sv_S) : Prop := (((sv_gA σ 5 0 0) ≤ x3 → Kr (some (.inl x2)) σ) ∧ (¬ (sv_gA σ 5 0 0) ≤ x3 → (∃ d1 : dD, ∃ e2 : Nat, ∃ q3 : Nat, (RM d1 σ ∧ (e2 < dT d1 ∧ x1 = nI e2) ∧ (q3 < dP d1 ∧ x3 = nI q3)) ∧ (((fetL (dL d1) q3).testBit e2 = true → Wk 4 [some (.inr (.inr (5, 0))), some (.inl x1), some (.inl (x2 + (1 : Int32))), some (.inl (x3 + (1 : Int32)))] [] σ) ∧ (¬ (fetL (dL d1) q3).testBit e2 = true → Wk 4 [some (.inr (.inr (5, 0))), some (.inl x1), some (.inl (x2 + (0 : Int32))), some (.inl (x3 + (1 : Int32)))] [] σ)))))
set_option maxRecDepth 100000 in
theorem bk_X5_manyFetched_4 (Wk : sv_K) (Kr : Option sv_AV → sv_S → Prop) (x1 : Int32) (x2 : Int32) (x3 : Int32) (σ : sv_S) (h : F_X5_manyFetched_4 Wk Kr x1 x2 x3 σ) : sv_vc tb_X5_manyFetched T_X5_manyFetched sv_all (some .int) Kr [(4, [true, true, true, true])] Wk 500 4 [some (.inr (.inr (5, 0))), some (.inl x1), some (.inl x2), some (.inl x3)] [] σ := ⟨fun z5 => ((h).1 z5), fun z5 => (match ((h).2 z5) with | ⟨d1, e2, q3, z4p, z4a, z4b⟩ => ⟨d1, e2, q3, z4p, fun z4y => br_f (by decide) ((z4a z4y)), fun z4y => br_t (by decide) ((z4b z4y))⟩)⟩
set_option maxRecDepth 100000 in
theorem m_X5_manyFetched (l : Launch) (hb : ∀ (Wk : sv_K) (Kr : Option sv_AV → sv_S → Prop), (∀ (t : Int32) (σ : sv_S), F_X5_manyFetched_0 Wk Kr t σ → Wk 0 [some (.inr (.inr (5, 0))), some (.inl t), none, none] [] σ) → (∀ (x1 : Int32) (x2 : Int32) (x3 : Int32) (σ : sv_S), F_X5_manyFetched_4 Wk Kr x1 x2 x3 σ → Wk 4 [some (.inr (.inr (5, 0))), some (.inl x1), some (.inl x2), some (.inl x3)] [] σ) → (∀ (t : Int32) (σ : sv_S), (∃ d : dD, ∃ e : Nat, (RM d σ ∧ (e < dT d ∧ t = nI e)) ∧ (∀ v : Int32, v = nI (cntF d (2 ^ e)) → Kr (some (.inl v)) σ)) → Wk 0 [some (.inr (.inr (5, 0))), some (.inl t), none, none] [] σ)) : sv_C l yX5_manyFetched cX5_manyFetched 4 (some .int) sv_all 2 43 sp_X5_manyFetched := by
  refine sv_meth sv_clok_all tb_X5_manyFetched T_X5_manyFetched (by decide) tbk_X5_manyFetched (Tok_X5_manyFetched l) ?_
  intro Wk Kr hc av σ hsp
  have hB := hb Wk Kr (fun t σ h => hc [(4, [true, true, true, true])] 500 0 _ _ _ (bk_X5_manyFetched_0 Wk Kr t σ h)) (fun x1 x2 x3 σ h => hc [(4, [true, true, true, true])] 500 4 _ _ _ (bk_X5_manyFetched_4 Wk Kr x1 x2 x3 σ h))
  unfold sp_X5_manyFetched at hsp
  split at hsp
  · exact ⟨⟨by simp, by simp [sv_cat]⟩, hB _ _ hsp⟩
  · exact hsp.elim
set_option maxHeartbeats 4000000 in
set_option maxRecDepth 100000 in
theorem c_X5_manyFetched (l : Launch) : sv_C l yX5_manyFetched cX5_manyFetched 4 (some .int) sv_all 2 43 sp_X5_manyFetched := by
  refine m_X5_manyFetched l ?_
  intro Wk Kr e0 e4 t σ ⟨d, e, ⟨hR, he, ht⟩, h⟩
  subst ht
  have hT := hR.1.2.1
  have hP := hR.1.1
  suffices key : ∀ n, n ≤ dP d → Wk 4 [some (.inr (.inr (5, 0))), some (.inl (nI e)), some (.inl (nI (sm (fun p => sd_pc (fetL (dL d) p &&& 2 ^ e)) n))), some (.inl (nI n))] [] σ from e0 _ _ (key 0 (by omega))
  refine lpN (fun n hn ih => ?_)
  apply e4
  unfold F_X5_manyFetched_4
  rw [hR.2.2.1, nI_1, nI_1]
  refine pk_le (dP d) n (fun y => h _ (by rw [show n = dP d by omega]; rfl)) (fun y => ⟨d, e, n, ⟨hR, ⟨he, rfl⟩, y, rfl⟩, ?_⟩)
  have ih := ih y
  have e1 : sm (fun p => sd_pc (fetL (dL d) p &&& 2 ^ e)) (n + 1) = sm (fun p => sd_pc (fetL (dL d) p &&& 2 ^ e)) n + sd_pc (fetL (dL d) n &&& 2 ^ e) := rfl
  rw [e1, pc_one _ (fet32 hR.1 hR.2.1 y) e (by omega)] at ih
  refine ⟨fun a => ?_, fun a => ?_⟩
  · rw [if_pos a] at ih
    exact ih
  · rw [if_neg a] at ih
    rw [show (0 : Int32) = nI 0 from rfl, nI_add]
    exact ih
-- ==== X5_manyReturned
def sp_X5_manyReturned : sv_P := fun av σ K => match av with
  | [.inr (.inr (5, 0)), .inl t] => ∃ d : dD, ∃ e : Nat, (RM d σ ∧ (e < dT d ∧ t = nI e)) ∧ (∀ v : Int32, v = nI (cntR d (2 ^ e)) → K (some (.inl v)) σ)
  | _ => False
def tb_X5_manyReturned : List (Nat × (Instr × Nat)) := [(0, (.iconst 0, 1)), (1, (.istore_n 2, 1)), (2, (.iconst 0, 1)), (3, (.istore_n 3, 1)), (4, (.iload_n 3, 1)), (5, (.aload_n 0, 1)), (6, (.getfield 46, 3)), (9, (.if_icmp .ge 26, 3)), (12, (.iload_n 2, 1)), (13, (.aload_n 0, 1)), (14, (.iload_n 1, 1)), (15, (.iload_n 3, 1)), (16, (.invokevirtual 142, 3)), (19, (.ifCond .eq 7, 3)), (22, (.iconst 1, 1)), (23, (.goto 4, 3)), (26, (.iconst 0, 1)), (27, (.iadd, 1)), (28, (.istore_n 2, 1)), (29, (.iinc 3 1, 3)), (32, (.goto (-28), 3)), (35, (.iload_n 2, 1)), (36, (.ireturn, 1))]
set_option maxRecDepth 100000 in
theorem tbk_X5_manyReturned : sv_tbok cX5_manyReturned tb_X5_manyReturned = true := by decide +kernel
def cal_X5_manyReturned : List (Nat × (Nat × Nat × sv_P)) := [(142, (3, 5, sp_X5_isReturned))]
def T_X5_manyReturned : sv_T := (flX5, sfX5, kcX5, klX5, cal_X5_manyReturned)
set_option maxRecDepth 100000 in
theorem Tok_X5_manyReturned (l : Launch) : sv_Tok l RX5 sv_all 3 67 T_X5_manyReturned := ⟨flokX5, sfokX5, kcokX5, klokX5, List.forall_mem_cons.mpr ⟨⟨fun _ => sv_COv_of (c_X5_isReturned l) sv_clok_all (sv_mem 776 (by decide +kernel) rfl) kw_X5_isReturned.1 kw_X5_isReturned.2.1 kw_X5_isReturned.2.2.1 kw_X5_isReturned.2.2.2 kd_X5_isReturned rfl (by decide) (by decide +kernel) rfl (by decide), fun h => absurd h (by decide)⟩, fun _ h => absurd h List.not_mem_nil⟩⟩
theorem kw_X5_manyReturned : Cond.instanceMethod yX5_manyReturned ∈ sv_tb ∧ Cond.selects yX5_manyReturned.cls yX5_manyReturned yX5_manyReturned ∈ sv_tb ∧ Cond.initialized yX5_manyReturned.cls ∈ sv_tb ∧ Cond.code yX5_manyReturned cX5_manyReturned 4 (some .int) ∈ sv_tb := ⟨sv_mem 774 (by decide +kernel) rfl, sv_mem 37 (by decide +kernel) rfl, sv_mem 56 (by decide +kernel) rfl, sv_mem 775 (by decide +kernel) rfl⟩
theorem kd_X5_manyReturned : yX5_manyReturned.cls ≠ "java/lang/invoke/MethodHandle" ∧ yX5_manyReturned.cls ≠ "java/lang/invoke/VarHandle" ∧ (parseMethodDescriptor yX5_manyReturned.desc).map (fun d => d.parameters.length) = some 1 := by decide +kernel
def F_X5_manyReturned_0 (Wk : sv_K) (Kr : Option sv_AV → sv_S → Prop) (t : Int32) (σ : sv_S) : Prop := Wk 4 [some (.inr (.inr (5, 0))), some (.inl t), some (.inl (0 : Int32)), some (.inl (0 : Int32))] [] σ
set_option maxRecDepth 100000 in
theorem bk_X5_manyReturned_0 (Wk : sv_K) (Kr : Option sv_AV → sv_S → Prop) (t : Int32) (σ : sv_S) (h : F_X5_manyReturned_0 Wk Kr t σ) : sv_vc tb_X5_manyReturned T_X5_manyReturned sv_all (some .int) Kr [(4, [true, true, true, true])] Wk 500 0 [some (.inr (.inr (5, 0))), some (.inl t), none, none] [] σ := h
def F_X5_manyReturned_4 (Wk : sv_K) (Kr : Option sv_AV → sv_S → Prop) (x1 : Int32) (x2 : Int32) (x3 : Int32) (σ : sv_S) : Prop := (((sv_gA σ 5 0 0) ≤ x3 → Kr (some (.inl x2)) σ) ∧ (¬ (sv_gA σ 5 0 0) ≤ x3 → (∃ d1 : dD, ∃ e2 : Nat, ∃ q3 : Nat, (RM d1 σ ∧ (e2 < dT d1 ∧ x1 = nI e2) ∧ (q3 < dP d1 ∧ x3 = nI q3)) ∧ (((rtnL d1 (dL d1) q3).testBit e2 = true → Wk 4 [some (.inr (.inr (5, 0))), some (.inl x1), some (.inl (x2 + (1 : Int32))), some (.inl (x3 + (1 : Int32)))] [] σ) ∧ (¬ (rtnL d1 (dL d1) q3).testBit e2 = true → Wk 4 [some (.inr (.inr (5, 0))), some (.inl x1), some (.inl (x2 + (0 : Int32))), some (.inl (x3 + (1 : Int32)))] [] σ)))))
set_option maxRecDepth 100000 in
theorem bk_X5_manyReturned_4 (Wk : sv_K) (Kr : Option sv_AV → sv_S → Prop) (x1 : Int32) (x2 : Int32) (x3 : Int32) (σ : sv_S) (h : F_X5_manyReturned_4 Wk Kr x1 x2 x3 σ) : sv_vc tb_X5_manyReturned T_X5_manyReturned sv_all (some .int) Kr [(4, [true, true, true, true])] Wk 500 4 [some (.inr (.inr (5, 0))), some (.inl x1), some (.inl x2), some (.inl x3)] [] σ := ⟨fun z5 => ((h).1 z5), fun z5 => (match ((h).2 z5) with | ⟨d1, e2, q3, z4p, z4a, z4b⟩ => ⟨d1, e2, q3, z4p, fun z4y => br_f (by decide) ((z4a z4y)), fun z4y => br_t (by decide) ((z4b z4y))⟩)⟩
set_option maxRecDepth 100000 in
theorem m_X5_manyReturned (l : Launch) (hb : ∀ (Wk : sv_K) (Kr : Option sv_AV → sv_S → Prop), (∀ (t : Int32) (σ : sv_S), F_X5_manyReturned_0 Wk Kr t σ → Wk 0 [some (.inr (.inr (5, 0))), some (.inl t), none, none] [] σ) → (∀ (x1 : Int32) (x2 : Int32) (x3 : Int32) (σ : sv_S), F_X5_manyReturned_4 Wk Kr x1 x2 x3 σ → Wk 4 [some (.inr (.inr (5, 0))), some (.inl x1), some (.inl x2), some (.inl x3)] [] σ) → (∀ (t : Int32) (σ : sv_S), (∃ d : dD, ∃ e : Nat, (RM d σ ∧ (e < dT d ∧ t = nI e)) ∧ (∀ v : Int32, v = nI (cntR d (2 ^ e)) → Kr (some (.inl v)) σ)) → Wk 0 [some (.inr (.inr (5, 0))), some (.inl t), none, none] [] σ)) : sv_C l yX5_manyReturned cX5_manyReturned 4 (some .int) sv_all 3 67 sp_X5_manyReturned := by
  refine sv_meth sv_clok_all tb_X5_manyReturned T_X5_manyReturned (by decide) tbk_X5_manyReturned (Tok_X5_manyReturned l) ?_
  intro Wk Kr hc av σ hsp
  have hB := hb Wk Kr (fun t σ h => hc [(4, [true, true, true, true])] 500 0 _ _ _ (bk_X5_manyReturned_0 Wk Kr t σ h)) (fun x1 x2 x3 σ h => hc [(4, [true, true, true, true])] 500 4 _ _ _ (bk_X5_manyReturned_4 Wk Kr x1 x2 x3 σ h))
  unfold sp_X5_manyReturned at hsp
  split at hsp
  · exact ⟨⟨by simp, by simp [sv_cat]⟩, hB _ _ hsp⟩
  · exact hsp.elim
set_option maxHeartbeats 4000000 in
set_option maxRecDepth 100000 in
theorem c_X5_manyReturned (l : Launch) : sv_C l yX5_manyReturned cX5_manyReturned 4 (some .int) sv_all 3 67 sp_X5_manyReturned := by
  refine m_X5_manyReturned l ?_
  intro Wk Kr e0 e4 t σ ⟨d, e, ⟨hR, he, ht⟩, h⟩
  subst ht
  have hT := hR.1.2.1
  have hP := hR.1.1
  suffices key : ∀ n, n ≤ dP d → Wk 4 [some (.inr (.inr (5, 0))), some (.inl (nI e)), some (.inl (nI (sm (fun p => sd_pc (rtnL d (dL d) p &&& 2 ^ e)) n))), some (.inl (nI n))] [] σ from e0 _ _ (key 0 (by omega))
  refine lpN (fun n hn ih => ?_)
  apply e4
  unfold F_X5_manyReturned_4
  rw [hR.2.2.1, nI_1, nI_1]
  refine pk_le (dP d) n (fun y => h _ (by rw [show n = dP d by omega]; rfl)) (fun y => ⟨d, e, n, ⟨hR, ⟨he, rfl⟩, y, rfl⟩, ?_⟩)
  have ih := ih y
  have e1 : sm (fun p => sd_pc (rtnL d (dL d) p &&& 2 ^ e)) (n + 1) = sm (fun p => sd_pc (rtnL d (dL d) p &&& 2 ^ e)) n + sd_pc (rtnL d (dL d) n &&& 2 ^ e) := rfl
  rw [e1, pc_one _ (rtn32 hR.1 hR.2.1 y) e (by omega)] at ih
  refine ⟨fun a => ?_, fun a => ?_⟩
  · rw [if_pos a] at ih
    exact ih
  · rw [if_neg a] at ih
    rw [show (0 : Int32) = nI 0 from rfl, nI_add]
    exact ih
-- ==== X5_allCarried
def sp_X5_allCarried : sv_P := fun av σ K => match av with
  | [.inr (.inr (5, 0)), .inl b] => ∃ d : dD, (RM d σ ∧ ok2 b) ∧ (∀ v : Int32, v = ch (b = 0) (nI (cntR d (2 ^ dT d - 1))) (nI (cntF d (2 ^ dT d - 1))) → K (some (.inl v)) σ)
  | _ => False
def tb_X5_allCarried : List (Nat × (Instr × Nat)) := [(0, (.iconst 0, 1)), (1, (.istore_n 2, 1)), (2, (.iconst 0, 1)), (3, (.istore_n 3, 1)), (4, (.iload_n 3, 1)), (5, (.aload_n 0, 1)), (6, (.getfield 54, 3)), (9, (.if_icmp .ge 29, 3)), (12, (.iload_n 2, 1)), (13, (.iload_n 1, 1)), (14, (.ifCond .eq 11, 3)), (17, (.aload_n 0, 1)), (18, (.iload_n 3, 1)), (19, (.invokevirtual 145, 3)), (22, (.goto 8, 3)), (25, (.aload_n 0, 1)), (26, (.iload_n 3, 1)), (27, (.invokevirtual 148, 3)), (30, (.iadd, 1)), (31, (.istore_n 2, 1)), (32, (.iinc 3 1, 3)), (35, (.goto (-31), 3)), (38, (.iload_n 2, 1)), (39, (.ireturn, 1))]
set_option maxRecDepth 100000 in
theorem tbk_X5_allCarried : sv_tbok cX5_allCarried tb_X5_allCarried = true := by decide +kernel
def cal_X5_allCarried : List (Nat × (Nat × Nat × sv_P)) := [(145, (2, 5, sp_X5_manyFetched)), (148, (2, 5, sp_X5_manyReturned))]
def T_X5_allCarried : sv_T := (flX5, sfX5, kcX5, klX5, cal_X5_allCarried)
set_option maxRecDepth 100000 in
theorem Tok_X5_allCarried (l : Launch) : sv_Tok l RX5 sv_all 4 90 T_X5_allCarried := ⟨flokX5, sfokX5, kcokX5, klokX5, List.forall_mem_cons.mpr ⟨⟨fun _ => sv_COv_of (c_X5_manyFetched l) sv_clok_all (sv_mem 764 (by decide +kernel) rfl) kw_X5_manyFetched.1 kw_X5_manyFetched.2.1 kw_X5_manyFetched.2.2.1 kw_X5_manyFetched.2.2.2 kd_X5_manyFetched rfl (by decide) (by decide +kernel) rfl (by decide), fun h => absurd h (by decide)⟩, List.forall_mem_cons.mpr ⟨⟨fun _ => sv_COv_of (c_X5_manyReturned l) sv_clok_all (sv_mem 772 (by decide +kernel) rfl) kw_X5_manyReturned.1 kw_X5_manyReturned.2.1 kw_X5_manyReturned.2.2.1 kw_X5_manyReturned.2.2.2 kd_X5_manyReturned rfl (by decide) (by decide +kernel) rfl (by decide), fun h => absurd h (by decide)⟩, fun _ h => absurd h List.not_mem_nil⟩⟩⟩
theorem kw_X5_allCarried : Cond.instanceMethod yX5_allCarried ∈ sv_tb ∧ Cond.selects yX5_allCarried.cls yX5_allCarried yX5_allCarried ∈ sv_tb ∧ Cond.initialized yX5_allCarried.cls ∈ sv_tb ∧ Cond.code yX5_allCarried cX5_allCarried 4 (some .int) ∈ sv_tb := ⟨sv_mem 762 (by decide +kernel) rfl, sv_mem 34 (by decide +kernel) rfl, sv_mem 56 (by decide +kernel) rfl, sv_mem 763 (by decide +kernel) rfl⟩
theorem kd_X5_allCarried : yX5_allCarried.cls ≠ "java/lang/invoke/MethodHandle" ∧ yX5_allCarried.cls ≠ "java/lang/invoke/VarHandle" ∧ (parseMethodDescriptor yX5_allCarried.desc).map (fun d => d.parameters.length) = some 1 := by decide +kernel
def F_X5_allCarried_0 (Wk : sv_K) (Kr : Option sv_AV → sv_S → Prop) (b : Int32) (σ : sv_S) : Prop := Wk 4 [some (.inr (.inr (5, 0))), some (.inl b), some (.inl (0 : Int32)), some (.inl (0 : Int32))] [] σ
set_option maxRecDepth 100000 in
theorem bk_X5_allCarried_0 (Wk : sv_K) (Kr : Option sv_AV → sv_S → Prop) (b : Int32) (σ : sv_S) (h : F_X5_allCarried_0 Wk Kr b σ) : sv_vc tb_X5_allCarried T_X5_allCarried sv_all (some .int) Kr [(4, [true, true, true, true])] Wk 500 0 [some (.inr (.inr (5, 0))), some (.inl b), none, none] [] σ := h
def F_X5_allCarried_4 (Wk : sv_K) (Kr : Option sv_AV → sv_S → Prop) (x1 : Int32) (x2 : Int32) (x3 : Int32) (σ : sv_S) : Prop := (((sv_gA σ 5 0 1) ≤ x3 → Kr (some (.inl x2)) σ) ∧ (¬ (sv_gA σ 5 0 1) ≤ x3 → ((x1 = (0 : Int32) → (∃ d1 : dD, ∃ e2 : Nat, (RM d1 σ ∧ (e2 < dT d1 ∧ x3 = nI e2)) ∧ (∀ v3 : Int32, v3 = nI (cntR d1 (2 ^ e2)) → Wk 4 [some (.inr (.inr (5, 0))), some (.inl x1), some (.inl (x2 + v3)), some (.inl (x3 + (1 : Int32)))] [] σ))) ∧ (¬ x1 = (0 : Int32) → (∃ d4 : dD, ∃ e5 : Nat, (RM d4 σ ∧ (e5 < dT d4 ∧ x3 = nI e5)) ∧ (∀ v6 : Int32, v6 = nI (cntF d4 (2 ^ e5)) → Wk 4 [some (.inr (.inr (5, 0))), some (.inl x1), some (.inl (x2 + v6)), some (.inl (x3 + (1 : Int32)))] [] σ))))))
set_option maxRecDepth 100000 in
theorem bk_X5_allCarried_4 (Wk : sv_K) (Kr : Option sv_AV → sv_S → Prop) (x1 : Int32) (x2 : Int32) (x3 : Int32) (σ : sv_S) (h : F_X5_allCarried_4 Wk Kr x1 x2 x3 σ) : sv_vc tb_X5_allCarried T_X5_allCarried sv_all (some .int) Kr [(4, [true, true, true, true])] Wk 500 4 [some (.inr (.inr (5, 0))), some (.inl x1), some (.inl x2), some (.inl x3)] [] σ := h
set_option maxRecDepth 100000 in
theorem m_X5_allCarried (l : Launch) (hb : ∀ (Wk : sv_K) (Kr : Option sv_AV → sv_S → Prop), (∀ (b : Int32) (σ : sv_S), F_X5_allCarried_0 Wk Kr b σ → Wk 0 [some (.inr (.inr (5, 0))), some (.inl b), none, none] [] σ) → (∀ (x1 : Int32) (x2 : Int32) (x3 : Int32) (σ : sv_S), F_X5_allCarried_4 Wk Kr x1 x2 x3 σ → Wk 4 [some (.inr (.inr (5, 0))), some (.inl x1), some (.inl x2), some (.inl x3)] [] σ) → (∀ (b : Int32) (σ : sv_S), (∃ d : dD, (RM d σ ∧ ok2 b) ∧ (∀ v : Int32, v = ch (b = 0) (nI (cntR d (2 ^ dT d - 1))) (nI (cntF d (2 ^ dT d - 1))) → Kr (some (.inl v)) σ)) → Wk 0 [some (.inr (.inr (5, 0))), some (.inl b), none, none] [] σ)) : sv_C l yX5_allCarried cX5_allCarried 4 (some .int) sv_all 4 90 sp_X5_allCarried := by
  refine sv_meth sv_clok_all tb_X5_allCarried T_X5_allCarried (by decide) tbk_X5_allCarried (Tok_X5_allCarried l) ?_
  intro Wk Kr hc av σ hsp
  have hB := hb Wk Kr (fun b σ h => hc [(4, [true, true, true, true])] 500 0 _ _ _ (bk_X5_allCarried_0 Wk Kr b σ h)) (fun x1 x2 x3 σ h => hc [(4, [true, true, true, true])] 500 4 _ _ _ (bk_X5_allCarried_4 Wk Kr x1 x2 x3 σ h))
  unfold sp_X5_allCarried at hsp
  split at hsp
  · exact ⟨⟨by simp, by simp [sv_cat]⟩, hB _ _ hsp⟩
  · exact hsp.elim
set_option maxHeartbeats 4000000 in
set_option maxRecDepth 100000 in
theorem c_X5_allCarried (l : Launch) : sv_C l yX5_allCarried cX5_allCarried 4 (some .int) sv_all 4 90 sp_X5_allCarried := by
  refine m_X5_allCarried l ?_
  intro Wk Kr e0 e4 b σ ⟨d, ⟨hR, hb⟩, h⟩
  have hT := hR.1.2.1
  suffices key : ∀ n, n ≤ dT d → Wk 4 [some (.inr (.inr (5, 0))), some (.inl b), some (.inl (ch (b = 0) (nI (sm (fun t => cntR d (2 ^ t)) n)) (nI (sm (fun t => cntF d (2 ^ t)) n)))), some (.inl (nI n))] [] σ by
    have := key 0 (by omega)
    rw [show ch (b = 0) (nI (sm (fun t => cntR d (2 ^ t)) 0)) (nI (sm (fun t => cntF d (2 ^ t)) 0)) = (0 : Int32) by
      by_cases c : b = 0
      · rw [ch_t c]; rfl
      · rw [ch_f c]; rfl] at this
    exact e0 _ _ this
  refine lpN (fun n hn ih => ?_)
  apply e4
  unfold F_X5_allCarried_4
  rw [hR.2.2.2.1, nI_1]
  refine pk_le (dT d) n (fun y => h _ ?_) (fun y => ⟨fun c => ⟨d, n, ⟨hR, y, rfl⟩, fun v3 h3 => ?_⟩, fun c => ⟨d, n, ⟨hR, y, rfl⟩, fun v3 h3 => ?_⟩⟩)
  · rw [show n = dT d by omega, cntR_all hR.1 hR.2.1, cntF_all hR.1 hR.2.1]
  · have ih := ih y
    rw [ch_t c] at ih
    rw [h3, ch_t c, nI_add]
    exact ih
  · have ih := ih y
    rw [ch_f c] at ih
    rw [h3, ch_f c, nI_add]
    exact ih
-- ==== X5_carried
def sp_X5_carried : sv_P := fun av σ K => match av with
  | [.inr (.inr (5, 0)), .inl what] => ∃ d : dD, (RM d σ ∧ MI d σ) ∧ (∀ v : Int32, v = A_carried d what → K (some (.inl v)) σ)
  | _ => False
def tb_X5_carried : List (Nat × (Instr × Nat)) := [(0, (.iload_n 1, 1)), (1, (.iconst 0, 1)), (2, (.iconst 1, 1)), (3, (.invokestatic 50, 3)), (6, (.ifCond .eq 17, 3)), (9, (.aload_n 0, 1)), (10, (.iload_n 1, 1)), (11, (.ifCond .ne 7, 3)), (14, (.iconst 1, 1)), (15, (.goto 4, 3)), (18, (.iconst 0, 1)), (19, (.invokevirtual 151, 3)), (22, (.ireturn, 1)), (23, (.iload_n 1, 1)), (24, (.bipush 20, 2)), (26, (.if_icmp .lt 23, 3)), (29, (.aload_n 0, 1)), (30, (.iload_n 1, 1)), (31, (.bipush 20, 2)), (33, (.isub, 1)), (34, (.invokevirtual 69, 3)), (37, (.ifCond .eq 12, 3)), (40, (.aload_n 0, 1)), (41, (.iload_n 1, 1)), (42, (.bipush 20, 2)), (44, (.isub, 1)), (45, (.invokevirtual 148, 3)), (48, (.ireturn, 1)), (49, (.iload_n 1, 1)), (50, (.bipush 10, 2)), (52, (.if_icmp .lt 25, 3)), (55, (.aload_n 0, 1)), (56, (.iload_n 1, 1)), (57, (.bipush 10, 2)), (59, (.isub, 1)), (60, (.invokevirtual 69, 3)), (63, (.ifCond .eq 14, 3)), (66, (.aload_n 0, 1)), (67, (.iload_n 1, 1)), (68, (.bipush 10, 2)), (70, (.isub, 1)), (71, (.invokevirtual 145, 3)), (74, (.goto 5, 3)), (77, (.bipush (-2), 2)), (79, (.ireturn, 1))]
set_option maxRecDepth 100000 in
theorem tbk_X5_carried : sv_tbok cX5_carried tb_X5_carried = true := by decide +kernel
def cal_X5_carried : List (Nat × (Nat × Nat × sv_P)) := [(50, (3, 90, sp_X5_within)), (151, (2, 5, sp_X5_allCarried)), (69, (2, 5, sp_X5_isThing)), (148, (2, 5, sp_X5_manyReturned)), (145, (2, 5, sp_X5_manyFetched))]
def T_X5_carried : sv_T := (flX5, sfX5, kcX5, klX5, cal_X5_carried)
set_option maxRecDepth 100000 in
theorem Tok_X5_carried (l : Launch) : sv_Tok l RX5 sv_all 5 113 T_X5_carried := ⟨flokX5, sfokX5, kcokX5, klokX5, List.forall_mem_cons.mpr ⟨⟨fun h => absurd h (by decide), fun _ => sv_COs_gen (c_X5_within l) (Or.inl (sv_mem 623 (by decide +kernel) rfl)) kw_X5_within.1 kw_X5_within.2.1 kw_X5_within.2.2 kd_X5_within rfl (by decide) (by decide +kernel)⟩, List.forall_mem_cons.mpr ⟨⟨fun _ => sv_COv_of (c_X5_allCarried l) sv_clok_all (sv_mem 760 (by decide +kernel) rfl) kw_X5_allCarried.1 kw_X5_allCarried.2.1 kw_X5_allCarried.2.2.1 kw_X5_allCarried.2.2.2 kd_X5_allCarried rfl (by decide) (by decide +kernel) rfl (by decide), fun h => absurd h (by decide)⟩, List.forall_mem_cons.mpr ⟨⟨fun _ => sv_COv_of (c_X5_isThing l) sv_clok_all (sv_mem 646 (by decide +kernel) rfl) kw_X5_isThing.1 kw_X5_isThing.2.1 kw_X5_isThing.2.2.1 kw_X5_isThing.2.2.2 kd_X5_isThing rfl (by decide) (by decide +kernel) rfl (by decide), fun h => absurd h (by decide)⟩, List.forall_mem_cons.mpr ⟨⟨fun _ => sv_COv_of (c_X5_manyReturned l) sv_clok_all (sv_mem 772 (by decide +kernel) rfl) kw_X5_manyReturned.1 kw_X5_manyReturned.2.1 kw_X5_manyReturned.2.2.1 kw_X5_manyReturned.2.2.2 kd_X5_manyReturned rfl (by decide) (by decide +kernel) rfl (by decide), fun h => absurd h (by decide)⟩, List.forall_mem_cons.mpr ⟨⟨fun _ => sv_COv_of (c_X5_manyFetched l) sv_clok_all (sv_mem 764 (by decide +kernel) rfl) kw_X5_manyFetched.1 kw_X5_manyFetched.2.1 kw_X5_manyFetched.2.2.1 kw_X5_manyFetched.2.2.2 kd_X5_manyFetched rfl (by decide) (by decide +kernel) rfl (by decide), fun h => absurd h (by decide)⟩, fun _ h => absurd h List.not_mem_nil⟩⟩⟩⟩⟩⟩
theorem kw_X5_carried : Cond.instanceMethod yX5_carried ∈ sv_tb ∧ Cond.selects yX5_carried.cls yX5_carried yX5_carried ∈ sv_tb ∧ Cond.initialized yX5_carried.cls ∈ sv_tb ∧ Cond.code yX5_carried cX5_carried 2 (some .int) ∈ sv_tb := ⟨sv_mem 757 (by decide +kernel) rfl, sv_mem 758 (by decide +kernel) rfl, sv_mem 56 (by decide +kernel) rfl, sv_mem 759 (by decide +kernel) rfl⟩
theorem kd_X5_carried : yX5_carried.cls ≠ "java/lang/invoke/MethodHandle" ∧ yX5_carried.cls ≠ "java/lang/invoke/VarHandle" ∧ (parseMethodDescriptor yX5_carried.desc).map (fun d => d.parameters.length) = some 1 := by decide +kernel
def F_X5_carried_0 (Wk : sv_K) (Kr : Option sv_AV → sv_S → Prop) (what : Int32) (σ : sv_S) : Prop := ((((0 : Int32) ≤ what ∧ what ≤ (1 : Int32) → ((¬ what = (0 : Int32) → (∃ d1 : dD, (RM d1 σ ∧ ok2 (0 : Int32)) ∧ (∀ v2 : Int32, v2 = ch ((0 : Int32) = 0) (nI (cntR d1 (2 ^ dT d1 - 1))) (nI (cntF d1 (2 ^ dT d1 - 1))) → Kr (some (.inl v2)) σ))) ∧ (what = (0 : Int32) → (∃ d3 : dD, (RM d3 σ ∧ ok2 (1 : Int32)) ∧ (∀ v4 : Int32, v4 = ch ((1 : Int32) = 0) (nI (cntR d3 (2 ^ dT d3 - 1))) (nI (cntF d3 (2 ^ dT d3 - 1))) → Kr (some (.inl v4)) σ))))) ∧ (¬ ((0 : Int32) ≤ what ∧ what ≤ (1 : Int32)) → ((what < (20 : Int32) → ((what < (10 : Int32) → Kr (some (.inl (-2 : Int32))) σ) ∧ (¬ what < (10 : Int32) → (∃ d5 : dD, (RM d5 σ) ∧ ((isN (dT d5) (what - (10 : Int32)) → (∃ d6 : dD, ∃ e7 : Nat, (RM d6 σ ∧ (e7 < dT d6 ∧ (what - (10 : Int32)) = nI e7)) ∧ (∀ v8 : Int32, v8 = nI (cntF d6 (2 ^ e7)) → Kr (some (.inl v8)) σ))) ∧ (¬ isN (dT d5) (what - (10 : Int32)) → Kr (some (.inl (-2 : Int32))) σ)))))) ∧ (¬ what < (20 : Int32) → (∃ d11 : dD, (RM d11 σ) ∧ ((isN (dT d11) (what - (20 : Int32)) → (∃ d12 : dD, ∃ e13 : Nat, (RM d12 σ ∧ (e13 < dT d12 ∧ (what - (20 : Int32)) = nI e13)) ∧ (∀ v14 : Int32, v14 = nI (cntR d12 (2 ^ e13)) → Kr (some (.inl v14)) σ))) ∧ (¬ isN (dT d11) (what - (20 : Int32)) → ((what < (10 : Int32) → Kr (some (.inl (-2 : Int32))) σ) ∧ (¬ what < (10 : Int32) → (∃ d15 : dD, (RM d15 σ) ∧ ((isN (dT d15) (what - (10 : Int32)) → (∃ d16 : dD, ∃ e17 : Nat, (RM d16 σ ∧ (e17 < dT d16 ∧ (what - (10 : Int32)) = nI e17)) ∧ (∀ v18 : Int32, v18 = nI (cntF d16 (2 ^ e17)) → Kr (some (.inl v18)) σ))) ∧ (¬ isN (dT d15) (what - (10 : Int32)) → Kr (some (.inl (-2 : Int32))) σ)))))))))))))
set_option maxRecDepth 100000 in
theorem bk_X5_carried_0 (Wk : sv_K) (Kr : Option sv_AV → sv_S → Prop) (what : Int32) (σ : sv_S) (h : F_X5_carried_0 Wk Kr what σ) : sv_vc tb_X5_carried T_X5_carried sv_all (some .int) Kr [] Wk 500 0 [some (.inr (.inr (5, 0))), some (.inl what)] [] σ := (match h with | ⟨z23a, z23b⟩ => ⟨fun z23y => br_f (by decide) ((z23a z23y)), fun z23y => br_t (by decide) (⟨fun z22 => ⟨fun z10 => (((((z23b z23y)).1 z22)).1 z10), fun z10 => (match (((((z23b z23y)).1 z22)).2 z10) with | ⟨d5, z9p, z9a, z9b⟩ => ⟨d5, z9p, fun z9y => br_f (by decide) ((z9a z9y)), fun z9y => br_t (by decide) ((z9b z9y))⟩)⟩, fun z22 => (match (((z23b z23y)).2 z22) with | ⟨d11, z21p, z21a, z21b⟩ => ⟨d11, z21p, fun z21y => br_f (by decide) ((z21a z21y)), fun z21y => br_t (by decide) (⟨fun z20 => (((z21b z21y)).1 z20), fun z20 => (match (((z21b z21y)).2 z20) with | ⟨d15, z19p, z19a, z19b⟩ => ⟨d15, z19p, fun z19y => br_f (by decide) ((z19a z19y)), fun z19y => br_t (by decide) ((z19b z19y))⟩)⟩)⟩)⟩)⟩)
set_option maxRecDepth 100000 in
theorem m_X5_carried (l : Launch) (hb : ∀ (Wk : sv_K) (Kr : Option sv_AV → sv_S → Prop), (∀ (what : Int32) (σ : sv_S), F_X5_carried_0 Wk Kr what σ → Wk 0 [some (.inr (.inr (5, 0))), some (.inl what)] [] σ) → (∀ (what : Int32) (σ : sv_S), (∃ d : dD, (RM d σ ∧ MI d σ) ∧ (∀ v : Int32, v = A_carried d what → Kr (some (.inl v)) σ)) → Wk 0 [some (.inr (.inr (5, 0))), some (.inl what)] [] σ)) : sv_C l yX5_carried cX5_carried 2 (some .int) sv_all 5 113 sp_X5_carried := by
  refine sv_meth sv_clok_all tb_X5_carried T_X5_carried (by decide) tbk_X5_carried (Tok_X5_carried l) ?_
  intro Wk Kr hc av σ hsp
  have hB := hb Wk Kr (fun what σ h => hc [] 500 0 _ _ _ (bk_X5_carried_0 Wk Kr what σ h))
  unfold sp_X5_carried at hsp
  split at hsp
  · exact ⟨⟨by simp, by simp [sv_cat]⟩, hB _ _ hsp⟩
  · exact hsp.elim
set_option maxHeartbeats 4000000 in
set_option maxRecDepth 100000 in
theorem c_X5_carried (l : Launch) : sv_C l yX5_carried cX5_carried 2 (some .int) sv_all 5 113 sp_X5_carried := by
  refine m_X5_carried l ?_
  intro Wk Kr e0 what σ ⟨d, ⟨hC, hI⟩, h⟩
  have hT := hC.1.2.1
  have i10 := inT_N (d := d) hT (f := 10) (by omega) what
  have i20 := inT_N (d := d) hT (f := 20) (by omega) what
  have tail : ¬ ((0 : Int32) ≤ what ∧ what ≤ 1) → ∀ v : Int32, v = ch (inT d 10 what) (nI (cntF d (2 ^ (xn what - 10)))) (ch (inT d 20 what) (nI (cntR d (2 ^ (xn what - 20)))) (-2)) → Kr (some (.inl v)) σ := by
    intro hw v hv
    refine h _ ?_
    rw [hv]
    clear hv
    unfold A_carried
    rw [ch_f (c := what = 0) (fun y => hw (by rw [y]; decide)), ch_f (c := what = 1) (fun y => hw (by rw [y]; decide))]
  have n12 : inT d 20 what → ¬ inT d 10 what := by
    rintro ⟨t, ht, rfl⟩ ⟨u, hu, e⟩
    have := (nI_eq (by omega) (by omega)).mp e
    omega
  have val : ∀ f e : Nat, f ≤ 20 → e < dT d → what - nI f = nI e → xn what - f = e := by
    intro f e hf he hw
    have : what = nI (f + e) := by rw [← nI_add, ← hw, Int32.add_comm, Int32.sub_add_cancel]
    rw [this, xn_nI (by omega), Nat.add_sub_cancel_left]
  apply e0
  refine ⟨fun hw => ⟨fun z => ⟨d, ⟨hC, Or.inl rfl⟩, fun v2 h2 => h _ ?_⟩, fun z => ⟨d, ⟨hC, Or.inr rfl⟩, fun v4 h4 => h _ ?_⟩⟩, fun hw => ⟨fun z => ⟨fun y => tail hw _ ?_, fun y => ⟨d, hC, fun x => ?_, fun x => tail hw _ ?_⟩⟩, fun z => ⟨d, hC, fun y => ?_, fun y => ⟨fun x => tail hw _ ?_, fun x => ⟨d, hC, fun w => ?_, fun w => tail hw _ ?_⟩⟩⟩⟩⟩
  · have h1 : what = 1 := ((ok2_le what).mpr hw).resolve_left z
    rw [ch_t (c := (0 : Int32) = 0) rfl] at h2
    unfold A_carried
    rw [ch_f (c := what = 0) z, ch_t (c := what = 1) h1]
    exact h2
  · rw [ch_f (c := (1 : Int32) = 0) (by decide)] at h4
    unfold A_carried
    rw [ch_t (c := what = 0) z]
    exact h4
  · rw [ch_f (fun w => (i10.mp w).1 y), ch_f (fun w => (i20.mp w).1 z)]
  · have hi := i10.mpr ⟨y, x⟩
    obtain ⟨e, he, hx⟩ := x
    exact ⟨d, e, ⟨hC, he, hx⟩, fun v8 h8 => tail hw _ (by rw [ch_t hi, val 10 e (by omega) he hx]; exact h8)⟩
  · rw [ch_f (fun w => x (i10.mp w).2), ch_f (fun w => (i20.mp w).1 z)]
  · have hi := i20.mpr ⟨z, y⟩
    obtain ⟨e, he, hx⟩ := y
    exact ⟨d, e, ⟨hC, he, hx⟩, fun v8 h8 => tail hw _ (by rw [ch_f (n12 hi), ch_t hi, val 20 e (by omega) he hx]; exact h8)⟩
  · rw [ch_f (fun w => (i10.mp w).1 x), ch_f (fun w => y (i20.mp w).2)]
  · have hi := i10.mpr ⟨x, w⟩
    obtain ⟨e, he, hx⟩ := w
    exact ⟨d, e, ⟨hC, he, hx⟩, fun v8 h8 => tail hw _ (by rw [ch_t hi, val 10 e (by omega) he hx]; exact h8)⟩
  · rw [ch_f (fun v => w (i10.mp v).2), ch_f (fun v => y (i20.mp v).2)]
-- ==== X5_loadOf
def sp_X5_loadOf : sv_P := fun av σ K => match av with
  | [.inr (.inr (5, 0)), .inl p] => ∃ d : dD, ∃ q : Nat, (RM d σ ∧ (q < dP d ∧ p = nI q)) ∧ (∀ v : Int32, v = nI (loadL d (dL d) q) → K (some (.inl v)) σ)
  | _ => False
def tb_X5_loadOf : List (Nat × (Instr × Nat)) := [(0, (.iconst 0, 1)), (1, (.istore_n 2, 1)), (2, (.iconst 0, 1)), (3, (.istore_n 3, 1)), (4, (.iload_n 3, 1)), (5, (.aload_n 0, 1)), (6, (.getfield 54, 3)), (9, (.if_icmp .ge 57, 3)), (12, (.iload_n 2, 1)), (13, (.aload_n 0, 1)), (14, (.iload_n 3, 1)), (15, (.iload_n 1, 1)), (16, (.invokevirtual 139, 3)), (19, (.ifCond .eq 11, 3)), (22, (.aload_n 0, 1)), (23, (.iload_n 3, 1)), (24, (.invokevirtual 85, 3)), (27, (.goto 4, 3)), (30, (.iconst 0, 1)), (31, (.iadd, 1)), (32, (.istore_n 2, 1)), (33, (.iload_n 2, 1)), (34, (.iload_n 1, 1)), (35, (.ifCond .le 22, 3)), (38, (.aload_n 0, 1)), (39, (.iload_n 3, 1)), (40, (.iload_n 1, 1)), (41, (.iconst 1, 1)), (42, (.isub, 1)), (43, (.invokevirtual 142, 3)), (46, (.ifCond .eq 11, 3)), (49, (.aload_n 0, 1)), (50, (.iload_n 3, 1)), (51, (.invokevirtual 85, 3)), (54, (.goto 4, 3)), (57, (.iconst 0, 1)), (58, (.iadd, 1)), (59, (.istore_n 2, 1)), (60, (.iinc 3 1, 3)), (63, (.goto (-59), 3)), (66, (.iload_n 2, 1)), (67, (.ireturn, 1))]
set_option maxRecDepth 100000 in
theorem tbk_X5_loadOf : sv_tbok cX5_loadOf tb_X5_loadOf = true := by decide +kernel
def cal_X5_loadOf : List (Nat × (Nat × Nat × sv_P)) := [(139, (3, 5, sp_X5_comesIn)), (85, (2, 5, sp_X5_carryOf)), (142, (3, 5, sp_X5_isReturned))]
def T_X5_loadOf : sv_T := (flX5, sfX5, kcX5, klX5, cal_X5_loadOf)
set_option maxRecDepth 100000 in
theorem Tok_X5_loadOf (l : Launch) : sv_Tok l RX5 sv_all 3 67 T_X5_loadOf := ⟨flokX5, sfokX5, kcokX5, klokX5, List.forall_mem_cons.mpr ⟨⟨fun _ => sv_COv_of (c_X5_comesIn l) sv_clok_all (sv_mem 768 (by decide +kernel) rfl) kw_X5_comesIn.1 kw_X5_comesIn.2.1 kw_X5_comesIn.2.2.1 kw_X5_comesIn.2.2.2 kd_X5_comesIn rfl (by decide) (by decide +kernel) rfl (by decide), fun h => absurd h (by decide)⟩, List.forall_mem_cons.mpr ⟨⟨fun _ => sv_COv_of (c_X5_carryOf l) sv_clok_all (sv_mem 707 (by decide +kernel) rfl) kw_X5_carryOf.1 kw_X5_carryOf.2.1 kw_X5_carryOf.2.2.1 kw_X5_carryOf.2.2.2 kd_X5_carryOf rfl (by decide) (by decide +kernel) rfl (by decide), fun h => absurd h (by decide)⟩, List.forall_mem_cons.mpr ⟨⟨fun _ => sv_COv_of (c_X5_isReturned l) sv_clok_all (sv_mem 776 (by decide +kernel) rfl) kw_X5_isReturned.1 kw_X5_isReturned.2.1 kw_X5_isReturned.2.2.1 kw_X5_isReturned.2.2.2 kd_X5_isReturned rfl (by decide) (by decide +kernel) rfl (by decide), fun h => absurd h (by decide)⟩, fun _ h => absurd h List.not_mem_nil⟩⟩⟩⟩
theorem kw_X5_loadOf : Cond.instanceMethod yX5_loadOf ∈ sv_tb ∧ Cond.selects yX5_loadOf.cls yX5_loadOf yX5_loadOf ∈ sv_tb ∧ Cond.initialized yX5_loadOf.cls ∈ sv_tb ∧ Cond.code yX5_loadOf cX5_loadOf 4 (some .int) ∈ sv_tb := ⟨sv_mem 858 (by decide +kernel) rfl, sv_mem 48 (by decide +kernel) rfl, sv_mem 56 (by decide +kernel) rfl, sv_mem 859 (by decide +kernel) rfl⟩
theorem kd_X5_loadOf : yX5_loadOf.cls ≠ "java/lang/invoke/MethodHandle" ∧ yX5_loadOf.cls ≠ "java/lang/invoke/VarHandle" ∧ (parseMethodDescriptor yX5_loadOf.desc).map (fun d => d.parameters.length) = some 1 := by decide +kernel
def F_X5_loadOf_0 (Wk : sv_K) (Kr : Option sv_AV → sv_S → Prop) (p : Int32) (σ : sv_S) : Prop := Wk 4 [some (.inr (.inr (5, 0))), some (.inl p), some (.inl (0 : Int32)), some (.inl (0 : Int32))] [] σ
set_option maxRecDepth 100000 in
theorem bk_X5_loadOf_0 (Wk : sv_K) (Kr : Option sv_AV → sv_S → Prop) (p : Int32) (σ : sv_S) (h : F_X5_loadOf_0 Wk Kr p σ) : sv_vc tb_X5_loadOf T_X5_loadOf sv_all (some .int) Kr [(4, [true, true, true, true])] Wk 500 0 [some (.inr (.inr (5, 0))), some (.inl p), none, none] [] σ := h
def F_X5_loadOf_4 (Wk : sv_K) (Kr : Option sv_AV → sv_S → Prop) (x1 : Int32) (x2 : Int32) (x3 : Int32) (σ : sv_S) : Prop := (((sv_gA σ 5 0 1) ≤ x3 → Kr (some (.inl x2)) σ) ∧ (¬ (sv_gA σ 5 0 1) ≤ x3 → (∃ d1 : dD, ∃ e2 : Nat, ∃ q3 : Nat, (RM d1 σ ∧ (e2 < dT d1 ∧ x3 = nI e2) ∧ (q3 < dP d1 ∧ x1 = nI q3)) ∧ (((fetL (dL d1) q3).testBit e2 = true → (∃ d4 : dD, ∃ e5 : Nat, (RM d4 σ ∧ (e5 < dT d4 ∧ x3 = nI e5)) ∧ (∀ v6 : Int32, v6 = nI (dS d4 3 * dZ d4 e5) → ((x1 ≤ (0 : Int32) → Wk 4 [some (.inr (.inr (5, 0))), some (.inl x1), some (.inl ((x2 + v6) + (0 : Int32))), some (.inl (x3 + (1 : Int32)))] [] σ) ∧ (¬ x1 ≤ (0 : Int32) → (∃ d7 : dD, ∃ e8 : Nat, ∃ q9 : Nat, (RM d7 σ ∧ (e8 < dT d7 ∧ x3 = nI e8) ∧ (q9 < dP d7 ∧ (x1 - (1 : Int32)) = nI q9)) ∧ (((rtnL d7 (dL d7) q9).testBit e8 = true → (∃ d10 : dD, ∃ e11 : Nat, (RM d10 σ ∧ (e11 < dT d10 ∧ x3 = nI e11)) ∧ (∀ v12 : Int32, v12 = nI (dS d10 3 * dZ d10 e11) → Wk 4 [some (.inr (.inr (5, 0))), some (.inl x1), some (.inl ((x2 + v6) + v12)), some (.inl (x3 + (1 : Int32)))] [] σ))) ∧ (¬ (rtnL d7 (dL d7) q9).testBit e8 = true → Wk 4 [some (.inr (.inr (5, 0))), some (.inl x1), some (.inl ((x2 + v6) + (0 : Int32))), some (.inl (x3 + (1 : Int32)))] [] σ)))))))) ∧ (¬ (fetL (dL d1) q3).testBit e2 = true → ((x1 ≤ (0 : Int32) → Wk 4 [some (.inr (.inr (5, 0))), some (.inl x1), some (.inl ((x2 + (0 : Int32)) + (0 : Int32))), some (.inl (x3 + (1 : Int32)))] [] σ) ∧ (¬ x1 ≤ (0 : Int32) → (∃ d16 : dD, ∃ e17 : Nat, ∃ q18 : Nat, (RM d16 σ ∧ (e17 < dT d16 ∧ x3 = nI e17) ∧ (q18 < dP d16 ∧ (x1 - (1 : Int32)) = nI q18)) ∧ (((rtnL d16 (dL d16) q18).testBit e17 = true → (∃ d19 : dD, ∃ e20 : Nat, (RM d19 σ ∧ (e20 < dT d19 ∧ x3 = nI e20)) ∧ (∀ v21 : Int32, v21 = nI (dS d19 3 * dZ d19 e20) → Wk 4 [some (.inr (.inr (5, 0))), some (.inl x1), some (.inl ((x2 + (0 : Int32)) + v21)), some (.inl (x3 + (1 : Int32)))] [] σ))) ∧ (¬ (rtnL d16 (dL d16) q18).testBit e17 = true → Wk 4 [some (.inr (.inr (5, 0))), some (.inl x1), some (.inl ((x2 + (0 : Int32)) + (0 : Int32))), some (.inl (x3 + (1 : Int32)))] [] σ))))))))))
set_option maxRecDepth 100000 in
theorem bk_X5_loadOf_4 (Wk : sv_K) (Kr : Option sv_AV → sv_S → Prop) (x1 : Int32) (x2 : Int32) (x3 : Int32) (σ : sv_S) (h : F_X5_loadOf_4 Wk Kr x1 x2 x3 σ) : sv_vc tb_X5_loadOf T_X5_loadOf sv_all (some .int) Kr [(4, [true, true, true, true])] Wk 500 4 [some (.inr (.inr (5, 0))), some (.inl x1), some (.inl x2), some (.inl x3)] [] σ := ⟨fun z25 => ((h).1 z25), fun z25 => (match ((h).2 z25) with | ⟨d1, e2, q3, z24p, z24a, z24b⟩ => ⟨d1, e2, q3, z24p, fun z24y => br_f (by decide) ((match (z24a z24y) with | ⟨d4, e5, z15p, z15k⟩ => ⟨d4, e5, z15p, fun v6 z15y => ⟨fun z14 => (((z15k v6 z15y)).1 z14), fun z14 => (match (((z15k v6 z15y)).2 z14) with | ⟨d7, e8, q9, z13p, z13a, z13b⟩ => ⟨d7, e8, q9, z13p, fun z13y => br_f (by decide) ((z13a z13y)), fun z13y => br_t (by decide) ((z13b z13y))⟩)⟩⟩)), fun z24y => br_t (by decide) (⟨fun z23 => (((z24b z24y)).1 z23), fun z23 => (match (((z24b z24y)).2 z23) with | ⟨d16, e17, q18, z22p, z22a, z22b⟩ => ⟨d16, e17, q18, z22p, fun z22y => br_f (by decide) ((z22a z22y)), fun z22y => br_t (by decide) ((z22b z22y))⟩)⟩)⟩)⟩
set_option maxRecDepth 100000 in
theorem m_X5_loadOf (l : Launch) (hb : ∀ (Wk : sv_K) (Kr : Option sv_AV → sv_S → Prop), (∀ (p : Int32) (σ : sv_S), F_X5_loadOf_0 Wk Kr p σ → Wk 0 [some (.inr (.inr (5, 0))), some (.inl p), none, none] [] σ) → (∀ (x1 : Int32) (x2 : Int32) (x3 : Int32) (σ : sv_S), F_X5_loadOf_4 Wk Kr x1 x2 x3 σ → Wk 4 [some (.inr (.inr (5, 0))), some (.inl x1), some (.inl x2), some (.inl x3)] [] σ) → (∀ (p : Int32) (σ : sv_S), (∃ d : dD, ∃ q : Nat, (RM d σ ∧ (q < dP d ∧ p = nI q)) ∧ (∀ v : Int32, v = nI (loadL d (dL d) q) → Kr (some (.inl v)) σ)) → Wk 0 [some (.inr (.inr (5, 0))), some (.inl p), none, none] [] σ)) : sv_C l yX5_loadOf cX5_loadOf 4 (some .int) sv_all 3 67 sp_X5_loadOf := by
  refine sv_meth sv_clok_all tb_X5_loadOf T_X5_loadOf (by decide) tbk_X5_loadOf (Tok_X5_loadOf l) ?_
  intro Wk Kr hc av σ hsp
  have hB := hb Wk Kr (fun p σ h => hc [(4, [true, true, true, true])] 500 0 _ _ _ (bk_X5_loadOf_0 Wk Kr p σ h)) (fun x1 x2 x3 σ h => hc [(4, [true, true, true, true])] 500 4 _ _ _ (bk_X5_loadOf_4 Wk Kr x1 x2 x3 σ h))
  unfold sp_X5_loadOf at hsp
  split at hsp
  · exact ⟨⟨by simp, by simp [sv_cat]⟩, hB _ _ hsp⟩
  · exact hsp.elim
def ldT (d : dD) (q t : Nat) : Nat := (if (fetL (dL d) q).testBit t then dS d 3 * dZ d t else 0) + (if q = 0 then 0 else if (rtnL d (dL d) (q - 1)).testBit t then dS d 3 * dZ d t else 0)
theorem ldT_sm (d : dD) (q : Nat) : sm (ldT d q) (dT d) = loadL d (dL d) q := by
  unfold loadL
  have e : sm (ldT d q) (dT d) = sm (fun t => if (fetL (dL d) q).testBit t then dS d 3 * dZ d t else 0) (dT d) + sm (fun t => if q = 0 then 0 else if (rtnL d (dL d) (q - 1)).testBit t then dS d 3 * dZ d t else 0) (dT d) := sm_add _ _ _
  rw [e, ← carry_sm]
  by_cases c : q = 0
  · rw [if_pos c]
    congr 1
    refine (sm_cong _ (fun t _ => ?_)).trans (sm_0 _)
    rw [if_pos c]
  · rw [if_neg c, carry_sm d (rtnL d (dL d) (q - 1))]
    congr 1
    refine sm_cong _ (fun t _ => ?_)
    rw [if_neg c]
set_option maxHeartbeats 4000000 in
set_option maxRecDepth 100000 in
theorem c_X5_loadOf (l : Launch) : sv_C l yX5_loadOf cX5_loadOf 4 (some .int) sv_all 3 67 sp_X5_loadOf := by
  refine m_X5_loadOf l ?_
  intro Wk Kr e0 e4 p σ ⟨d, q, ⟨hR, hq, hp⟩, h⟩
  subst hp
  have hT := hR.1.2.1
  have hP := hR.1.1
  suffices key : ∀ n, n ≤ dT d → Wk 4 [some (.inr (.inr (5, 0))), some (.inl (nI q)), some (.inl (nI (sm (ldT d q) n))), some (.inl (nI n))] [] σ from e0 _ _ (key 0 (by omega))
  refine lpN (fun n hn ih => ?_)
  apply e4
  unfold F_X5_loadOf_4
  rw [hR.2.2.2.1, nI_1]
  refine pk_le (dT d) n (fun y => h _ (by rw [show n = dT d by omega, ldT_sm])) (fun y => ⟨d, n, q, ⟨hR, ⟨y, rfl⟩, hq, rfl⟩, ?_⟩)
  have ih := ih y
  have e1 : sm (ldT d q) (n + 1) = sm (ldT d q) n + ((if (fetL (dL d) q).testBit n then dS d 3 * dZ d n else 0) + (if q = 0 then 0 else if (rtnL d (dL d) (q - 1)).testBit n then dS d 3 * dZ d n else 0)) := rfl
  rw [e1] at ih
  have hs : ∀ a b : Nat, nI (sm (ldT d q) n) + nI a + nI b = nI (sm (ldT d q) n + (a + b)) := fun a b => by rw [nI_add, nI_add, Nat.add_assoc]
  have rest : ∀ a : Nat, a = (if (fetL (dL d) q).testBit n then dS d 3 * dZ d n else 0) → ((nI q ≤ (0 : Int32) → Wk 4 [some (.inr (.inr (5, 0))), some (.inl (nI q)), some (.inl ((nI (sm (ldT d q) n) + nI a) + (0 : Int32))), some (.inl (nI (n + 1)))] [] σ) ∧ (¬ nI q ≤ (0 : Int32) → (∃ d7 : dD, ∃ e8 : Nat, ∃ q9 : Nat, (RM d7 σ ∧ (e8 < dT d7 ∧ nI n = nI e8) ∧ (q9 < dP d7 ∧ (nI q - (1 : Int32)) = nI q9)) ∧ (((rtnL d7 (dL d7) q9).testBit e8 = true → (∃ d10 : dD, ∃ e11 : Nat, (RM d10 σ ∧ (e11 < dT d10 ∧ nI n = nI e11)) ∧ (∀ v12 : Int32, v12 = nI (dS d10 3 * dZ d10 e11) → Wk 4 [some (.inr (.inr (5, 0))), some (.inl (nI q)), some (.inl ((nI (sm (ldT d q) n) + nI a) + v12)), some (.inl (nI (n + 1)))] [] σ))) ∧ (¬ (rtnL d7 (dL d7) q9).testBit e8 = true → Wk 4 [some (.inr (.inr (5, 0))), some (.inl (nI q)), some (.inl ((nI (sm (ldT d q) n) + nI a) + (0 : Int32))), some (.inl (nI (n + 1)))] [] σ))))) := by
    intro a ha
    rw [← ha] at ih
    refine pk_le q 0 (fun z => ?_) (fun z => ⟨d, n, q - 1, ⟨hR, ⟨y, rfl⟩, by omega, by rw [show (1 : Int32) = nI 1 from rfl, pk_sub (by omega)]⟩, fun w => ⟨d, n, ⟨hR, y, rfl⟩, fun v12 h12 => ?_⟩, fun w => ?_⟩)
    · rw [if_pos (by omega)] at ih
      rw [show (0 : Int32) = nI 0 from rfl, hs]
      exact ih
    · rw [if_neg (by omega), if_pos w] at ih
      rw [h12, hs]
      exact ih
    · rw [if_neg (by omega), if_neg w] at ih
      rw [show (0 : Int32) = nI 0 from rfl, hs]
      exact ih
  refine ⟨fun a => ⟨d, n, ⟨hR, y, rfl⟩, fun v6 h6 => ?_⟩, fun a => ?_⟩
  · subst h6
    exact rest _ (by rw [if_pos a])
  · exact rest 0 (by rw [if_neg a])
-- ==== X5_stallOf
def sp_X5_stallOf : sv_P := fun av σ K => match av with
  | [.inr (.inr (5, 0)), .inl p, .inl kind] => ∃ d : dD, ∃ q : Nat, ∃ k : Nat, (RM d σ ∧ (q < dP d ∧ p = nI q) ∧ (k < 2 ∧ kind = nI k)) ∧ (∀ v : Int32, v = nI (stallL d (dL d) k q) → K (some (.inl v)) σ)
  | _ => False
def tb_X5_stallOf : List (Nat × (Instr × Nat)) := [(0, (.iload_n 1, 1)), (1, (.ifCond .ne 7, 3)), (4, (.iconst 0, 1)), (5, (.goto 19, 3)), (8, (.aload_n 0, 1)), (9, (.iload_n 1, 1)), (10, (.iconst 1, 1)), (11, (.isub, 1)), (12, (.aload_n 0, 1)), (13, (.getfield 25, 3)), (16, (.iload_n 1, 1)), (17, (.iconst 1, 1)), (18, (.isub, 1)), (19, (.iaload, 1)), (20, (.iload_n 2, 1)), (21, (.invokevirtual 89, 3)), (24, (.istore_n 3, 1)), (25, (.aload_n 0, 1)), (26, (.iload_n 1, 1)), (27, (.invokevirtual 186, 3)), (30, (.istore 4, 2)), (32, (.iload 4, 2)), (34, (.iload_n 3, 1)), (35, (.if_icmp .le 10, 3)), (38, (.iload 4, 2)), (40, (.iload_n 3, 1)), (41, (.isub, 1)), (42, (.goto 4, 3)), (45, (.iconst 0, 1)), (46, (.ireturn, 1))]
set_option maxRecDepth 100000 in
theorem tbk_X5_stallOf : sv_tbok cX5_stallOf tb_X5_stallOf = true := by decide +kernel
def cal_X5_stallOf : List (Nat × (Nat × Nat × sv_P)) := [(89, (4, 5, sp_X5_workOf)), (186, (2, 5, sp_X5_loadOf))]
def T_X5_stallOf : sv_T := (flX5, sfX5, kcX5, klX5, cal_X5_stallOf)
set_option maxRecDepth 100000 in
theorem Tok_X5_stallOf (l : Launch) : sv_Tok l RX5 sv_all 4 90 T_X5_stallOf := ⟨flokX5, sfokX5, kcokX5, klokX5, List.forall_mem_cons.mpr ⟨⟨fun _ => sv_COv_of (c_X5_workOf l) sv_clok_all (sv_mem 720 (by decide +kernel) rfl) kw_X5_workOf.1 kw_X5_workOf.2.1 kw_X5_workOf.2.2.1 kw_X5_workOf.2.2.2 kd_X5_workOf rfl (by decide) (by decide +kernel) rfl (by decide), fun h => absurd h (by decide)⟩, List.forall_mem_cons.mpr ⟨⟨fun _ => sv_COv_of (c_X5_loadOf l) sv_clok_all (sv_mem 856 (by decide +kernel) rfl) kw_X5_loadOf.1 kw_X5_loadOf.2.1 kw_X5_loadOf.2.2.1 kw_X5_loadOf.2.2.2 kd_X5_loadOf rfl (by decide) (by decide +kernel) rfl (by decide), fun h => absurd h (by decide)⟩, fun _ h => absurd h List.not_mem_nil⟩⟩⟩
theorem kw_X5_stallOf : Cond.instanceMethod yX5_stallOf ∈ sv_tb ∧ Cond.selects yX5_stallOf.cls yX5_stallOf yX5_stallOf ∈ sv_tb ∧ Cond.initialized yX5_stallOf.cls ∈ sv_tb ∧ Cond.code yX5_stallOf cX5_stallOf 5 (some .int) ∈ sv_tb := ⟨sv_mem 862 (by decide +kernel) rfl, sv_mem 49 (by decide +kernel) rfl, sv_mem 56 (by decide +kernel) rfl, sv_mem 863 (by decide +kernel) rfl⟩
theorem kd_X5_stallOf : yX5_stallOf.cls ≠ "java/lang/invoke/MethodHandle" ∧ yX5_stallOf.cls ≠ "java/lang/invoke/VarHandle" ∧ (parseMethodDescriptor yX5_stallOf.desc).map (fun d => d.parameters.length) = some 2 := by decide +kernel
def F_X5_stallOf_0 (Wk : sv_K) (Kr : Option sv_AV → sv_S → Prop) (p : Int32) (kind : Int32) (σ : sv_S) : Prop := ((¬ p = (0 : Int32) → (vp_in (p - (1 : Int32)) 10 ∧ (∃ d1 : dD, ∃ q2 : Nat, ∃ c3 : Nat, ∃ k4 : Nat, (RM d1 σ ∧ (q2 < dP d1 ∧ (p - (1 : Int32)) = nI q2) ∧ (c3 < 32 ∧ (sv_gA σ 36 0 (p - (1 : Int32)).toNatClampNeg) = nI c3) ∧ (k4 < 2 ∧ kind = nI k4)) ∧ (∀ v5 : Int32, v5 = nI (work d1 q2 k4 c3) → (∃ d6 : dD, ∃ q7 : Nat, (RM d6 σ ∧ (q7 < dP d6 ∧ p = nI q7)) ∧ (∀ v8 : Int32, v8 = nI (loadL d6 (dL d6) q7) → ((v8 ≤ v5 → Kr (some (.inl (0 : Int32))) σ) ∧ (¬ v8 ≤ v5 → Kr (some (.inl (v8 - v5))) σ)))))))) ∧ (p = (0 : Int32) → (∃ d9 : dD, ∃ q10 : Nat, (RM d9 σ ∧ (q10 < dP d9 ∧ p = nI q10)) ∧ (∀ v11 : Int32, v11 = nI (loadL d9 (dL d9) q10) → ((v11 ≤ (0 : Int32) → Kr (some (.inl (0 : Int32))) σ) ∧ (¬ v11 ≤ (0 : Int32) → Kr (some (.inl (v11 - (0 : Int32)))) σ))))))
set_option maxRecDepth 100000 in
theorem bk_X5_stallOf_0 (Wk : sv_K) (Kr : Option sv_AV → sv_S → Prop) (p : Int32) (kind : Int32) (σ : sv_S) (h : F_X5_stallOf_0 Wk Kr p kind σ) : sv_vc tb_X5_stallOf T_X5_stallOf sv_all (some .int) Kr [] Wk 500 0 [some (.inr (.inr (5, 0))), some (.inl p), some (.inl kind), none, none] [] σ := h
set_option maxRecDepth 100000 in
theorem m_X5_stallOf (l : Launch) (hb : ∀ (Wk : sv_K) (Kr : Option sv_AV → sv_S → Prop), (∀ (p : Int32) (kind : Int32) (σ : sv_S), F_X5_stallOf_0 Wk Kr p kind σ → Wk 0 [some (.inr (.inr (5, 0))), some (.inl p), some (.inl kind), none, none] [] σ) → (∀ (p : Int32) (kind : Int32) (σ : sv_S), (∃ d : dD, ∃ q : Nat, ∃ k : Nat, (RM d σ ∧ (q < dP d ∧ p = nI q) ∧ (k < 2 ∧ kind = nI k)) ∧ (∀ v : Int32, v = nI (stallL d (dL d) k q) → Kr (some (.inl v)) σ)) → Wk 0 [some (.inr (.inr (5, 0))), some (.inl p), some (.inl kind), none, none] [] σ)) : sv_C l yX5_stallOf cX5_stallOf 5 (some .int) sv_all 4 90 sp_X5_stallOf := by
  refine sv_meth sv_clok_all tb_X5_stallOf T_X5_stallOf (by decide) tbk_X5_stallOf (Tok_X5_stallOf l) ?_
  intro Wk Kr hc av σ hsp
  have hB := hb Wk Kr (fun p kind σ h => hc [] 500 0 _ _ _ (bk_X5_stallOf_0 Wk Kr p kind σ h))
  unfold sp_X5_stallOf at hsp
  split at hsp
  · exact ⟨⟨by simp, by simp [sv_cat]⟩, hB _ _ _ hsp⟩
  · exact hsp.elim
theorem load_le {d : dD} (h : wfP d) (L : Nat → Nat) (q : Nat) : loadL d L q ≤ 4000 := by
  unfold loadL
  have h1 := carry_le h (fetL L q)
  have h2 := carry_le h (rtnL d L (q - 1))
  split <;> omega
set_option maxHeartbeats 4000000 in
set_option maxRecDepth 100000 in
theorem c_X5_stallOf (l : Launch) : sv_C l yX5_stallOf cX5_stallOf 5 (some .int) sv_all 4 90 sp_X5_stallOf := by
  refine m_X5_stallOf l ?_
  intro Wk Kr e0 p kind σ ⟨d, q, k, ⟨hR, ⟨hq, hp⟩, hk, hkd⟩, h⟩
  subst hp
  subst hkd
  have hP := hR.1.1
  have hpl := hR.2.2.2.2.2.2.2.2.2
  have hL := L32 hR.1 hR.2.1
  have hl := load_le hR.1 (dL d) q
  apply e0
  unfold F_X5_stallOf_0
  refine ⟨fun z => ?_, fun z => ⟨d, q, ⟨hR, hq, rfl⟩, fun v11 h11 => ?_⟩⟩
  · have hq0 : q ≠ 0 := fun y => z (by rw [y]; rfl)
    rw [show (1 : Int32) = nI 1 from rfl, pk_sub (by omega), nI_clamp (by omega), hpl (q - 1) (by omega)]
    refine ⟨pk_in (q - 1) 10 (by omega), d, q - 1, dL d (q - 1), k, ⟨hR, ⟨by omega, rfl⟩, ⟨hL _ (by omega), rfl⟩, hk, rfl⟩, fun v5 h5 => ⟨d, q, ⟨hR, hq, rfl⟩, fun v8 h8 => ?_⟩⟩
    subst h5
    subst h8
    have hw := work_le hR.1 (show q - 1 < dP d by omega) hk (dL d (q - 1))
    refine pk_le (loadL d (dL d) q) (work d (q - 1) k (dL d (q - 1))) (fun y => h _ ?_) (fun y => h _ ?_)
    · unfold stallL
      rw [if_neg hq0, Nat.sub_eq_zero_of_le y]
      rfl
    · unfold stallL
      rw [if_neg hq0, pk_sub (by omega)]
  · have hq0 : q = 0 := (nI_eq (by omega) (by omega)).mp (show nI q = nI 0 from z)
    subst h11
    refine pk_le (loadL d (dL d) q) 0 (fun y => h _ ?_) (fun y => h _ ?_)
    · unfold stallL
      rw [if_pos hq0, show loadL d (dL d) q = 0 by omega]
      rfl
    · unfold stallL
      rw [if_pos hq0, show (0 : Int32) = nI 0 from rfl, pk_sub (by omega), Nat.sub_zero]
-- ==== X5_ofTime
def sp_X5_ofTime : sv_P := fun av σ K => match av with
  | [.inr (.inr (5, 0)), .inl p, .inl kind, .inl what] => ∃ d : dD, (RM d σ ∧ MI d σ) ∧ (∀ v : Int32, v = A_ofTime d p kind what → K (some (.inl v)) σ)
  | _ => False
def tb_X5_ofTime : List (Nat × (Instr × Nat)) := [(0, (.aload_n 0, 1)), (1, (.iload_n 1, 1)), (2, (.invokevirtual 65, 3)), (5, (.ifCond .ne 5, 3)), (8, (.iconst (-1), 1)), (9, (.ireturn, 1)), (10, (.iload_n 2, 1)), (11, (.invokestatic 127, 3)), (14, (.ifCond .eq 12, 3)), (17, (.iload_n 3, 1)), (18, (.iconst 0, 1)), (19, (.iconst 2, 1)), (20, (.invokestatic 50, 3)), (23, (.ifCond .ne 6, 3)), (26, (.bipush (-2), 2)), (28, (.ireturn, 1)), (29, (.iload_n 3, 1)), (30, (.ifCond .ne 18, 3)), (33, (.aload_n 0, 1)), (34, (.iload_n 1, 1)), (35, (.aload_n 0, 1)), (36, (.getfield 25, 3)), (39, (.iload_n 1, 1)), (40, (.iaload, 1)), (41, (.iload_n 2, 1)), (42, (.invokevirtual 89, 3)), (45, (.goto 22, 3)), (48, (.iload_n 3, 1)), (49, (.iconst 1, 1)), (50, (.if_icmp .ne 11, 3)), (53, (.aload_n 0, 1)), (54, (.iload_n 1, 1)), (55, (.invokevirtual 186, 3)), (58, (.goto 9, 3)), (61, (.aload_n 0, 1)), (62, (.iload_n 1, 1)), (63, (.iload_n 2, 1)), (64, (.invokevirtual 189, 3)), (67, (.ireturn, 1))]
set_option maxRecDepth 100000 in
theorem tbk_X5_ofTime : sv_tbok cX5_ofTime tb_X5_ofTime = true := by decide +kernel
def cal_X5_ofTime : List (Nat × (Nat × Nat × sv_P)) := [(65, (2, 5, sp_X5_isPart)), (127, (1, 90, sp_X5_isKind)), (50, (3, 90, sp_X5_within)), (89, (4, 5, sp_X5_workOf)), (186, (2, 5, sp_X5_loadOf)), (189, (3, 5, sp_X5_stallOf))]
def T_X5_ofTime : sv_T := (flX5, sfX5, kcX5, klX5, cal_X5_ofTime)
set_option maxRecDepth 100000 in
theorem Tok_X5_ofTime (l : Launch) : sv_Tok l RX5 sv_all 5 114 T_X5_ofTime := ⟨flokX5, sfokX5, kcokX5, klokX5, List.forall_mem_cons.mpr ⟨⟨fun _ => sv_COv_of (c_X5_isPart l) sv_clok_all (sv_mem 630 (by decide +kernel) rfl) kw_X5_isPart.1 kw_X5_isPart.2.1 kw_X5_isPart.2.2.1 kw_X5_isPart.2.2.2 kd_X5_isPart rfl (by decide) (by decide +kernel) rfl (by decide), fun h => absurd h (by decide)⟩, List.forall_mem_cons.mpr ⟨⟨fun h => absurd h (by decide), fun _ => sv_COs_gen (c_X5_isKind l) (Or.inl (sv_mem 682 (by decide +kernel) rfl)) kw_X5_isKind.1 kw_X5_isKind.2.1 kw_X5_isKind.2.2 kd_X5_isKind rfl (by decide) (by decide +kernel)⟩, List.forall_mem_cons.mpr ⟨⟨fun h => absurd h (by decide), fun _ => sv_COs_gen (c_X5_within l) (Or.inl (sv_mem 623 (by decide +kernel) rfl)) kw_X5_within.1 kw_X5_within.2.1 kw_X5_within.2.2 kd_X5_within rfl (by decide) (by decide +kernel)⟩, List.forall_mem_cons.mpr ⟨⟨fun _ => sv_COv_of (c_X5_workOf l) sv_clok_all (sv_mem 720 (by decide +kernel) rfl) kw_X5_workOf.1 kw_X5_workOf.2.1 kw_X5_workOf.2.2.1 kw_X5_workOf.2.2.2 kd_X5_workOf rfl (by decide) (by decide +kernel) rfl (by decide), fun h => absurd h (by decide)⟩, List.forall_mem_cons.mpr ⟨⟨fun _ => sv_COv_of (c_X5_loadOf l) sv_clok_all (sv_mem 856 (by decide +kernel) rfl) kw_X5_loadOf.1 kw_X5_loadOf.2.1 kw_X5_loadOf.2.2.1 kw_X5_loadOf.2.2.2 kd_X5_loadOf rfl (by decide) (by decide +kernel) rfl (by decide), fun h => absurd h (by decide)⟩, List.forall_mem_cons.mpr ⟨⟨fun _ => sv_COv_of (c_X5_stallOf l) sv_clok_all (sv_mem 860 (by decide +kernel) rfl) kw_X5_stallOf.1 kw_X5_stallOf.2.1 kw_X5_stallOf.2.2.1 kw_X5_stallOf.2.2.2 kd_X5_stallOf rfl (by decide) (by decide +kernel) rfl (by decide), fun h => absurd h (by decide)⟩, fun _ h => absurd h List.not_mem_nil⟩⟩⟩⟩⟩⟩⟩
theorem kw_X5_ofTime : Cond.instanceMethod yX5_ofTime ∈ sv_tb ∧ Cond.selects yX5_ofTime.cls yX5_ofTime yX5_ofTime ∈ sv_tb ∧ Cond.initialized yX5_ofTime.cls ∈ sv_tb ∧ Cond.code yX5_ofTime cX5_ofTime 4 (some .int) ∈ sv_tb := ⟨sv_mem 853 (by decide +kernel) rfl, sv_mem 854 (by decide +kernel) rfl, sv_mem 56 (by decide +kernel) rfl, sv_mem 855 (by decide +kernel) rfl⟩
theorem kd_X5_ofTime : yX5_ofTime.cls ≠ "java/lang/invoke/MethodHandle" ∧ yX5_ofTime.cls ≠ "java/lang/invoke/VarHandle" ∧ (parseMethodDescriptor yX5_ofTime.desc).map (fun d => d.parameters.length) = some 3 := by decide +kernel
def F_X5_ofTime_0 (Wk : sv_K) (Kr : Option sv_AV → sv_S → Prop) (p : Int32) (kind : Int32) (what : Int32) (σ : sv_S) : Prop := (∃ d1 : dD, (RM d1 σ) ∧ ((isN (dP d1) p → (((ok2 kind → ((((0 : Int32) ≤ what ∧ what ≤ (2 : Int32) → ((¬ what = (0 : Int32) → ((¬ what = (1 : Int32) → (∃ d2 : dD, ∃ q3 : Nat, ∃ k4 : Nat, (RM d2 σ ∧ (q3 < dP d2 ∧ p = nI q3) ∧ (k4 < 2 ∧ kind = nI k4)) ∧ (∀ v5 : Int32, v5 = nI (stallL d2 (dL d2) k4 q3) → Kr (some (.inl v5)) σ))) ∧ (what = (1 : Int32) → (∃ d6 : dD, ∃ q7 : Nat, (RM d6 σ ∧ (q7 < dP d6 ∧ p = nI q7)) ∧ (∀ v8 : Int32, v8 = nI (loadL d6 (dL d6) q7) → Kr (some (.inl v8)) σ))))) ∧ (what = (0 : Int32) → (vp_in p 10 ∧ (∃ d9 : dD, ∃ q10 : Nat, ∃ c11 : Nat, ∃ k12 : Nat, (RM d9 σ ∧ (q10 < dP d9 ∧ p = nI q10) ∧ (c11 < 32 ∧ (sv_gA σ 36 0 p.toNatClampNeg) = nI c11) ∧ (k12 < 2 ∧ kind = nI k12)) ∧ (∀ v13 : Int32, v13 = nI (work d9 q10 k12 c11) → Kr (some (.inl v13)) σ)))))) ∧ (¬ ((0 : Int32) ≤ what ∧ what ≤ (2 : Int32)) → Kr (some (.inl (-2 : Int32))) σ)))) ∧ (¬ ok2 kind → Kr (some (.inl (-2 : Int32))) σ)))) ∧ (¬ isN (dP d1) p → Kr (some (.inl (-1 : Int32))) σ)))
set_option maxRecDepth 100000 in
theorem bk_X5_ofTime_0 (Wk : sv_K) (Kr : Option sv_AV → sv_S → Prop) (p : Int32) (kind : Int32) (what : Int32) (σ : sv_S) (h : F_X5_ofTime_0 Wk Kr p kind what σ) : sv_vc tb_X5_ofTime T_X5_ofTime sv_all (some .int) Kr [] Wk 500 0 [some (.inr (.inr (5, 0))), some (.inl p), some (.inl kind), some (.inl what)] [] σ := (match h with | ⟨d1, z16p, z16a, z16b⟩ => ⟨d1, z16p, fun z16y => sb_nt (by decide) ((match (z16a z16y) with | ⟨z15a, z15b⟩ => ⟨fun z15y => br_f (by decide) ((match (z15a z15y) with | ⟨z14a, z14b⟩ => ⟨fun z14y => sb_nt (by decide) ((z14a z14y)), fun z14y => sb_nf (by decide) ((z14b z14y))⟩)), fun z15y => br_t (by decide) ((z15b z15y))⟩)), fun z16y => sb_nf (by decide) ((z16b z16y))⟩)
set_option maxRecDepth 100000 in
theorem m_X5_ofTime (l : Launch) (hb : ∀ (Wk : sv_K) (Kr : Option sv_AV → sv_S → Prop), (∀ (p : Int32) (kind : Int32) (what : Int32) (σ : sv_S), F_X5_ofTime_0 Wk Kr p kind what σ → Wk 0 [some (.inr (.inr (5, 0))), some (.inl p), some (.inl kind), some (.inl what)] [] σ) → (∀ (p : Int32) (kind : Int32) (what : Int32) (σ : sv_S), (∃ d : dD, (RM d σ ∧ MI d σ) ∧ (∀ v : Int32, v = A_ofTime d p kind what → Kr (some (.inl v)) σ)) → Wk 0 [some (.inr (.inr (5, 0))), some (.inl p), some (.inl kind), some (.inl what)] [] σ)) : sv_C l yX5_ofTime cX5_ofTime 4 (some .int) sv_all 5 114 sp_X5_ofTime := by
  refine sv_meth sv_clok_all tb_X5_ofTime T_X5_ofTime (by decide) tbk_X5_ofTime (Tok_X5_ofTime l) ?_
  intro Wk Kr hc av σ hsp
  have hB := hb Wk Kr (fun p kind what σ h => hc [] 500 0 _ _ _ (bk_X5_ofTime_0 Wk Kr p kind what σ h))
  unfold sp_X5_ofTime at hsp
  split at hsp
  · exact ⟨⟨by simp, by simp [sv_cat]⟩, hB _ _ _ _ hsp⟩
  · exact hsp.elim
set_option maxHeartbeats 4000000 in
set_option maxRecDepth 100000 in
theorem c_X5_ofTime (l : Launch) : sv_C l yX5_ofTime cX5_ofTime 4 (some .int) sv_all 5 114 sp_X5_ofTime := by
  refine m_X5_ofTime l ?_
  intro Wk Kr e0 p kind what σ ⟨d, ⟨hC, hI⟩, h⟩
  have hP := hC.1.1
  apply e0
  refine ⟨d, hC, fun hp => ?_, fun hp => h _ (ch_f hp _ _).symm⟩
  have g1 := hp
  obtain ⟨q, hq, rfl⟩ := hp
  have bad : ¬ (ok2 kind ∧ ((0 : Int32) ≤ what ∧ what ≤ 2)) → Kr (some (.inl (-2 : Int32))) σ := fun hb => h _ (by unfold A_ofTime; rw [ch_t g1, ch_f hb])
  refine ⟨fun h1 => ⟨fun h2 => ?_, fun h2 => bad (fun y => h2 y.2)⟩, fun h1 => bad (fun y => h1 y.1)⟩
  have g : ok2 kind ∧ ((0 : Int32) ≤ what ∧ what ≤ 2) := ⟨h1, h2⟩
  obtain ⟨k, hk, rfl, -⟩ := ok2_of h1
  have A : ∀ v, v = ch (what = 0) (nI (work d q k (dL d q))) (ch (what = 1) (nI (loadL d (dL d) q)) (nI (stallL d (dL d) k q))) → Kr (some (.inl v)) σ := fun v hv => h _ (by unfold A_ofTime; rw [ch_t g1, ch_t g, xn_nI (by omega), xn_nI (by omega)]; exact hv)
  refine ⟨fun z => ⟨fun y => ⟨d, q, k, ⟨hC, ⟨hq, rfl⟩, hk, rfl⟩, fun v5 h5 => A _ ?_⟩, fun y => ⟨d, q, ⟨hC, hq, rfl⟩, fun v5 h5 => A _ ?_⟩⟩, fun z => ⟨pk_in q 10 (by omega), d, q, dL d q, k, ⟨hC, ⟨hq, rfl⟩, ⟨L32 hC.1 hC.2.1 q hq, by rw [nI_clamp (by omega)]; exact hC.2.2.2.2.2.2.2.2.2 q hq⟩, hk, rfl⟩, fun v5 h5 => A _ ?_⟩⟩
  · rw [ch_f z, ch_f y]
    exact h5
  · rw [ch_f z, ch_t y]
    exact h5
  · rw [ch_t z]
    exact h5
-- ==== X5_time
def sp_X5_time : sv_P := fun av σ K => match av with
  | [.inr (.inr (5, 0)), .inl kind] => ∃ d : dD, (RM d σ ∧ MI d σ) ∧ (∀ v : Int32, v = A_time d kind → K (some (.inl v)) σ)
  | _ => False
def tb_X5_time : List (Nat × (Instr × Nat)) := [(0, (.iload_n 1, 1)), (1, (.invokestatic 127, 3)), (4, (.ifCond .ne 6, 3)), (7, (.bipush (-2), 2)), (9, (.ireturn, 1)), (10, (.iconst 0, 1)), (11, (.istore_n 2, 1)), (12, (.iconst 0, 1)), (13, (.istore_n 3, 1)), (14, (.iload_n 3, 1)), (15, (.aload_n 0, 1)), (16, (.getfield 46, 3)), (19, (.if_icmp .ge 31, 3)), (22, (.iload_n 2, 1)), (23, (.aload_n 0, 1)), (24, (.iload_n 3, 1)), (25, (.aload_n 0, 1)), (26, (.getfield 25, 3)), (29, (.iload_n 3, 1)), (30, (.iaload, 1)), (31, (.iload_n 1, 1)), (32, (.invokevirtual 89, 3)), (35, (.aload_n 0, 1)), (36, (.iload_n 3, 1)), (37, (.iload_n 1, 1)), (38, (.invokevirtual 189, 3)), (41, (.iadd, 1)), (42, (.iadd, 1)), (43, (.istore_n 2, 1)), (44, (.iinc 3 1, 3)), (47, (.goto (-33), 3)), (50, (.iconst 0, 1)), (51, (.istore_n 3, 1)), (52, (.iload_n 3, 1)), (53, (.aload_n 0, 1)), (54, (.getfield 54, 3)), (57, (.if_icmp .ge 42, 3)), (60, (.iload_n 2, 1)), (61, (.aload_n 0, 1)), (62, (.getfield 46, 3)), (65, (.ifCond .le 25, 3)), (68, (.aload_n 0, 1)), (69, (.iload_n 3, 1)), (70, (.aload_n 0, 1)), (71, (.getfield 46, 3)), (74, (.iconst 1, 1)), (75, (.isub, 1)), (76, (.invokevirtual 142, 3)), (79, (.ifCond .eq 11, 3)), (82, (.aload_n 0, 1)), (83, (.iload_n 3, 1)), (84, (.invokevirtual 85, 3)), (87, (.goto 4, 3)), (90, (.iconst 0, 1)), (91, (.iadd, 1)), (92, (.istore_n 2, 1)), (93, (.iinc 3 1, 3)), (96, (.goto (-44), 3)), (99, (.iload_n 2, 1)), (100, (.ireturn, 1))]
set_option maxRecDepth 100000 in
theorem tbk_X5_time : sv_tbok cX5_time tb_X5_time = true := by decide +kernel
def cal_X5_time : List (Nat × (Nat × Nat × sv_P)) := [(127, (1, 90, sp_X5_isKind)), (89, (4, 5, sp_X5_workOf)), (189, (3, 5, sp_X5_stallOf)), (142, (3, 5, sp_X5_isReturned)), (85, (2, 5, sp_X5_carryOf))]
def T_X5_time : sv_T := (flX5, sfX5, kcX5, klX5, cal_X5_time)
set_option maxRecDepth 100000 in
theorem Tok_X5_time (l : Launch) : sv_Tok l RX5 sv_all 5 114 T_X5_time := ⟨flokX5, sfokX5, kcokX5, klokX5, List.forall_mem_cons.mpr ⟨⟨fun h => absurd h (by decide), fun _ => sv_COs_gen (c_X5_isKind l) (Or.inl (sv_mem 682 (by decide +kernel) rfl)) kw_X5_isKind.1 kw_X5_isKind.2.1 kw_X5_isKind.2.2 kd_X5_isKind rfl (by decide) (by decide +kernel)⟩, List.forall_mem_cons.mpr ⟨⟨fun _ => sv_COv_of (c_X5_workOf l) sv_clok_all (sv_mem 720 (by decide +kernel) rfl) kw_X5_workOf.1 kw_X5_workOf.2.1 kw_X5_workOf.2.2.1 kw_X5_workOf.2.2.2 kd_X5_workOf rfl (by decide) (by decide +kernel) rfl (by decide), fun h => absurd h (by decide)⟩, List.forall_mem_cons.mpr ⟨⟨fun _ => sv_COv_of (c_X5_stallOf l) sv_clok_all (sv_mem 860 (by decide +kernel) rfl) kw_X5_stallOf.1 kw_X5_stallOf.2.1 kw_X5_stallOf.2.2.1 kw_X5_stallOf.2.2.2 kd_X5_stallOf rfl (by decide) (by decide +kernel) rfl (by decide), fun h => absurd h (by decide)⟩, List.forall_mem_cons.mpr ⟨⟨fun _ => sv_COv_of (c_X5_isReturned l) sv_clok_all (sv_mem 776 (by decide +kernel) rfl) kw_X5_isReturned.1 kw_X5_isReturned.2.1 kw_X5_isReturned.2.2.1 kw_X5_isReturned.2.2.2 kd_X5_isReturned rfl (by decide) (by decide +kernel) rfl (by decide), fun h => absurd h (by decide)⟩, List.forall_mem_cons.mpr ⟨⟨fun _ => sv_COv_of (c_X5_carryOf l) sv_clok_all (sv_mem 707 (by decide +kernel) rfl) kw_X5_carryOf.1 kw_X5_carryOf.2.1 kw_X5_carryOf.2.2.1 kw_X5_carryOf.2.2.2 kd_X5_carryOf rfl (by decide) (by decide +kernel) rfl (by decide), fun h => absurd h (by decide)⟩, fun _ h => absurd h List.not_mem_nil⟩⟩⟩⟩⟩⟩
theorem kw_X5_time : Cond.instanceMethod yX5_time ∈ sv_tb ∧ Cond.selects yX5_time.cls yX5_time yX5_time ∈ sv_tb ∧ Cond.initialized yX5_time.cls ∈ sv_tb ∧ Cond.code yX5_time cX5_time 4 (some .int) ∈ sv_tb := ⟨sv_mem 865 (by decide +kernel) rfl, sv_mem 866 (by decide +kernel) rfl, sv_mem 56 (by decide +kernel) rfl, sv_mem 867 (by decide +kernel) rfl⟩
theorem kd_X5_time : yX5_time.cls ≠ "java/lang/invoke/MethodHandle" ∧ yX5_time.cls ≠ "java/lang/invoke/VarHandle" ∧ (parseMethodDescriptor yX5_time.desc).map (fun d => d.parameters.length) = some 1 := by decide +kernel
def F_X5_time_0 (Wk : sv_K) (Kr : Option sv_AV → sv_S → Prop) (kind : Int32) (σ : sv_S) : Prop := (((ok2 kind → Wk 14 [some (.inr (.inr (5, 0))), some (.inl kind), some (.inl (0 : Int32)), some (.inl (0 : Int32))] [] σ) ∧ (¬ ok2 kind → Kr (some (.inl (-2 : Int32))) σ)))
set_option maxRecDepth 100000 in
theorem bk_X5_time_0 (Wk : sv_K) (Kr : Option sv_AV → sv_S → Prop) (kind : Int32) (σ : sv_S) (h : F_X5_time_0 Wk Kr kind σ) : sv_vc tb_X5_time T_X5_time sv_all (some .int) Kr [(14, [true, true, true, true]), (52, [true, false, true, true])] Wk 500 0 [some (.inr (.inr (5, 0))), some (.inl kind), none, none] [] σ := (match h with | ⟨z1a, z1b⟩ => ⟨fun z1y => sb_nt (by decide) ((z1a z1y)), fun z1y => sb_nf (by decide) ((z1b z1y))⟩)
def F_X5_time_14 (Wk : sv_K) (Kr : Option sv_AV → sv_S → Prop) (x1 : Int32) (x2 : Int32) (x3 : Int32) (σ : sv_S) : Prop := (((sv_gA σ 5 0 0) ≤ x3 → Wk 52 [some (.inr (.inr (5, 0))), none, some (.inl x2), some (.inl (0 : Int32))] [] σ) ∧ (¬ (sv_gA σ 5 0 0) ≤ x3 → (vp_in x3 10 ∧ (∃ d1 : dD, ∃ q2 : Nat, ∃ c3 : Nat, ∃ k4 : Nat, (RM d1 σ ∧ (q2 < dP d1 ∧ x3 = nI q2) ∧ (c3 < 32 ∧ (sv_gA σ 36 0 x3.toNatClampNeg) = nI c3) ∧ (k4 < 2 ∧ x1 = nI k4)) ∧ (∀ v5 : Int32, v5 = nI (work d1 q2 k4 c3) → (∃ d6 : dD, ∃ q7 : Nat, ∃ k8 : Nat, (RM d6 σ ∧ (q7 < dP d6 ∧ x3 = nI q7) ∧ (k8 < 2 ∧ x1 = nI k8)) ∧ (∀ v9 : Int32, v9 = nI (stallL d6 (dL d6) k8 q7) → Wk 14 [some (.inr (.inr (5, 0))), some (.inl x1), some (.inl (x2 + (v5 + v9))), some (.inl (x3 + (1 : Int32)))] [] σ)))))))
set_option maxRecDepth 100000 in
theorem bk_X5_time_14 (Wk : sv_K) (Kr : Option sv_AV → sv_S → Prop) (x1 : Int32) (x2 : Int32) (x3 : Int32) (σ : sv_S) (h : F_X5_time_14 Wk Kr x1 x2 x3 σ) : sv_vc tb_X5_time T_X5_time sv_all (some .int) Kr [(14, [true, true, true, true]), (52, [true, false, true, true])] Wk 500 14 [some (.inr (.inr (5, 0))), some (.inl x1), some (.inl x2), some (.inl x3)] [] σ := h
def F_X5_time_52 (Wk : sv_K) (Kr : Option sv_AV → sv_S → Prop) (x2 : Int32) (x3 : Int32) (σ : sv_S) : Prop := (((sv_gA σ 5 0 1) ≤ x3 → Kr (some (.inl x2)) σ) ∧ (¬ (sv_gA σ 5 0 1) ≤ x3 → (((sv_gA σ 5 0 0) ≤ (0 : Int32) → Wk 52 [some (.inr (.inr (5, 0))), none, some (.inl (x2 + (0 : Int32))), some (.inl (x3 + (1 : Int32)))] [] σ) ∧ (¬ (sv_gA σ 5 0 0) ≤ (0 : Int32) → (∃ d1 : dD, ∃ e2 : Nat, ∃ q3 : Nat, (RM d1 σ ∧ (e2 < dT d1 ∧ x3 = nI e2) ∧ (q3 < dP d1 ∧ ((sv_gA σ 5 0 0) - (1 : Int32)) = nI q3)) ∧ (((rtnL d1 (dL d1) q3).testBit e2 = true → (∃ d4 : dD, ∃ e5 : Nat, (RM d4 σ ∧ (e5 < dT d4 ∧ x3 = nI e5)) ∧ (∀ v6 : Int32, v6 = nI (dS d4 3 * dZ d4 e5) → Wk 52 [some (.inr (.inr (5, 0))), none, some (.inl (x2 + v6)), some (.inl (x3 + (1 : Int32)))] [] σ))) ∧ (¬ (rtnL d1 (dL d1) q3).testBit e2 = true → Wk 52 [some (.inr (.inr (5, 0))), none, some (.inl (x2 + (0 : Int32))), some (.inl (x3 + (1 : Int32)))] [] σ)))))))
set_option maxRecDepth 100000 in
theorem bk_X5_time_52 (Wk : sv_K) (Kr : Option sv_AV → sv_S → Prop) (x2 : Int32) (x3 : Int32) (σ : sv_S) (h : F_X5_time_52 Wk Kr x2 x3 σ) : sv_vc tb_X5_time T_X5_time sv_all (some .int) Kr [(14, [true, true, true, true]), (52, [true, false, true, true])] Wk 500 52 [some (.inr (.inr (5, 0))), none, some (.inl x2), some (.inl x3)] [] σ := ⟨fun z9 => ((h).1 z9), fun z9 => ⟨fun z8 => ((((h).2 z9)).1 z8), fun z8 => (match ((((h).2 z9)).2 z8) with | ⟨d1, e2, q3, z7p, z7a, z7b⟩ => ⟨d1, e2, q3, z7p, fun z7y => br_f (by decide) ((z7a z7y)), fun z7y => br_t (by decide) ((z7b z7y))⟩)⟩⟩
set_option maxRecDepth 100000 in
theorem m_X5_time (l : Launch) (hb : ∀ (Wk : sv_K) (Kr : Option sv_AV → sv_S → Prop), (∀ (kind : Int32) (σ : sv_S), F_X5_time_0 Wk Kr kind σ → Wk 0 [some (.inr (.inr (5, 0))), some (.inl kind), none, none] [] σ) → (∀ (x1 : Int32) (x2 : Int32) (x3 : Int32) (σ : sv_S), F_X5_time_14 Wk Kr x1 x2 x3 σ → Wk 14 [some (.inr (.inr (5, 0))), some (.inl x1), some (.inl x2), some (.inl x3)] [] σ) → (∀ (x2 : Int32) (x3 : Int32) (σ : sv_S), F_X5_time_52 Wk Kr x2 x3 σ → Wk 52 [some (.inr (.inr (5, 0))), none, some (.inl x2), some (.inl x3)] [] σ) → (∀ (kind : Int32) (σ : sv_S), (∃ d : dD, (RM d σ ∧ MI d σ) ∧ (∀ v : Int32, v = A_time d kind → Kr (some (.inl v)) σ)) → Wk 0 [some (.inr (.inr (5, 0))), some (.inl kind), none, none] [] σ)) : sv_C l yX5_time cX5_time 4 (some .int) sv_all 5 114 sp_X5_time := by
  refine sv_meth sv_clok_all tb_X5_time T_X5_time (by decide) tbk_X5_time (Tok_X5_time l) ?_
  intro Wk Kr hc av σ hsp
  have hB := hb Wk Kr (fun kind σ h => hc [(14, [true, true, true, true]), (52, [true, false, true, true])] 500 0 _ _ _ (bk_X5_time_0 Wk Kr kind σ h)) (fun x1 x2 x3 σ h => hc [(14, [true, true, true, true]), (52, [true, false, true, true])] 500 14 _ _ _ (bk_X5_time_14 Wk Kr x1 x2 x3 σ h)) (fun x2 x3 σ h => hc [(14, [true, true, true, true]), (52, [true, false, true, true])] 500 52 _ _ _ (bk_X5_time_52 Wk Kr x2 x3 σ h))
  unfold sp_X5_time at hsp
  split at hsp
  · exact ⟨⟨by simp, by simp [sv_cat]⟩, hB _ _ hsp⟩
  · exact hsp.elim
set_option maxHeartbeats 4000000 in
set_option maxRecDepth 100000 in
theorem c_X5_time (l : Launch) : sv_C l yX5_time cX5_time 4 (some .int) sv_all 5 114 sp_X5_time := by
  refine m_X5_time l ?_
  intro Wk Kr e0 e14 e52 kind σ ⟨d, ⟨hC, hI⟩, h⟩
  have hP := hC.1.1
  have hT := hC.1.2.1
  apply e0
  refine ⟨fun h1 => ?_, fun h1 => h _ (ch_f h1 _ _).symm⟩
  have g := h1
  obtain ⟨k, hk, rfl, -⟩ := ok2_of h1
  have k52 : ∀ n, n ≤ dT d → Wk 52 [some (.inr (.inr (5, 0))), none, some (.inl (nI (sm (fun p => work d p k (dL d p) + stallL d (dL d) k p) (dP d) + (if dP d = 0 then 0 else sm (fun t => if (rtnL d (dL d) (dP d - 1)).testBit t then dS d 3 * dZ d t else 0) n)))), some (.inl (nI n))] [] σ := by
    refine lpN (fun n hn ih => ?_)
    apply e52
    unfold F_X5_time_52
    rw [hC.2.2.1, hC.2.2.2.1, nI_1]
    refine pk_le (dT d) n (fun y => h _ ?_) (fun y => ?_)
    · unfold A_time
      rw [ch_t g, xn_nI (by omega)]
      unfold timeL
      by_cases c : dP d = 0
      · rw [if_pos c, if_pos c, c]
        rfl
      · rw [if_neg c, if_neg c, show n = dT d by omega, ← carry_sm, Nat.add_comm]
    · have ih := ih y
      refine pk_le (dP d) 0 (fun z => ?_) (fun z => ⟨d, n, dP d - 1, ⟨hC, ⟨y, rfl⟩, by omega, by rw [show (1 : Int32) = nI 1 from rfl, pk_sub (by omega)]⟩, fun w => ⟨d, n, ⟨hC, y, rfl⟩, fun v6 h6 => ?_⟩, fun w => ?_⟩)
      · rw [if_pos (by omega)] at ih ⊢
        rw [show (0 : Int32) = nI 0 from rfl, nI_add]
        exact ih
      · have e1 : sm (fun t => if (rtnL d (dL d) (dP d - 1)).testBit t then dS d 3 * dZ d t else 0) (n + 1) = sm (fun t => if (rtnL d (dL d) (dP d - 1)).testBit t then dS d 3 * dZ d t else 0) n + (if (rtnL d (dL d) (dP d - 1)).testBit n then dS d 3 * dZ d n else 0) := rfl
        rw [if_neg (by omega), e1, if_pos w, ← Nat.add_assoc] at ih
        rw [if_neg (by omega), h6, nI_add]
        exact ih
      · have e1 : sm (fun t => if (rtnL d (dL d) (dP d - 1)).testBit t then dS d 3 * dZ d t else 0) (n + 1) = sm (fun t => if (rtnL d (dL d) (dP d - 1)).testBit t then dS d 3 * dZ d t else 0) n + (if (rtnL d (dL d) (dP d - 1)).testBit n then dS d 3 * dZ d n else 0) := rfl
        rw [if_neg (by omega), e1, if_neg w, ← Nat.add_assoc] at ih
        rw [if_neg (by omega), show (0 : Int32) = nI 0 from rfl, nI_add]
        exact ih
  suffices key : ∀ n, n ≤ dP d → Wk 14 [some (.inr (.inr (5, 0))), some (.inl (nI k)), some (.inl (nI (sm (fun p => work d p k (dL d p) + stallL d (dL d) k p) n))), some (.inl (nI n))] [] σ from key 0 (by omega)
  refine lpN (fun n hn ih => ?_)
  apply e14
  unfold F_X5_time_14
  rw [hC.2.2.1, nI_1, nI_clamp (by omega)]
  refine pk_le (dP d) n (fun y => ?_) (fun y => ⟨pk_in n 10 (by omega), d, n, dL d n, k, ⟨hC, ⟨y, rfl⟩, ⟨L32 hC.1 hC.2.1 n y, hC.2.2.2.2.2.2.2.2.2 n y⟩, hk, rfl⟩, fun v5 h5 => ⟨d, n, k, ⟨hC, ⟨y, rfl⟩, hk, rfl⟩, fun v9 h9 => ?_⟩⟩)
  · have := k52 0 (by omega)
    rw [show (if dP d = 0 then 0 else sm (fun t => if (rtnL d (dL d) (dP d - 1)).testBit t then dS d 3 * dZ d t else 0) 0) = 0 by split <;> rfl, Nat.add_zero] at this
    rw [show n = dP d by omega]
    exact this
  · rw [h5, h9, nI_add, nI_add]
    exact ih y
-- ==== X5_many
def sp_X5_many : sv_P := fun av σ K => match av with
  | [.inr (.inr (5, 0)), .inl what] => ∃ d : dD, (RM d σ ∧ MI d σ) ∧ (∀ v : Int32, v = A_many d what → K (some (.inl v)) σ)
  | _ => False
def tb_X5_many : List (Nat × (Instr × Nat)) := [(0, (.iload_n 1, 1)), (1, (.tableswitch 55 0 3 #[31, 36, 41, 47], 31)), (32, (.aload_n 0, 1)), (33, (.getfield 46, 3)), (36, (.ireturn, 1)), (37, (.aload_n 0, 1)), (38, (.getfield 54, 3)), (41, (.ireturn, 1)), (42, (.aload_n 0, 1)), (43, (.iconst 1, 1)), (44, (.invokevirtual 151, 3)), (47, (.ireturn, 1)), (48, (.aload_n 0, 1)), (49, (.getfield 54, 3)), (52, (.invokestatic 162, 3)), (55, (.ireturn, 1)), (56, (.bipush (-2), 2)), (58, (.ireturn, 1))]
set_option maxRecDepth 100000 in
theorem tbk_X5_many : sv_tbok cX5_many tb_X5_many = true := by decide +kernel
def cal_X5_many : List (Nat × (Nat × Nat × sv_P)) := [(151, (2, 5, sp_X5_allCarried)), (162, (1, 90, sp_X5_factorial))]
def T_X5_many : sv_T := (flX5, sfX5, kcX5, klX5, cal_X5_many)
set_option maxRecDepth 100000 in
theorem Tok_X5_many (l : Launch) : sv_Tok l RX5 sv_all 5 113 T_X5_many := ⟨flokX5, sfokX5, kcokX5, klokX5, List.forall_mem_cons.mpr ⟨⟨fun _ => sv_COv_of (c_X5_allCarried l) sv_clok_all (sv_mem 760 (by decide +kernel) rfl) kw_X5_allCarried.1 kw_X5_allCarried.2.1 kw_X5_allCarried.2.2.1 kw_X5_allCarried.2.2.2 kd_X5_allCarried rfl (by decide) (by decide +kernel) rfl (by decide), fun h => absurd h (by decide)⟩, List.forall_mem_cons.mpr ⟨⟨fun h => absurd h (by decide), fun _ => sv_COs_gen (c_X5_factorial l) (Or.inl (sv_mem 817 (by decide +kernel) rfl)) kw_X5_factorial.1 kw_X5_factorial.2.1 kw_X5_factorial.2.2 kd_X5_factorial rfl (by decide) (by decide +kernel)⟩, fun _ h => absurd h List.not_mem_nil⟩⟩⟩
theorem kw_X5_many : Cond.instanceMethod yX5_many ∈ sv_tb ∧ Cond.selects yX5_many.cls yX5_many yX5_many ∈ sv_tb ∧ Cond.initialized yX5_many.cls ∈ sv_tb ∧ Cond.code yX5_many cX5_many 2 (some .int) ∈ sv_tb := ⟨sv_mem 869 (by decide +kernel) rfl, sv_mem 870 (by decide +kernel) rfl, sv_mem 56 (by decide +kernel) rfl, sv_mem 871 (by decide +kernel) rfl⟩
theorem kd_X5_many : yX5_many.cls ≠ "java/lang/invoke/MethodHandle" ∧ yX5_many.cls ≠ "java/lang/invoke/VarHandle" ∧ (parseMethodDescriptor yX5_many.desc).map (fun d => d.parameters.length) = some 1 := by decide +kernel
def F_X5_many_0 (Wk : sv_K) (Kr : Option sv_AV → sv_S → Prop) (what : Int32) (σ : sv_S) : Prop := (((what.toInt < 0 ∨ 3 < what.toInt) → Kr (some (.inl (-2 : Int32))) σ) ∧ ((what.toInt = 0 → Kr (some (.inl (sv_gA σ 5 0 0))) σ) ∧ ((what.toInt = 1 → Kr (some (.inl (sv_gA σ 5 0 1))) σ) ∧ ((what.toInt = 2 → (∃ d1 : dD, (RM d1 σ ∧ ok2 (1 : Int32)) ∧ (∀ v2 : Int32, v2 = ch ((1 : Int32) = 0) (nI (cntR d1 (2 ^ dT d1 - 1))) (nI (cntF d1 (2 ^ dT d1 - 1))) → Kr (some (.inl v2)) σ))) ∧ ((what.toInt = 3 → (∃ e3 : Nat, (e3 ≤ 5 ∧ (sv_gA σ 5 0 1) = nI e3) ∧ (∀ v4 : Int32, v4 = nI (fct e3) → Kr (some (.inl v4)) σ))) ∧ True)))))
set_option maxRecDepth 100000 in
theorem bk_X5_many_0 (Wk : sv_K) (Kr : Option sv_AV → sv_S → Prop) (what : Int32) (σ : sv_S) (h : F_X5_many_0 Wk Kr what σ) : sv_vc tb_X5_many T_X5_many sv_all (some .int) Kr [] Wk 500 0 [some (.inr (.inr (5, 0))), some (.inl what)] [] σ := ⟨fun z5 => ((h).1 z5), rfl, ⟨fun z5 => (((h).2).1 z5), ⟨fun z5 => ((((h).2).2).1 z5), ⟨fun z5 => (((((h).2).2).2).1 z5), ⟨fun z5 => ((((((h).2).2).2).2).1 z5), trivial⟩⟩⟩⟩⟩
set_option maxRecDepth 100000 in
theorem m_X5_many (l : Launch) (hb : ∀ (Wk : sv_K) (Kr : Option sv_AV → sv_S → Prop), (∀ (what : Int32) (σ : sv_S), F_X5_many_0 Wk Kr what σ → Wk 0 [some (.inr (.inr (5, 0))), some (.inl what)] [] σ) → (∀ (what : Int32) (σ : sv_S), (∃ d : dD, (RM d σ ∧ MI d σ) ∧ (∀ v : Int32, v = A_many d what → Kr (some (.inl v)) σ)) → Wk 0 [some (.inr (.inr (5, 0))), some (.inl what)] [] σ)) : sv_C l yX5_many cX5_many 2 (some .int) sv_all 5 113 sp_X5_many := by
  refine sv_meth sv_clok_all tb_X5_many T_X5_many (by decide) tbk_X5_many (Tok_X5_many l) ?_
  intro Wk Kr hc av σ hsp
  have hB := hb Wk Kr (fun what σ h => hc [] 500 0 _ _ _ (bk_X5_many_0 Wk Kr what σ h))
  unfold sp_X5_many at hsp
  split at hsp
  · exact ⟨⟨by simp, by simp [sv_cat]⟩, hB _ _ hsp⟩
  · exact hsp.elim
set_option maxHeartbeats 4000000 in
set_option maxRecDepth 100000 in
theorem c_X5_many (l : Launch) : sv_C l yX5_many cX5_many 2 (some .int) sv_all 5 113 sp_X5_many := by
  refine m_X5_many l ?_
  intro Wk Kr e0 what σ ⟨d, ⟨hC, hI⟩, h⟩
  have hT := hC.1.2.1
  apply e0
  unfold F_X5_many_0
  refine ⟨fun a => h _ ?_, fun a => h _ ?_, fun a => h _ ?_, fun a => ⟨d, ⟨hC, Or.inr rfl⟩, fun v2 h2 => h _ ?_⟩, fun a => ⟨dT d, ⟨hT, hC.2.2.2.1⟩, fun v4 h4 => h _ ?_⟩, trivial⟩
  · unfold A_many
    rw [ch_f (c := what = 0) (fun y => by rw [y] at a; exact absurd a (by decide)), ch_f (c := what = 1) (fun y => by rw [y] at a; exact absurd a (by decide)), ch_f (c := what = 2) (fun y => by rw [y] at a; exact absurd a (by decide)), ch_f (c := what = 3) (fun y => by rw [y] at a; exact absurd a (by decide))]
  · obtain rfl := toI (m := 0) a rfl
    unfold A_many
    rw [ch_t (c := (0 : Int32) = 0) rfl]
    exact hC.2.2.1
  · obtain rfl := toI (m := 1) a rfl
    unfold A_many
    rw [ch_f (c := (1 : Int32) = 0) (by decide), ch_t (c := (1 : Int32) = 1) rfl]
    exact hC.2.2.2.1
  · obtain rfl := toI (m := 2) a rfl
    rw [ch_f (c := (1 : Int32) = 0) (by decide)] at h2
    unfold A_many
    rw [ch_f (c := (2 : Int32) = 0) (by decide), ch_f (c := (2 : Int32) = 1) (by decide), ch_t (c := (2 : Int32) = 2) rfl]
    exact h2
  · obtain rfl := toI (m := 3) a rfl
    unfold A_many
    rw [ch_f (c := (3 : Int32) = 0) (by decide), ch_f (c := (3 : Int32) = 1) (by decide), ch_f (c := (3 : Int32) = 2) (by decide), ch_t (c := (3 : Int32) = 3) rfl]
    exact h4
