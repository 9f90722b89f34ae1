def fct : Nat → Nat
  | 0 => 1
  | n + 1 => (n + 1) * fct n
def sd_setRuns (σ : sv_S) (q : Nat) (runs worst : Int32) : sv_S := sv_sA (sv_sA (sv_sA σ 22 0 q runs) 22 1 q worst) 2 0 2 (sv_gA σ 2 0 2 + 1)
def sd_wr (x : Int32) (k : Nat) (w : Int32) : Int32 := if 0 < w then (x &&& (((1 : Int32) <<< (nI k &&& 31)) ^^^ (-1))) ||| ((1 : Int32) <<< (nI k &&& 31)) else x &&& (((1 : Int32) <<< (nI k &&& 31)) ^^^ (-1))
def sd_setUses (σ : sv_S) (k q : Nat) (r w : Int32) : sv_S := sv_sA (sv_sA (sv_sA (sv_sA σ 25 k q r) 27 k q w) 28 0 q (sd_wr (sv_gA σ 28 0 q) k w)) 2 0 2 (sv_gA σ 2 0 2 + 1)
def sd_setSetting (σ : sv_S) (q : Nat) (v : Int32) : sv_S := if q = 0 then sv_sA σ 20 0 q v else sv_sA (sv_sA σ 20 0 q v) 2 0 2 (sv_gA σ 2 0 2 + 1)
def sd_addPart (σ : sv_S) (q : Nat) (runs worst : Int32) : sv_S := sd_setUses (sd_setUses (sd_setUses (sd_setUses (sd_setUses (sd_setRuns (sv_sA σ 2 0 0 (nI (q + 1))) q runs worst) 0 q 0 0) 1 q 0 0) 2 q 0 0) 3 q 0 0) 4 q 0 0
-- ==== X2_hasPart
def sp_X2_hasPart : sv_P := fun av σ K => match av with
  | [.inr (.inr (2, 0)), .inl p] => ∃ d : dD, (RP d σ) ∧ ((isN (dP d) p → K (some (.inl (1 : Int32))) σ) ∧ (¬ isN (dP d) p → K (some (.inl (0 : Int32))) σ))
  | _ => False
def tb_X2_hasPart : List (Nat × (Instr × Nat)) := [(0, (.iload_n 1, 1)), (1, (.iconst 0, 1)), (2, (.aload_n 0, 1)), (3, (.getfield 32, 3)), (6, (.iconst 1, 1)), (7, (.isub, 1)), (8, (.invokestatic 36, 3)), (11, (.ireturn, 1))]
set_option maxRecDepth 100000 in
theorem tbk_X2_hasPart : sv_tbok cX2_hasPart tb_X2_hasPart = true := by decide +kernel
def cal_X2_hasPart : List (Nat × (Nat × Nat × sv_P)) := [(36, (3, 90, sp_X4_within))]
def T_X2_hasPart : sv_T := (flX2, sfX2, kcX2, klX2, cal_X2_hasPart)
set_option maxRecDepth 100000 in
theorem Tok_X2_hasPart (l : Launch) : sv_Tok l RX2 sv_all 1 22 T_X2_hasPart := ⟨flokX2, sfokX2, kcokX2, klokX2, List.forall_mem_cons.mpr ⟨⟨fun h => absurd h (by decide), fun _ => sv_COs_gen (c_X4_within l) (Or.inr ⟨_, List.mem_of_getElem? (i := 2) rfl⟩) kw_X4_within.1 kw_X4_within.2.1 kw_X4_within.2.2 kd_X4_within rfl (by decide) (by decide +kernel)⟩, fun _ h => absurd h List.not_mem_nil⟩⟩
theorem kw_X2_hasPart : Cond.instanceMethod yX2_hasPart ∈ sv_tb ∧ Cond.selects yX2_hasPart.cls yX2_hasPart yX2_hasPart ∈ sv_tb ∧ Cond.initialized yX2_hasPart.cls ∈ sv_tb ∧ Cond.code yX2_hasPart cX2_hasPart 2 (some .boolean) ∈ sv_tb := ⟨sv_mem 255 (by decide +kernel) rfl, sv_mem 256 (by decide +kernel) rfl, sv_mem 52 (by decide +kernel) rfl, sv_mem 257 (by decide +kernel) rfl⟩
theorem kd_X2_hasPart : yX2_hasPart.cls ≠ "java/lang/invoke/MethodHandle" ∧ yX2_hasPart.cls ≠ "java/lang/invoke/VarHandle" ∧ (parseMethodDescriptor yX2_hasPart.desc).map (fun d => d.parameters.length) = some 1 := by decide +kernel
def F_X2_hasPart_0 (Wk : sv_K) (Kr : Option sv_AV → sv_S → Prop) (p : Int32) (σ : sv_S) : Prop := ((((0 : Int32) ≤ p ∧ p ≤ ((sv_gA σ 2 0 0) - (1 : Int32)) → Kr (some (.inl (1 : Int32))) σ) ∧ (¬ ((0 : Int32) ≤ p ∧ p ≤ ((sv_gA σ 2 0 0) - (1 : Int32))) → Kr (some (.inl (0 : Int32))) σ)))
set_option maxRecDepth 100000 in
theorem bk_X2_hasPart_0 (Wk : sv_K) (Kr : Option sv_AV → sv_S → Prop) (p : Int32) (σ : sv_S) (h : F_X2_hasPart_0 Wk Kr p σ) : sv_vc tb_X2_hasPart T_X2_hasPart sv_all (some .boolean) Kr [] Wk 500 0 [some (.inr (.inr (2, 0))), some (.inl p)] [] σ := (match h with | ⟨z1a, z1b⟩ => ⟨fun z1y => ⟨rfl, (z1a z1y)⟩, fun z1y => ⟨rfl, (z1b z1y)⟩⟩)
set_option maxRecDepth 100000 in
theorem m_X2_hasPart (l : Launch) (hb : ∀ (Wk : sv_K) (Kr : Option sv_AV → sv_S → Prop), (∀ (p : Int32) (σ : sv_S), F_X2_hasPart_0 Wk Kr p σ → Wk 0 [some (.inr (.inr (2, 0))), some (.inl p)] [] σ) → (∀ (p : Int32) (σ : sv_S), (∃ d : dD, (RP d σ) ∧ ((isN (dP d) p → Kr (some (.inl (1 : Int32))) σ) ∧ (¬ isN (dP d) p → Kr (some (.inl (0 : Int32))) σ))) → Wk 0 [some (.inr (.inr (2, 0))), some (.inl p)] [] σ)) : sv_C l yX2_hasPart cX2_hasPart 2 (some .boolean) sv_all 1 22 sp_X2_hasPart := by
  refine sv_meth sv_clok_all tb_X2_hasPart T_X2_hasPart (by decide) tbk_X2_hasPart (Tok_X2_hasPart l) ?_
  intro Wk Kr hc av σ hsp
  have hB := hb Wk Kr (fun p σ h => hc [] 500 0 _ _ _ (bk_X2_hasPart_0 Wk Kr p σ h))
  unfold sp_X2_hasPart at hsp
  split at hsp
  · exact ⟨⟨by simp, by simp [sv_cat]⟩, hB _ _ hsp⟩
  · exact hsp.elim
set_option maxHeartbeats 4000000 in
set_option maxRecDepth 100000 in
theorem c_X2_hasPart (l : Launch) : sv_C l yX2_hasPart cX2_hasPart 2 (some .boolean) sv_all 1 22 sp_X2_hasPart := by
  refine m_X2_hasPart l ?_
  intro Wk Kr e0 p σ ⟨d, hR, h1, h0⟩
  apply e0
  have hP := hR.2.1
  have hb := hR.1.1
  refine ⟨fun z => h1 ?_, fun z => h0 ?_⟩
  · rw [isN_le (by omega), ← hP]; exact z
  · rw [isN_le (by omega), ← hP]; exact z
-- ==== X2_hasThing
def sp_X2_hasThing : sv_P := fun av σ K => match av with
  | [.inr (.inr (2, 0)), .inl t] => ∃ d : dD, (RP d σ) ∧ ((isN (dT d) t → K (some (.inl (1 : Int32))) σ) ∧ (¬ isN (dT d) t → K (some (.inl (0 : Int32))) σ))
  | _ => False
def tb_X2_hasThing : List (Nat × (Instr × Nat)) := [(0, (.iload_n 1, 1)), (1, (.iconst 0, 1)), (2, (.aload_n 0, 1)), (3, (.getfield 40, 3)), (6, (.iconst 1, 1)), (7, (.isub, 1)), (8, (.invokestatic 36, 3)), (11, (.ireturn, 1))]
set_option maxRecDepth 100000 in
theorem tbk_X2_hasThing : sv_tbok cX2_hasThing tb_X2_hasThing = true := by decide +kernel
def cal_X2_hasThing : List (Nat × (Nat × Nat × sv_P)) := [(36, (3, 90, sp_X4_within))]
def T_X2_hasThing : sv_T := (flX2, sfX2, kcX2, klX2, cal_X2_hasThing)
set_option maxRecDepth 100000 in
theorem Tok_X2_hasThing (l : Launch) : sv_Tok l RX2 sv_all 1 22 T_X2_hasThing := ⟨flokX2, sfokX2, kcokX2, klokX2, List.forall_mem_cons.mpr ⟨⟨fun h => absurd h (by decide), fun _ => sv_COs_gen (c_X4_within l) (Or.inr ⟨_, List.mem_of_getElem? (i := 2) rfl⟩) kw_X4_within.1 kw_X4_within.2.1 kw_X4_within.2.2 kd_X4_within rfl (by decide) (by decide +kernel)⟩, fun _ h => absurd h List.not_mem_nil⟩⟩
theorem kw_X2_hasThing : Cond.instanceMethod yX2_hasThing ∈ sv_tb ∧ Cond.selects yX2_hasThing.cls yX2_hasThing yX2_hasThing ∈ sv_tb ∧ Cond.initialized yX2_hasThing.cls ∈ sv_tb ∧ Cond.code yX2_hasThing cX2_hasThing 2 (some .boolean) ∈ sv_tb := ⟨sv_mem 285 (by decide +kernel) rfl, sv_mem 286 (by decide +kernel) rfl, sv_mem 52 (by decide +kernel) rfl, sv_mem 287 (by decide +kernel) rfl⟩
theorem kd_X2_hasThing : yX2_hasThing.cls ≠ "java/lang/invoke/MethodHandle" ∧ yX2_hasThing.cls ≠ "java/lang/invoke/VarHandle" ∧ (parseMethodDescriptor yX2_hasThing.desc).map (fun d => d.parameters.length) = some 1 := by decide +kernel
def F_X2_hasThing_0 (Wk : sv_K) (Kr : Option sv_AV → sv_S → Prop) (t : Int32) (σ : sv_S) : Prop := ((((0 : Int32) ≤ t ∧ t ≤ ((sv_gA σ 2 0 1) - (1 : Int32)) → Kr (some (.inl (1 : Int32))) σ) ∧ (¬ ((0 : Int32) ≤ t ∧ t ≤ ((sv_gA σ 2 0 1) - (1 : Int32))) → Kr (some (.inl (0 : Int32))) σ)))
set_option maxRecDepth 100000 in
theorem bk_X2_hasThing_0 (Wk : sv_K) (Kr : Option sv_AV → sv_S → Prop) (t : Int32) (σ : sv_S) (h : F_X2_hasThing_0 Wk Kr t σ) : sv_vc tb_X2_hasThing T_X2_hasThing sv_all (some .boolean) Kr [] Wk 500 0 [some (.inr (.inr (2, 0))), some (.inl t)] [] σ := (match h with | ⟨z1a, z1b⟩ => ⟨fun z1y => ⟨rfl, (z1a z1y)⟩, fun z1y => ⟨rfl, (z1b z1y)⟩⟩)
set_option maxRecDepth 100000 in
theorem m_X2_hasThing (l : Launch) (hb : ∀ (Wk : sv_K) (Kr : Option sv_AV → sv_S → Prop), (∀ (t : Int32) (σ : sv_S), F_X2_hasThing_0 Wk Kr t σ → Wk 0 [some (.inr (.inr (2, 0))), some (.inl t)] [] σ) → (∀ (t : Int32) (σ : sv_S), (∃ d : dD, (RP d σ) ∧ ((isN (dT d) t → Kr (some (.inl (1 : Int32))) σ) ∧ (¬ isN (dT d) t → Kr (some (.inl (0 : Int32))) σ))) → Wk 0 [some (.inr (.inr (2, 0))), some (.inl t)] [] σ)) : sv_C l yX2_hasThing cX2_hasThing 2 (some .boolean) sv_all 1 22 sp_X2_hasThing := by
  refine sv_meth sv_clok_all tb_X2_hasThing T_X2_hasThing (by decide) tbk_X2_hasThing (Tok_X2_hasThing l) ?_
  intro Wk Kr hc av σ hsp
  have hB := hb Wk Kr (fun t σ h => hc [] 500 0 _ _ _ (bk_X2_hasThing_0 Wk Kr t σ h))
  unfold sp_X2_hasThing at hsp
  split at hsp
  · exact ⟨⟨by simp, by simp [sv_cat]⟩, hB _ _ hsp⟩
  · exact hsp.elim
set_option maxHeartbeats 4000000 in
set_option maxRecDepth 100000 in
theorem c_X2_hasThing (l : Launch) : sv_C l yX2_hasThing cX2_hasThing 2 (some .boolean) sv_all 1 22 sp_X2_hasThing := by
  refine m_X2_hasThing l ?_
  intro Wk Kr e0 p σ ⟨d, hR, h1, h0⟩
  apply e0
  have hP := hR.2.2.1
  have hb := hR.1.2.1
  refine ⟨fun z => h1 ?_, fun z => h0 ?_⟩
  · rw [isN_le (by omega), ← hP]; exact z
  · rw [isN_le (by omega), ← hP]; exact z
-- ==== X2_setRuns
def sp_X2_setRuns : sv_P := fun av σ K => match av with
  | [.inr (.inr (2, 0)), .inl p, .inl runs, .inl worst] => ∃ q : Nat, (q < 10 ∧ p = nI q) ∧ (∀ σ2 : sv_S, σ2 = sd_setRuns σ q runs worst → K none σ2)
  | _ => False
def tb_X2_setRuns : List (Nat × (Instr × Nat)) := [(0, (.aload_n 0, 1)), (1, (.getfield 17, 3)), (4, (.iconst 0, 1)), (5, (.aaload, 1)), (6, (.iload_n 1, 1)), (7, (.iload_n 2, 1)), (8, (.iastore, 1)), (9, (.aload_n 0, 1)), (10, (.getfield 17, 3)), (13, (.iconst 1, 1)), (14, (.aaload, 1)), (15, (.iload_n 1, 1)), (16, (.iload_n 3, 1)), (17, (.iastore, 1)), (18, (.aload_n 0, 1)), (19, (.dup, 1)), (20, (.getfield 51, 3)), (23, (.iconst 1, 1)), (24, (.iadd, 1)), (25, (.putfield 51, 3)), (28, (.return_, 1))]
set_option maxRecDepth 100000 in
theorem tbk_X2_setRuns : sv_tbok cX2_setRuns tb_X2_setRuns = true := by decide +kernel
def cal_X2_setRuns : List (Nat × (Nat × Nat × sv_P)) := []
def T_X2_setRuns : sv_T := (flX2, sfX2, kcX2, klX2, cal_X2_setRuns)
set_option maxRecDepth 100000 in
theorem Tok_X2_setRuns (l : Launch) : sv_Tok l RX2 sv_all 0 0 T_X2_setRuns := ⟨flokX2, sfokX2, kcokX2, klokX2, fun _ h => absurd h List.not_mem_nil⟩
theorem kw_X2_setRuns : Cond.instanceMethod yX2_setRuns ∈ sv_tb ∧ Cond.selects yX2_setRuns.cls yX2_setRuns yX2_setRuns ∈ sv_tb ∧ Cond.initialized yX2_setRuns.cls ∈ sv_tb ∧ Cond.code yX2_setRuns cX2_setRuns 4 none ∈ sv_tb := ⟨sv_mem 243 (by decide +kernel) rfl, sv_mem 244 (by decide +kernel) rfl, sv_mem 52 (by decide +kernel) rfl, sv_mem 245 (by decide +kernel) rfl⟩
theorem kd_X2_setRuns : yX2_setRuns.cls ≠ "java/lang/invoke/MethodHandle" ∧ yX2_setRuns.cls ≠ "java/lang/invoke/VarHandle" ∧ (parseMethodDescriptor yX2_setRuns.desc).map (fun d => d.parameters.length) = some 3 := by decide +kernel
def F_X2_setRuns_0 (Wk : sv_K) (Kr : Option sv_AV → sv_S → Prop) (p : Int32) (runs : Int32) (worst : Int32) (σ : sv_S) : Prop := (vp_in p 10 ∧ (vp_in p 10 ∧ Kr none (sv_sA (sv_sA (sv_sA σ 22 0 p.toNatClampNeg runs) 22 1 p.toNatClampNeg worst) 2 0 2 ((sv_gA σ 2 0 2) + (1 : Int32)))))
set_option maxRecDepth 100000 in
theorem bk_X2_setRuns_0 (Wk : sv_K) (Kr : Option sv_AV → sv_S → Prop) (p : Int32) (runs : Int32) (worst : Int32) (σ : sv_S) (h : F_X2_setRuns_0 Wk Kr p runs worst σ) : sv_vc tb_X2_setRuns T_X2_setRuns sv_all none Kr [] Wk 500 0 [some (.inr (.inr (2, 0))), some (.inl p), some (.inl runs), some (.inl worst)] [] σ := ⟨sb_vin (by decide), ⟨(h).1, ⟨sb_vin (by decide), ⟨(((h).2)).1, ⟨rfl, ((((h).2)).2)⟩⟩⟩⟩⟩
set_option maxRecDepth 100000 in
theorem m_X2_setRuns (l : Launch) (hb : ∀ (Wk : sv_K) (Kr : Option sv_AV → sv_S → Prop), (∀ (p : Int32) (runs : Int32) (worst : Int32) (σ : sv_S), F_X2_setRuns_0 Wk Kr p runs worst σ → Wk 0 [some (.inr (.inr (2, 0))), some (.inl p), some (.inl runs), some (.inl worst)] [] σ) → (∀ (p : Int32) (runs : Int32) (worst : Int32) (σ : sv_S), (∃ q : Nat, (q < 10 ∧ p = nI q) ∧ (∀ σ2 : sv_S, σ2 = sd_setRuns σ q runs worst → Kr none σ2)) → Wk 0 [some (.inr (.inr (2, 0))), some (.inl p), some (.inl runs), some (.inl worst)] [] σ)) : sv_C l yX2_setRuns cX2_setRuns 4 none sv_all 0 0 sp_X2_setRuns := by
  refine sv_meth sv_clok_all tb_X2_setRuns T_X2_setRuns (by decide) tbk_X2_setRuns (Tok_X2_setRuns l) ?_
  intro Wk Kr hc av σ hsp
  have hB := hb Wk Kr (fun p runs worst σ h => hc [] 500 0 _ _ _ (bk_X2_setRuns_0 Wk Kr p runs worst σ h))
  unfold sp_X2_setRuns at hsp
  split at hsp
  · exact ⟨⟨by simp, by simp [sv_cat]⟩, hB _ _ _ _ hsp⟩
  · exact hsp.elim
set_option maxHeartbeats 4000000 in
set_option maxRecDepth 100000 in
theorem c_X2_setRuns (l : Launch) : sv_C l yX2_setRuns cX2_setRuns 4 none sv_all 0 0 sp_X2_setRuns := by
  refine m_X2_setRuns l ?_
  intro Wk Kr e0 p runs worst σ ⟨q, ⟨hq, hp⟩, h⟩
  subst hp
  apply e0
  have hc : (nI q).toNatClampNeg = q := nI_clamp (by omega)
  exact ⟨pk_in q 10 hq, pk_in q 10 hq, h _ (by rw [hc]; rfl)⟩
-- ==== X2_setUses
def sp_X2_setUses : sv_P := fun av σ K => match av with
  | [.inr (.inr (2, 0)), .inl t, .inl p, .inl readTimes, .inl writeTimes] => ∃ k : Nat, ∃ q : Nat, ((k < 5 ∧ t = nI k) ∧ (q < 10 ∧ p = nI q)) ∧ (∀ σ2 : sv_S, σ2 = sd_setUses σ k q readTimes writeTimes → K none σ2)
  | _ => False
def tb_X2_setUses : List (Nat × (Instr × Nat)) := [(0, (.aload_n 0, 1)), (1, (.getfield 23, 3)), (4, (.iload_n 1, 1)), (5, (.aaload, 1)), (6, (.iload_n 2, 1)), (7, (.iload_n 3, 1)), (8, (.iastore, 1)), (9, (.aload_n 0, 1)), (10, (.getfield 26, 3)), (13, (.iload_n 1, 1)), (14, (.aaload, 1)), (15, (.iload_n 2, 1)), (16, (.iload 4, 2)), (18, (.iastore, 1)), (19, (.aload_n 0, 1)), (20, (.getfield 29, 3)), (23, (.iload_n 2, 1)), (24, (.iaload, 1)), (25, (.iconst 1, 1)), (26, (.iload_n 1, 1)), (27, (.ishl, 1)), (28, (.iconst (-1), 1)), (29, (.ixor, 1)), (30, (.iand, 1)), (31, (.istore 5, 2)), (33, (.aload_n 0, 1)), (34, (.getfield 29, 3)), (37, (.iload_n 2, 1)), (38, (.iload 4, 2)), (40, (.ifCond .le 12, 3)), (43, (.iload 5, 2)), (45, (.iconst 1, 1)), (46, (.iload_n 1, 1)), (47, (.ishl, 1)), (48, (.ior, 1)), (49, (.goto 5, 3)), (52, (.iload 5, 2)), (54, (.iastore, 1)), (55, (.aload_n 0, 1)), (56, (.dup, 1)), (57, (.getfield 51, 3)), (60, (.iconst 1, 1)), (61, (.iadd, 1)), (62, (.putfield 51, 3)), (65, (.return_, 1))]
set_option maxRecDepth 100000 in
theorem tbk_X2_setUses : sv_tbok cX2_setUses tb_X2_setUses = true := by decide +kernel
def cal_X2_setUses : List (Nat × (Nat × Nat × sv_P)) := []
def T_X2_setUses : sv_T := (flX2, sfX2, kcX2, klX2, cal_X2_setUses)
set_option maxRecDepth 100000 in
theorem Tok_X2_setUses (l : Launch) : sv_Tok l RX2 sv_all 0 0 T_X2_setUses := ⟨flokX2, sfokX2, kcokX2, klokX2, fun _ h => absurd h List.not_mem_nil⟩
theorem kw_X2_setUses : Cond.instanceMethod yX2_setUses ∈ sv_tb ∧ Cond.selects yX2_setUses.cls yX2_setUses yX2_setUses ∈ sv_tb ∧ Cond.initialized yX2_setUses.cls ∈ sv_tb ∧ Cond.code yX2_setUses cX2_setUses 6 none ∈ sv_tb := ⟨sv_mem 247 (by decide +kernel) rfl, sv_mem 248 (by decide +kernel) rfl, sv_mem 52 (by decide +kernel) rfl, sv_mem 249 (by decide +kernel) rfl⟩
theorem kd_X2_setUses : yX2_setUses.cls ≠ "java/lang/invoke/MethodHandle" ∧ yX2_setUses.cls ≠ "java/lang/invoke/VarHandle" ∧ (parseMethodDescriptor yX2_setUses.desc).map (fun d => d.parameters.length) = some 4 := by decide +kernel
def F_X2_setUses_0 (Wk : sv_K) (Kr : Option sv_AV → sv_S → Prop) (t : Int32) (p : Int32) (readTimes : Int32) (writeTimes : Int32) (σ : sv_S) : Prop := (vp_in t 5 ∧ (vp_in p 10 ∧ (vp_in t 5 ∧ (vp_in p 10 ∧ (vp_in p 10 ∧ ((writeTimes ≤ (0 : Int32) → (vp_in p 10 ∧ Kr none (sv_sA (sv_sA (sv_sA (sv_sA σ 25 t.toNatClampNeg p.toNatClampNeg readTimes) 27 t.toNatClampNeg p.toNatClampNeg writeTimes) 28 0 p.toNatClampNeg ((sv_gA σ 28 0 p.toNatClampNeg) &&& (((1 : Int32) <<< (t &&& 31)) ^^^ (-1 : Int32)))) 2 0 2 ((sv_gA σ 2 0 2) + (1 : Int32))))) ∧ (¬ writeTimes ≤ (0 : Int32) → (vp_in p 10 ∧ Kr none (sv_sA (sv_sA (sv_sA (sv_sA σ 25 t.toNatClampNeg p.toNatClampNeg readTimes) 27 t.toNatClampNeg p.toNatClampNeg writeTimes) 28 0 p.toNatClampNeg (((sv_gA σ 28 0 p.toNatClampNeg) &&& (((1 : Int32) <<< (t &&& 31)) ^^^ (-1 : Int32))) ||| ((1 : Int32) <<< (t &&& 31)))) 2 0 2 ((sv_gA σ 2 0 2) + (1 : Int32)))))))))))
set_option maxRecDepth 100000 in
theorem bk_X2_setUses_0 (Wk : sv_K) (Kr : Option sv_AV → sv_S → Prop) (t : Int32) (p : Int32) (readTimes : Int32) (writeTimes : Int32) (σ : sv_S) (h : F_X2_setUses_0 Wk Kr t p readTimes writeTimes σ) : sv_vc tb_X2_setUses T_X2_setUses sv_all none Kr [] Wk 500 0 [some (.inr (.inr (2, 0))), some (.inl t), some (.inl p), some (.inl readTimes), some (.inl writeTimes), none] [] σ := ⟨(h).1, ⟨(((h).2)).1, ⟨(((((h).2)).2)).1, ⟨(((((((h).2)).2)).2)).1, ⟨(((((((((h).2)).2)).2)).2)).1, ⟨fun z1 => ⟨(((((((((((((h).2)).2)).2)).2)).2)).1 z1)).1, ⟨rfl, ((((((((((((((h).2)).2)).2)).2)).2)).1 z1)).2)⟩⟩, fun z1 => ⟨(((((((((((((h).2)).2)).2)).2)).2)).2 z1)).1, ⟨rfl, ((((((((((((((h).2)).2)).2)).2)).2)).2 z1)).2)⟩⟩⟩⟩⟩⟩⟩⟩
set_option maxRecDepth 100000 in
theorem m_X2_setUses (l : Launch) (hb : ∀ (Wk : sv_K) (Kr : Option sv_AV → sv_S → Prop), (∀ (t : Int32) (p : Int32) (readTimes : Int32) (writeTimes : Int32) (σ : sv_S), F_X2_setUses_0 Wk Kr t p readTimes writeTimes σ → Wk 0 [some (.inr (.inr (2, 0))), some (.inl t), some (.inl p), some (.inl readTimes), some (.inl writeTimes), none] [] σ) → (∀ (t : Int32) (p : Int32) (readTimes : Int32) (writeTimes : Int32) (σ : sv_S), (∃ k : Nat, ∃ q : Nat, ((k < 5 ∧ t = nI k) ∧ (q < 10 ∧ p = nI q)) ∧ (∀ σ2 : sv_S, σ2 = sd_setUses σ k q readTimes writeTimes → Kr none σ2)) → Wk 0 [some (.inr (.inr (2, 0))), some (.inl t), some (.inl p), some (.inl readTimes), some (.inl writeTimes), none] [] σ)) : sv_C l yX2_setUses cX2_setUses 6 none sv_all 0 0 sp_X2_setUses := by
  refine sv_meth sv_clok_all tb_X2_setUses T_X2_setUses (by decide) tbk_X2_setUses (Tok_X2_setUses l) ?_
  intro Wk Kr hc av σ hsp
  have hB := hb Wk Kr (fun t p readTimes writeTimes σ h => hc [] 500 0 _ _ _ (bk_X2_setUses_0 Wk Kr t p readTimes writeTimes σ h))
  unfold sp_X2_setUses at hsp
  split at hsp
  · exact ⟨⟨by simp, by simp [sv_cat]⟩, hB _ _ _ _ _ hsp⟩
  · exact hsp.elim
set_option maxHeartbeats 4000000 in
set_option maxRecDepth 100000 in
theorem c_X2_setUses (l : Launch) : sv_C l yX2_setUses cX2_setUses 6 none sv_all 0 0 sp_X2_setUses := by
  refine m_X2_setUses l ?_
  intro Wk Kr e0 t p r w σ ⟨k, q, ⟨⟨hk, ht⟩, hq, hp⟩, h⟩
  subst hp
  subst ht
  apply e0
  have hc : (nI q).toNatClampNeg = q := nI_clamp (by omega)
  have hc2 : (nI k).toNatClampNeg = k := nI_clamp (by omega)
  refine ⟨pk_in k 5 hk, pk_in q 10 hq, pk_in k 5 hk, pk_in q 10 hq, pk_in q 10 hq, fun z => ⟨pk_in q 10 hq, h _ ?_⟩, fun z => ⟨pk_in q 10 hq, h _ ?_⟩⟩
  · rw [hc, hc2]
    unfold sd_setUses sd_wr
    rw [if_neg (Int32.not_lt.mpr z)]
  · rw [hc, hc2]
    unfold sd_setUses sd_wr
    rw [if_pos (Int32.not_le.mp z)]
-- ==== X2_setSize
def sp_X2_setSize : sv_P := fun av σ K => match av with
  | [.inr (.inr (2, 0)), .inl t, .inl sz] => ∃ k : Nat, (k < 5 ∧ t = nI k) ∧ (∀ σ2 : sv_S, σ2 = sv_sA (sv_sA σ 23 0 k sz) 2 0 2 (sv_gA σ 2 0 2 + 1) → K none σ2)
  | _ => False
def tb_X2_setSize : List (Nat × (Instr × Nat)) := [(0, (.aload_n 0, 1)), (1, (.getfield 20, 3)), (4, (.iload_n 1, 1)), (5, (.iload_n 2, 1)), (6, (.iastore, 1)), (7, (.aload_n 0, 1)), (8, (.dup, 1)), (9, (.getfield 51, 3)), (12, (.iconst 1, 1)), (13, (.iadd, 1)), (14, (.putfield 51, 3)), (17, (.return_, 1))]
set_option maxRecDepth 100000 in
theorem tbk_X2_setSize : sv_tbok cX2_setSize tb_X2_setSize = true := by decide +kernel
def cal_X2_setSize : List (Nat × (Nat × Nat × sv_P)) := []
def T_X2_setSize : sv_T := (flX2, sfX2, kcX2, klX2, cal_X2_setSize)
set_option maxRecDepth 100000 in
theorem Tok_X2_setSize (l : Launch) : sv_Tok l RX2 sv_all 0 0 T_X2_setSize := ⟨flokX2, sfokX2, kcokX2, klokX2, fun _ h => absurd h List.not_mem_nil⟩
theorem kw_X2_setSize : Cond.instanceMethod yX2_setSize ∈ sv_tb ∧ Cond.selects yX2_setSize.cls yX2_setSize yX2_setSize ∈ sv_tb ∧ Cond.initialized yX2_setSize.cls ∈ sv_tb ∧ Cond.code yX2_setSize cX2_setSize 3 none ∈ sv_tb := ⟨sv_mem 277 (by decide +kernel) rfl, sv_mem 278 (by decide +kernel) rfl, sv_mem 52 (by decide +kernel) rfl, sv_mem 279 (by decide +kernel) rfl⟩
theorem kd_X2_setSize : yX2_setSize.cls ≠ "java/lang/invoke/MethodHandle" ∧ yX2_setSize.cls ≠ "java/lang/invoke/VarHandle" ∧ (parseMethodDescriptor yX2_setSize.desc).map (fun d => d.parameters.length) = some 2 := by decide +kernel
def F_X2_setSize_0 (Wk : sv_K) (Kr : Option sv_AV → sv_S → Prop) (t : Int32) (sz : Int32) (σ : sv_S) : Prop := (vp_in t 5 ∧ Kr none (sv_sA (sv_sA σ 23 0 t.toNatClampNeg sz) 2 0 2 ((sv_gA σ 2 0 2) + (1 : Int32))))
set_option maxRecDepth 100000 in
theorem bk_X2_setSize_0 (Wk : sv_K) (Kr : Option sv_AV → sv_S → Prop) (t : Int32) (sz : Int32) (σ : sv_S) (h : F_X2_setSize_0 Wk Kr t sz σ) : sv_vc tb_X2_setSize T_X2_setSize sv_all none Kr [] Wk 500 0 [some (.inr (.inr (2, 0))), some (.inl t), some (.inl sz)] [] σ := ⟨(h).1, ⟨rfl, ((h).2)⟩⟩
set_option maxRecDepth 100000 in
theorem m_X2_setSize (l : Launch) (hb : ∀ (Wk : sv_K) (Kr : Option sv_AV → sv_S → Prop), (∀ (t : Int32) (sz : Int32) (σ : sv_S), F_X2_setSize_0 Wk Kr t sz σ → Wk 0 [some (.inr (.inr (2, 0))), some (.inl t), some (.inl sz)] [] σ) → (∀ (t : Int32) (sz : Int32) (σ : sv_S), (∃ k : Nat, (k < 5 ∧ t = nI k) ∧ (∀ σ2 : sv_S, σ2 = sv_sA (sv_sA σ 23 0 k sz) 2 0 2 (sv_gA σ 2 0 2 + 1) → Kr none σ2)) → Wk 0 [some (.inr (.inr (2, 0))), some (.inl t), some (.inl sz)] [] σ)) : sv_C l yX2_setSize cX2_setSize 3 none sv_all 0 0 sp_X2_setSize := by
  refine sv_meth sv_clok_all tb_X2_setSize T_X2_setSize (by decide) tbk_X2_setSize (Tok_X2_setSize l) ?_
  intro Wk Kr hc av σ hsp
  have hB := hb Wk Kr (fun t sz σ h => hc [] 500 0 _ _ _ (bk_X2_setSize_0 Wk Kr t sz σ h))
  unfold sp_X2_setSize at hsp
  split at hsp
  · exact ⟨⟨by simp, by simp [sv_cat]⟩, hB _ _ _ hsp⟩
  · exact hsp.elim
set_option maxHeartbeats 4000000 in
set_option maxRecDepth 100000 in
theorem c_X2_setSize (l : Launch) : sv_C l yX2_setSize cX2_setSize 3 none sv_all 0 0 sp_X2_setSize := by
  refine m_X2_setSize l ?_
  intro Wk Kr e0 t v σ ⟨k, ⟨hk, ht⟩, h⟩
  subst ht
  apply e0
  have hc2 : (nI k).toNatClampNeg = k := nI_clamp (by omega)
  exact ⟨pk_in k 5 hk, h _ (by rw [hc2])⟩
-- ==== X2_setSetting
def sp_X2_setSetting : sv_P := fun av σ K => match av with
  | [.inr (.inr (2, 0)), .inl k, .inl nv] => ∃ q : Nat, (q < 4 ∧ k = nI q) ∧ (∀ σ2 : sv_S, σ2 = sd_setSetting σ q nv → K none σ2)
  | _ => False
def tb_X2_setSetting : List (Nat × (Instr × Nat)) := [(0, (.aload_n 0, 1)), (1, (.getfield 9, 3)), (4, (.iload_n 1, 1)), (5, (.iload_n 2, 1)), (6, (.iastore, 1)), (7, (.iload_n 1, 1)), (8, (.ifCond .eq 13, 3)), (11, (.aload_n 0, 1)), (12, (.dup, 1)), (13, (.getfield 51, 3)), (16, (.iconst 1, 1)), (17, (.iadd, 1)), (18, (.putfield 51, 3)), (21, (.return_, 1))]
set_option maxRecDepth 100000 in
theorem tbk_X2_setSetting : sv_tbok cX2_setSetting tb_X2_setSetting = true := by decide +kernel
def cal_X2_setSetting : List (Nat × (Nat × Nat × sv_P)) := []
def T_X2_setSetting : sv_T := (flX2, sfX2, kcX2, klX2, cal_X2_setSetting)
set_option maxRecDepth 100000 in
theorem Tok_X2_setSetting (l : Launch) : sv_Tok l RX2 sv_all 0 0 T_X2_setSetting := ⟨flokX2, sfokX2, kcokX2, klokX2, fun _ h => absurd h List.not_mem_nil⟩
theorem kw_X2_setSetting : Cond.instanceMethod yX2_setSetting ∈ sv_tb ∧ Cond.selects yX2_setSetting.cls yX2_setSetting yX2_setSetting ∈ sv_tb ∧ Cond.initialized yX2_setSetting.cls ∈ sv_tb ∧ Cond.code yX2_setSetting cX2_setSetting 3 none ∈ sv_tb := ⟨sv_mem 310 (by decide +kernel) rfl, sv_mem 311 (by decide +kernel) rfl, sv_mem 52 (by decide +kernel) rfl, sv_mem 312 (by decide +kernel) rfl⟩
theorem kd_X2_setSetting : yX2_setSetting.cls ≠ "java/lang/invoke/MethodHandle" ∧ yX2_setSetting.cls ≠ "java/lang/invoke/VarHandle" ∧ (parseMethodDescriptor yX2_setSetting.desc).map (fun d => d.parameters.length) = some 2 := by decide +kernel
def F_X2_setSetting_0 (Wk : sv_K) (Kr : Option sv_AV → sv_S → Prop) (k : Int32) (nv : Int32) (σ : sv_S) : Prop := (vp_in k 4 ∧ ((k = (0 : Int32) → Kr none (sv_sA σ 20 0 k.toNatClampNeg nv)) ∧ (¬ k = (0 : Int32) → Kr none (sv_sA (sv_sA σ 20 0 k.toNatClampNeg nv) 2 0 2 ((sv_gA σ 2 0 2) + (1 : Int32))))))
set_option maxRecDepth 100000 in
theorem bk_X2_setSetting_0 (Wk : sv_K) (Kr : Option sv_AV → sv_S → Prop) (k : Int32) (nv : Int32) (σ : sv_S) (h : F_X2_setSetting_0 Wk Kr k nv σ) : sv_vc tb_X2_setSetting T_X2_setSetting sv_all none Kr [] Wk 500 0 [some (.inr (.inr (2, 0))), some (.inl k), some (.inl nv)] [] σ := ⟨(h).1, ⟨fun z1 => ⟨rfl, ((((h).2)).1 z1)⟩, fun z1 => ⟨rfl, ((((h).2)).2 z1)⟩⟩⟩
set_option maxRecDepth 100000 in
theorem m_X2_setSetting (l : Launch) (hb : ∀ (Wk : sv_K) (Kr : Option sv_AV → sv_S → Prop), (∀ (k : Int32) (nv : Int32) (σ : sv_S), F_X2_setSetting_0 Wk Kr k nv σ → Wk 0 [some (.inr (.inr (2, 0))), some (.inl k), some (.inl nv)] [] σ) → (∀ (k : Int32) (nv : Int32) (σ : sv_S), (∃ q : Nat, (q < 4 ∧ k = nI q) ∧ (∀ σ2 : sv_S, σ2 = sd_setSetting σ q nv → Kr none σ2)) → Wk 0 [some (.inr (.inr (2, 0))), some (.inl k), some (.inl nv)] [] σ)) : sv_C l yX2_setSetting cX2_setSetting 3 none sv_all 0 0 sp_X2_setSetting := by
  refine sv_meth sv_clok_all tb_X2_setSetting T_X2_setSetting (by decide) tbk_X2_setSetting (Tok_X2_setSetting l) ?_
  intro Wk Kr hc av σ hsp
  have hB := hb Wk Kr (fun k nv σ h => hc [] 500 0 _ _ _ (bk_X2_setSetting_0 Wk Kr k nv σ h))
  unfold sp_X2_setSetting at hsp
  split at hsp
  · exact ⟨⟨by simp, by simp [sv_cat]⟩, hB _ _ _ hsp⟩
  · exact hsp.elim
set_option maxHeartbeats 4000000 in
set_option maxRecDepth 100000 in
theorem c_X2_setSetting (l : Launch) : sv_C l yX2_setSetting cX2_setSetting 3 none sv_all 0 0 sp_X2_setSetting := by
  refine m_X2_setSetting l ?_
  intro Wk Kr e0 k v σ ⟨q, ⟨hq, hk⟩, h⟩
  subst hk
  apply e0
  have hc : (nI q).toNatClampNeg = q := nI_clamp (by omega)
  refine ⟨pk_in q 4 hq, pk_eq q 0 (fun z => h _ ?_) (fun z => h _ ?_)⟩
  · unfold sd_setSetting
    rw [if_pos z, hc]
  · unfold sd_setSetting
    rw [if_neg z, hc]
-- ==== X2_removeLastPart
def sp_X2_removeLastPart : sv_P := fun av σ K => match av with
  | [.inr (.inr (2, 0))] => (∀ σ2 : sv_S, σ2 = sv_sA (sv_sA σ 2 0 0 (sv_gA σ 2 0 0 - 1)) 2 0 2 (sv_gA σ 2 0 2 + 1) → K none σ2)
  | _ => False
def tb_X2_removeLastPart : List (Nat × (Instr × Nat)) := [(0, (.aload_n 0, 1)), (1, (.dup, 1)), (2, (.getfield 32, 3)), (5, (.iconst 1, 1)), (6, (.isub, 1)), (7, (.putfield 32, 3)), (10, (.aload_n 0, 1)), (11, (.dup, 1)), (12, (.getfield 51, 3)), (15, (.iconst 1, 1)), (16, (.iadd, 1)), (17, (.putfield 51, 3)), (20, (.return_, 1))]
set_option maxRecDepth 100000 in
theorem tbk_X2_removeLastPart : sv_tbok cX2_removeLastPart tb_X2_removeLastPart = true := by decide +kernel
def cal_X2_removeLastPart : List (Nat × (Nat × Nat × sv_P)) := []
def T_X2_removeLastPart : sv_T := (flX2, sfX2, kcX2, klX2, cal_X2_removeLastPart)
set_option maxRecDepth 100000 in
theorem Tok_X2_removeLastPart (l : Launch) : sv_Tok l RX2 sv_all 0 0 T_X2_removeLastPart := ⟨flokX2, sfokX2, kcokX2, klokX2, fun _ h => absurd h List.not_mem_nil⟩
theorem kw_X2_removeLastPart : Cond.instanceMethod yX2_removeLastPart ∈ sv_tb ∧ Cond.selects yX2_removeLastPart.cls yX2_removeLastPart yX2_removeLastPart ∈ sv_tb ∧ Cond.initialized yX2_removeLastPart.cls ∈ sv_tb ∧ Cond.code yX2_removeLastPart cX2_removeLastPart 1 none ∈ sv_tb := ⟨sv_mem 265 (by decide +kernel) rfl, sv_mem 266 (by decide +kernel) rfl, sv_mem 52 (by decide +kernel) rfl, sv_mem 267 (by decide +kernel) rfl⟩
theorem kd_X2_removeLastPart : yX2_removeLastPart.cls ≠ "java/lang/invoke/MethodHandle" ∧ yX2_removeLastPart.cls ≠ "java/lang/invoke/VarHandle" ∧ (parseMethodDescriptor yX2_removeLastPart.desc).map (fun d => d.parameters.length) = some 0 := by decide +kernel
def F_X2_removeLastPart_0 (Wk : sv_K) (Kr : Option sv_AV → sv_S → Prop)  (σ : sv_S) : Prop := Kr none (sv_sA (sv_sA σ 2 0 0 ((sv_gA σ 2 0 0) - (1 : Int32))) 2 0 2 ((sv_gA σ 2 0 2) + (1 : Int32)))
set_option maxRecDepth 100000 in
theorem bk_X2_removeLastPart_0 (Wk : sv_K) (Kr : Option sv_AV → sv_S → Prop)  (σ : sv_S) (h : F_X2_removeLastPart_0 Wk Kr  σ) : sv_vc tb_X2_removeLastPart T_X2_removeLastPart sv_all none Kr [] Wk 500 0 [some (.inr (.inr (2, 0)))] [] σ := ⟨rfl, h⟩
set_option maxRecDepth 100000 in
theorem m_X2_removeLastPart (l : Launch) (hb : ∀ (Wk : sv_K) (Kr : Option sv_AV → sv_S → Prop), (∀  (σ : sv_S), F_X2_removeLastPart_0 Wk Kr  σ → Wk 0 [some (.inr (.inr (2, 0)))] [] σ) → (∀  (σ : sv_S), ((∀ σ2 : sv_S, σ2 = sv_sA (sv_sA σ 2 0 0 (sv_gA σ 2 0 0 - 1)) 2 0 2 (sv_gA σ 2 0 2 + 1) → Kr none σ2)) → Wk 0 [some (.inr (.inr (2, 0)))] [] σ)) : sv_C l yX2_removeLastPart cX2_removeLastPart 1 none sv_all 0 0 sp_X2_removeLastPart := by
  refine sv_meth sv_clok_all tb_X2_removeLastPart T_X2_removeLastPart (by decide) tbk_X2_removeLastPart (Tok_X2_removeLastPart l) ?_
  intro Wk Kr hc av σ hsp
  have hB := hb Wk Kr (fun  σ h => hc [] 500 0 _ _ _ (bk_X2_removeLastPart_0 Wk Kr  σ h))
  unfold sp_X2_removeLastPart at hsp
  split at hsp
  · exact ⟨⟨by simp, by simp [sv_cat]⟩, hB  _ hsp⟩
  · exact hsp.elim
set_option maxHeartbeats 4000000 in
set_option maxRecDepth 100000 in
theorem c_X2_removeLastPart (l : Launch) : sv_C l yX2_removeLastPart cX2_removeLastPart 1 none sv_all 0 0 sp_X2_removeLastPart := by
  refine m_X2_removeLastPart l ?_
  intro Wk Kr e0 σ h
  apply e0
  exact h _ rfl
-- ==== X2_addPart
def sp_X2_addPart : sv_P := fun av σ K => match av with
  | [.inr (.inr (2, 0)), .inl runs, .inl worst] => ∃ q : Nat, (q < 10 ∧ sv_gA σ 2 0 0 = nI q) ∧ (∀ v : Int32, ∀ σ2 : sv_S, v = nI q ∧ σ2 = sd_addPart σ q runs worst → K (some (.inl v)) σ2)
  | _ => False
def tb_X2_addPart : List (Nat × (Instr × Nat)) := [(0, (.aload_n 0, 1)), (1, (.getfield 32, 3)), (4, (.istore_n 3, 1)), (5, (.aload_n 0, 1)), (6, (.dup, 1)), (7, (.getfield 32, 3)), (10, (.iconst 1, 1)), (11, (.iadd, 1)), (12, (.putfield 32, 3)), (15, (.aload_n 0, 1)), (16, (.iload_n 3, 1)), (17, (.iload_n 1, 1)), (18, (.iload_n 2, 1)), (19, (.invokevirtual 43, 3)), (22, (.iconst 0, 1)), (23, (.istore 4, 2)), (25, (.iload 4, 2)), (27, (.iconst 5, 1)), (28, (.if_icmp .ge 18, 3)), (31, (.aload_n 0, 1)), (32, (.iload 4, 2)), (34, (.iload_n 3, 1)), (35, (.iconst 0, 1)), (36, (.iconst 0, 1)), (37, (.invokevirtual 47, 3)), (40, (.iinc 4 1, 3)), (43, (.goto (-18), 3)), (46, (.iload_n 3, 1)), (47, (.ireturn, 1))]
set_option maxRecDepth 100000 in
theorem tbk_X2_addPart : sv_tbok cX2_addPart tb_X2_addPart = true := by decide +kernel
def cal_X2_addPart : List (Nat × (Nat × Nat × sv_P)) := [(43, (4, 2, sp_X2_setRuns)), (47, (5, 2, sp_X2_setUses))]
def T_X2_addPart : sv_T := (flX2, sfX2, kcX2, klX2, cal_X2_addPart)
set_option maxRecDepth 100000 in
theorem Tok_X2_addPart (l : Launch) : sv_Tok l RX2 sv_all 1 25 T_X2_addPart := ⟨flokX2, sfokX2, kcokX2, klokX2, List.forall_mem_cons.mpr ⟨⟨fun _ => sv_COv_of (c_X2_setRuns l) sv_clok_all (sv_mem 242 (by decide +kernel) rfl) kw_X2_setRuns.1 kw_X2_setRuns.2.1 kw_X2_setRuns.2.2.1 kw_X2_setRuns.2.2.2 kd_X2_setRuns rfl (by decide) (by decide +kernel) rfl (by decide), fun h => absurd h (by decide)⟩, List.forall_mem_cons.mpr ⟨⟨fun _ => sv_COv_of (c_X2_setUses l) sv_clok_all (sv_mem 246 (by decide +kernel) rfl) kw_X2_setUses.1 kw_X2_setUses.2.1 kw_X2_setUses.2.2.1 kw_X2_setUses.2.2.2 kd_X2_setUses rfl (by decide) (by decide +kernel) rfl (by decide), fun h => absurd h (by decide)⟩, fun _ h => absurd h List.not_mem_nil⟩⟩⟩
theorem kw_X2_addPart : Cond.instanceMethod yX2_addPart ∈ sv_tb ∧ Cond.selects yX2_addPart.cls yX2_addPart yX2_addPart ∈ sv_tb ∧ Cond.initialized yX2_addPart.cls ∈ sv_tb ∧ Cond.code yX2_addPart cX2_addPart 5 (some .int) ∈ sv_tb := ⟨sv_mem 239 (by decide +kernel) rfl, sv_mem 240 (by decide +kernel) rfl, sv_mem 52 (by decide +kernel) rfl, sv_mem 241 (by decide +kernel) rfl⟩
theorem kd_X2_addPart : yX2_addPart.cls ≠ "java/lang/invoke/MethodHandle" ∧ yX2_addPart.cls ≠ "java/lang/invoke/VarHandle" ∧ (parseMethodDescriptor yX2_addPart.desc).map (fun d => d.parameters.length) = some 2 := by decide +kernel
def F_X2_addPart_0 (Wk : sv_K) (Kr : Option sv_AV → sv_S → Prop) (runs : Int32) (worst : Int32) (σ : sv_S) : Prop := (∃ q1 : Nat, (q1 < 10 ∧ (sv_gA σ 2 0 0) = nI q1) ∧ (∀ σ3 : sv_S, σ3 = sd_setRuns (sv_sA σ 2 0 0 ((sv_gA σ 2 0 0) + (1 : Int32))) q1 runs worst → Wk 25 [some (.inr (.inr (2, 0))), none, none, some (.inl (sv_gA σ 2 0 0)), some (.inl (0 : Int32))] [] σ3))
set_option maxRecDepth 100000 in
theorem bk_X2_addPart_0 (Wk : sv_K) (Kr : Option sv_AV → sv_S → Prop) (runs : Int32) (worst : Int32) (σ : sv_S) (h : F_X2_addPart_0 Wk Kr runs worst σ) : sv_vc tb_X2_addPart T_X2_addPart sv_all (some .int) Kr [(25, [true, false, false, true, true])] Wk 500 0 [some (.inr (.inr (2, 0))), some (.inl runs), some (.inl worst), none, none] [] σ := h
def F_X2_addPart_25 (Wk : sv_K) (Kr : Option sv_AV → sv_S → Prop) (x3 : Int32) (x4 : Int32) (σ : sv_S) : Prop := (((5 : Int32) ≤ x4 → Kr (some (.inl x3)) σ) ∧ (¬ (5 : Int32) ≤ x4 → (∃ k1 : Nat, ∃ q2 : Nat, ((k1 < 5 ∧ x4 = nI k1) ∧ (q2 < 10 ∧ x3 = nI q2)) ∧ (∀ σ4 : sv_S, σ4 = sd_setUses σ k1 q2 (0 : Int32) (0 : Int32) → Wk 25 [some (.inr (.inr (2, 0))), none, none, some (.inl x3), some (.inl (x4 + (1 : Int32)))] [] σ4))))
set_option maxRecDepth 100000 in
theorem bk_X2_addPart_25 (Wk : sv_K) (Kr : Option sv_AV → sv_S → Prop) (x3 : Int32) (x4 : Int32) (σ : sv_S) (h : F_X2_addPart_25 Wk Kr x3 x4 σ) : sv_vc tb_X2_addPart T_X2_addPart sv_all (some .int) Kr [(25, [true, false, false, true, true])] Wk 500 25 [some (.inr (.inr (2, 0))), none, none, some (.inl x3), some (.inl x4)] [] σ := h
set_option maxRecDepth 100000 in
theorem m_X2_addPart (l : Launch) (hb : ∀ (Wk : sv_K) (Kr : Option sv_AV → sv_S → Prop), (∀ (runs : Int32) (worst : Int32) (σ : sv_S), F_X2_addPart_0 Wk Kr runs worst σ → Wk 0 [some (.inr (.inr (2, 0))), some (.inl runs), some (.inl worst), none, none] [] σ) → (∀ (x3 : Int32) (x4 : Int32) (σ : sv_S), F_X2_addPart_25 Wk Kr x3 x4 σ → Wk 25 [some (.inr (.inr (2, 0))), none, none, some (.inl x3), some (.inl x4)] [] σ) → (∀ (runs : Int32) (worst : Int32) (σ : sv_S), (∃ q : Nat, (q < 10 ∧ sv_gA σ 2 0 0 = nI q) ∧ (∀ v : Int32, ∀ σ2 : sv_S, v = nI q ∧ σ2 = sd_addPart σ q runs worst → Kr (some (.inl v)) σ2)) → Wk 0 [some (.inr (.inr (2, 0))), some (.inl runs), some (.inl worst), none, none] [] σ)) : sv_C l yX2_addPart cX2_addPart 5 (some .int) sv_all 1 25 sp_X2_addPart := by
  refine sv_meth sv_clok_all tb_X2_addPart T_X2_addPart (by decide) tbk_X2_addPart (Tok_X2_addPart l) ?_
  intro Wk Kr hc av σ hsp
  have hB := hb Wk Kr (fun runs worst σ h => hc [(25, [true, false, false, true, true])] 500 0 _ _ _ (bk_X2_addPart_0 Wk Kr runs worst σ h)) (fun x3 x4 σ h => hc [(25, [true, false, false, true, true])] 500 25 _ _ _ (bk_X2_addPart_25 Wk Kr x3 x4 σ h))
  unfold sp_X2_addPart at hsp
  split at hsp
  · exact ⟨⟨by simp, by simp [sv_cat]⟩, hB _ _ _ hsp⟩
  · exact hsp.elim
set_option maxHeartbeats 4000000 in
set_option maxRecDepth 100000 in
theorem c_X2_addPart (l : Launch) : sv_C l yX2_addPart cX2_addPart 5 (some .int) sv_all 1 25 sp_X2_addPart := by
  refine m_X2_addPart l ?_
  intro Wk Kr e0 e25 runs worst σ ⟨q, ⟨hq, hp⟩, h⟩
  apply e0
  refine ⟨q, ⟨hq, hp⟩, fun σ3 e3 => ?_⟩
  rw [hp, nI_1] at e3
  subst e3
  rw [hp]
  have st : ∀ k σ, k < 5 → Wk 25 [some (.inr (.inr (2, 0))), none, none, some (.inl (nI q)), some (.inl (nI (k + 1)))] [] (sd_setUses σ k q 0 0) → Wk 25 [some (.inr (.inr (2, 0))), none, none, some (.inl (nI q)), some (.inl (nI k))] [] σ := fun k σ hk hw => e25 _ _ _ (pk_le 5 k (fun z => by omega) (fun z => ⟨k, q, ⟨⟨hk, rfl⟩, hq, rfl⟩, fun σ4 e => by subst e; rw [nI_1]; exact hw⟩))
  exact st 0 _ (by omega) (st 1 _ (by omega) (st 2 _ (by omega) (st 3 _ (by omega) (st 4 _ (by omega) (e25 _ _ _ (pk_le 5 5 (fun _ => h _ _ ⟨rfl, rfl⟩) (fun z => by omega)))))))
-- ==== X2_addThing
def sp_X2_addThing : sv_P := fun av σ K => match av with
  | [.inr (.inr (2, 0)), .inl size] => ∃ q : Nat, (q < 5 ∧ sv_gA σ 2 0 1 = nI q) ∧ (∀ v : Int32, ∀ σ2 : sv_S, v = nI q ∧ σ2 = sv_sA (sv_sA (sv_sA σ 2 0 1 (nI (q + 1))) 23 0 q size) 2 0 2 (sv_gA σ 2 0 2 + 1) → K (some (.inl v)) σ2)
  | _ => False
def tb_X2_addThing : List (Nat × (Instr × Nat)) := [(0, (.aload_n 0, 1)), (1, (.getfield 40, 3)), (4, (.istore_n 2, 1)), (5, (.aload_n 0, 1)), (6, (.dup, 1)), (7, (.getfield 40, 3)), (10, (.iconst 1, 1)), (11, (.iadd, 1)), (12, (.putfield 40, 3)), (15, (.aload_n 0, 1)), (16, (.iload_n 2, 1)), (17, (.iload_n 1, 1)), (18, (.invokevirtual 54, 3)), (21, (.iload_n 2, 1)), (22, (.ireturn, 1))]
set_option maxRecDepth 100000 in
theorem tbk_X2_addThing : sv_tbok cX2_addThing tb_X2_addThing = true := by decide +kernel
def cal_X2_addThing : List (Nat × (Nat × Nat × sv_P)) := [(54, (3, 2, sp_X2_setSize))]
def T_X2_addThing : sv_T := (flX2, sfX2, kcX2, klX2, cal_X2_addThing)
set_option maxRecDepth 100000 in
theorem Tok_X2_addThing (l : Launch) : sv_Tok l RX2 sv_all 1 22 T_X2_addThing := ⟨flokX2, sfokX2, kcokX2, klokX2, List.forall_mem_cons.mpr ⟨⟨fun _ => sv_COv_of (c_X2_setSize l) sv_clok_all (sv_mem 276 (by decide +kernel) rfl) kw_X2_setSize.1 kw_X2_setSize.2.1 kw_X2_setSize.2.2.1 kw_X2_setSize.2.2.2 kd_X2_setSize rfl (by decide) (by decide +kernel) rfl (by decide), fun h => absurd h (by decide)⟩, fun _ h => absurd h List.not_mem_nil⟩⟩
theorem kw_X2_addThing : Cond.instanceMethod yX2_addThing ∈ sv_tb ∧ Cond.selects yX2_addThing.cls yX2_addThing yX2_addThing ∈ sv_tb ∧ Cond.initialized yX2_addThing.cls ∈ sv_tb ∧ Cond.code yX2_addThing cX2_addThing 3 (some .int) ∈ sv_tb := ⟨sv_mem 273 (by decide +kernel) rfl, sv_mem 274 (by decide +kernel) rfl, sv_mem 52 (by decide +kernel) rfl, sv_mem 275 (by decide +kernel) rfl⟩
theorem kd_X2_addThing : yX2_addThing.cls ≠ "java/lang/invoke/MethodHandle" ∧ yX2_addThing.cls ≠ "java/lang/invoke/VarHandle" ∧ (parseMethodDescriptor yX2_addThing.desc).map (fun d => d.parameters.length) = some 1 := by decide +kernel
def F_X2_addThing_0 (Wk : sv_K) (Kr : Option sv_AV → sv_S → Prop) (size : Int32) (σ : sv_S) : Prop := (∃ k1 : Nat, (k1 < 5 ∧ (sv_gA σ 2 0 1) = nI k1) ∧ (∀ σ3 : sv_S, σ3 = sv_sA (sv_sA (sv_sA σ 2 0 1 ((sv_gA σ 2 0 1) + (1 : Int32))) 23 0 k1 size) 2 0 2 (sv_gA (sv_sA σ 2 0 1 ((sv_gA σ 2 0 1) + (1 : Int32))) 2 0 2 + 1) → Kr (some (.inl (sv_gA σ 2 0 1))) σ3))
set_option maxRecDepth 100000 in
theorem bk_X2_addThing_0 (Wk : sv_K) (Kr : Option sv_AV → sv_S → Prop) (size : Int32) (σ : sv_S) (h : F_X2_addThing_0 Wk Kr size σ) : sv_vc tb_X2_addThing T_X2_addThing sv_all (some .int) Kr [] Wk 500 0 [some (.inr (.inr (2, 0))), some (.inl size), none] [] σ := h
set_option maxRecDepth 100000 in
theorem m_X2_addThing (l : Launch) (hb : ∀ (Wk : sv_K) (Kr : Option sv_AV → sv_S → Prop), (∀ (size : Int32) (σ : sv_S), F_X2_addThing_0 Wk Kr size σ → Wk 0 [some (.inr (.inr (2, 0))), some (.inl size), none] [] σ) → (∀ (size : Int32) (σ : sv_S), (∃ q : Nat, (q < 5 ∧ sv_gA σ 2 0 1 = nI q) ∧ (∀ v : Int32, ∀ σ2 : sv_S, v = nI q ∧ σ2 = sv_sA (sv_sA (sv_sA σ 2 0 1 (nI (q + 1))) 23 0 q size) 2 0 2 (sv_gA σ 2 0 2 + 1) → Kr (some (.inl v)) σ2)) → Wk 0 [some (.inr (.inr (2, 0))), some (.inl size), none] [] σ)) : sv_C l yX2_addThing cX2_addThing 3 (some .int) sv_all 1 22 sp_X2_addThing := by
  refine sv_meth sv_clok_all tb_X2_addThing T_X2_addThing (by decide) tbk_X2_addThing (Tok_X2_addThing l) ?_
  intro Wk Kr hc av σ hsp
  have hB := hb Wk Kr (fun size σ h => hc [] 500 0 _ _ _ (bk_X2_addThing_0 Wk Kr size σ h))
  unfold sp_X2_addThing at hsp
  split at hsp
  · exact ⟨⟨by simp, by simp [sv_cat]⟩, hB _ _ hsp⟩
  · exact hsp.elim
set_option maxHeartbeats 4000000 in
set_option maxRecDepth 100000 in
theorem c_X2_addThing (l : Launch) : sv_C l yX2_addThing cX2_addThing 3 (some .int) sv_all 1 22 sp_X2_addThing := by
  refine m_X2_addThing l ?_
  intro Wk Kr e0 size σ ⟨q, ⟨hq, hp⟩, h⟩
  apply e0
  refine ⟨q, ⟨hq, hp⟩, fun σ3 e3 => ?_⟩
  rw [hp, nI_1] at e3
  rw [hp]
  exact h _ _ ⟨rfl, e3⟩
-- ==== X2_usesOf
def sp_X2_usesOf : sv_P := fun av σ K => match av with
  | [.inr (.inr (2, 0)), .inl t, .inl p] => ∃ d : dD, ∃ k : Nat, ∃ q : Nat, (RP d σ ∧ (k < 5 ∧ t = nI k) ∧ (q < dP d ∧ p = nI q)) ∧ (∀ v : Int32, v = nI (dr d k q + dw d k q) → K (some (.inl v)) σ)
  | _ => False
def tb_X2_usesOf : List (Nat × (Instr × Nat)) := [(0, (.aload_n 0, 1)), (1, (.getfield 23, 3)), (4, (.iload_n 1, 1)), (5, (.aaload, 1)), (6, (.iload_n 2, 1)), (7, (.iaload, 1)), (8, (.aload_n 0, 1)), (9, (.getfield 26, 3)), (12, (.iload_n 1, 1)), (13, (.aaload, 1)), (14, (.iload_n 2, 1)), (15, (.iaload, 1)), (16, (.iadd, 1)), (17, (.ireturn, 1))]
set_option maxRecDepth 100000 in
theorem tbk_X2_usesOf : sv_tbok cX2_usesOf tb_X2_usesOf = true := by decide +kernel
def cal_X2_usesOf : List (Nat × (Nat × Nat × sv_P)) := []
def T_X2_usesOf : sv_T := (flX2, sfX2, kcX2, klX2, cal_X2_usesOf)
set_option maxRecDepth 100000 in
theorem Tok_X2_usesOf (l : Launch) : sv_Tok l RX2 sv_all 0 0 T_X2_usesOf := ⟨flokX2, sfokX2, kcokX2, klokX2, fun _ h => absurd h List.not_mem_nil⟩
theorem kw_X2_usesOf : Cond.instanceMethod yX2_usesOf ∈ sv_tb ∧ Cond.selects yX2_usesOf.cls yX2_usesOf yX2_usesOf ∈ sv_tb ∧ Cond.initialized yX2_usesOf.cls ∈ sv_tb ∧ Cond.code yX2_usesOf cX2_usesOf 3 (some .int) ∈ sv_tb := ⟨sv_mem 289 (by decide +kernel) rfl, sv_mem 290 (by decide +kernel) rfl, sv_mem 52 (by decide +kernel) rfl, sv_mem 291 (by decide +kernel) rfl⟩
theorem kd_X2_usesOf : yX2_usesOf.cls ≠ "java/lang/invoke/MethodHandle" ∧ yX2_usesOf.cls ≠ "java/lang/invoke/VarHandle" ∧ (parseMethodDescriptor yX2_usesOf.desc).map (fun d => d.parameters.length) = some 2 := by decide +kernel
def F_X2_usesOf_0 (Wk : sv_K) (Kr : Option sv_AV → sv_S → Prop) (t : Int32) (p : Int32) (σ : sv_S) : Prop := (vp_in t 5 ∧ (vp_in p 10 ∧ (vp_in t 5 ∧ (vp_in p 10 ∧ Kr (some (.inl ((sv_gA σ 25 t.toNatClampNeg p.toNatClampNeg) + (sv_gA σ 27 t.toNatClampNeg p.toNatClampNeg)))) σ))))
set_option maxRecDepth 100000 in
theorem bk_X2_usesOf_0 (Wk : sv_K) (Kr : Option sv_AV → sv_S → Prop) (t : Int32) (p : Int32) (σ : sv_S) (h : F_X2_usesOf_0 Wk Kr t p σ) : sv_vc tb_X2_usesOf T_X2_usesOf sv_all (some .int) Kr [] Wk 500 0 [some (.inr (.inr (2, 0))), some (.inl t), some (.inl p)] [] σ := h
set_option maxRecDepth 100000 in
theorem m_X2_usesOf (l : Launch) (hb : ∀ (Wk : sv_K) (Kr : Option sv_AV → sv_S → Prop), (∀ (t : Int32) (p : Int32) (σ : sv_S), F_X2_usesOf_0 Wk Kr t p σ → Wk 0 [some (.inr (.inr (2, 0))), some (.inl t), some (.inl p)] [] σ) → (∀ (t : Int32) (p : Int32) (σ : sv_S), (∃ d : dD, ∃ k : Nat, ∃ q : Nat, (RP d σ ∧ (k < 5 ∧ t = nI k) ∧ (q < dP d ∧ p = nI q)) ∧ (∀ v : Int32, v = nI (dr d k q + dw d k q) → Kr (some (.inl v)) σ)) → Wk 0 [some (.inr (.inr (2, 0))), some (.inl t), some (.inl p)] [] σ)) : sv_C l yX2_usesOf cX2_usesOf 3 (some .int) sv_all 0 0 sp_X2_usesOf := by
  refine sv_meth sv_clok_all tb_X2_usesOf T_X2_usesOf (by decide) tbk_X2_usesOf (Tok_X2_usesOf l) ?_
  intro Wk Kr hc av σ hsp
  have hB := hb Wk Kr (fun t p σ h => hc [] 500 0 _ _ _ (bk_X2_usesOf_0 Wk Kr t p σ h))
  unfold sp_X2_usesOf at hsp
  split at hsp
  · exact ⟨⟨by simp, by simp [sv_cat]⟩, hB _ _ _ hsp⟩
  · exact hsp.elim
set_option maxHeartbeats 4000000 in
set_option maxRecDepth 100000 in
theorem c_X2_usesOf (l : Launch) : sv_C l yX2_usesOf cX2_usesOf 3 (some .int) sv_all 0 0 sp_X2_usesOf := by
  refine m_X2_usesOf l ?_
  intro Wk Kr e0 t p σ ⟨d, k, q, ⟨hR, ⟨hk, ht⟩, hq, hp⟩, h⟩
  subst hp
  subst ht
  apply e0
  have hb := hR.1.1
  have hc : (nI q).toNatClampNeg = q := nI_clamp (by omega)
  have hc2 : (nI k).toNatClampNeg = k := nI_clamp (by omega)
  obtain ⟨h0, h1, h2, h3, h4, h5, h6, h7, h8⟩ := hR
  exact ⟨pk_in k 5 hk, pk_in q 10 (by omega), pk_in k 5 hk, pk_in q 10 (by omega), h _ (by rw [hc, hc2, h6 k q hk hq, h7 k q hk hq, nI_add])⟩
-- ==== X2_countSets
def sp_X2_countSets : sv_P := fun av σ K => match av with
  | [.inr (.inr (2, 0))] => ∃ d : dD, (RP d σ) ∧ (∀ v : Int32, v = nI (2 ^ dT d) → K (some (.inl v)) σ)
  | _ => False
def tb_X2_countSets : List (Nat × (Instr × Nat)) := [(0, (.iconst 1, 1)), (1, (.aload_n 0, 1)), (2, (.getfield 40, 3)), (5, (.ishl, 1)), (6, (.ireturn, 1))]
set_option maxRecDepth 100000 in
theorem tbk_X2_countSets : sv_tbok cX2_countSets tb_X2_countSets = true := by decide +kernel
def cal_X2_countSets : List (Nat × (Nat × Nat × sv_P)) := []
def T_X2_countSets : sv_T := (flX2, sfX2, kcX2, klX2, cal_X2_countSets)
set_option maxRecDepth 100000 in
theorem Tok_X2_countSets (l : Launch) : sv_Tok l RX2 sv_all 0 0 T_X2_countSets := ⟨flokX2, sfokX2, kcokX2, klokX2, fun _ h => absurd h List.not_mem_nil⟩
theorem kw_X2_countSets : Cond.instanceMethod yX2_countSets ∈ sv_tb ∧ Cond.selects yX2_countSets.cls yX2_countSets yX2_countSets ∈ sv_tb ∧ Cond.initialized yX2_countSets.cls ∈ sv_tb ∧ Cond.code yX2_countSets cX2_countSets 1 (some .int) ∈ sv_tb := ⟨sv_mem 326 (by decide +kernel) rfl, sv_mem 327 (by decide +kernel) rfl, sv_mem 52 (by decide +kernel) rfl, sv_mem 328 (by decide +kernel) rfl⟩
theorem kd_X2_countSets : yX2_countSets.cls ≠ "java/lang/invoke/MethodHandle" ∧ yX2_countSets.cls ≠ "java/lang/invoke/VarHandle" ∧ (parseMethodDescriptor yX2_countSets.desc).map (fun d => d.parameters.length) = some 0 := by decide +kernel
def F_X2_countSets_0 (Wk : sv_K) (Kr : Option sv_AV → sv_S → Prop)  (σ : sv_S) : Prop := Kr (some (.inl ((1 : Int32) <<< ((sv_gA σ 2 0 1) &&& 31)))) σ
set_option maxRecDepth 100000 in
theorem bk_X2_countSets_0 (Wk : sv_K) (Kr : Option sv_AV → sv_S → Prop)  (σ : sv_S) (h : F_X2_countSets_0 Wk Kr  σ) : sv_vc tb_X2_countSets T_X2_countSets sv_all (some .int) Kr [] Wk 500 0 [some (.inr (.inr (2, 0)))] [] σ := h
set_option maxRecDepth 100000 in
theorem m_X2_countSets (l : Launch) (hb : ∀ (Wk : sv_K) (Kr : Option sv_AV → sv_S → Prop), (∀  (σ : sv_S), F_X2_countSets_0 Wk Kr  σ → Wk 0 [some (.inr (.inr (2, 0)))] [] σ) → (∀  (σ : sv_S), (∃ d : dD, (RP d σ) ∧ (∀ v : Int32, v = nI (2 ^ dT d) → Kr (some (.inl v)) σ)) → Wk 0 [some (.inr (.inr (2, 0)))] [] σ)) : sv_C l yX2_countSets cX2_countSets 1 (some .int) sv_all 0 0 sp_X2_countSets := by
  refine sv_meth sv_clok_all tb_X2_countSets T_X2_countSets (by decide) tbk_X2_countSets (Tok_X2_countSets l) ?_
  intro Wk Kr hc av σ hsp
  have hB := hb Wk Kr (fun  σ h => hc [] 500 0 _ _ _ (bk_X2_countSets_0 Wk Kr  σ h))
  unfold sp_X2_countSets at hsp
  split at hsp
  · exact ⟨⟨by simp, by simp [sv_cat]⟩, hB  _ hsp⟩
  · exact hsp.elim
set_option maxHeartbeats 4000000 in
set_option maxRecDepth 100000 in
theorem c_X2_countSets (l : Launch) : sv_C l yX2_countSets cX2_countSets 1 (some .int) sv_all 0 0 sp_X2_countSets := by
  refine m_X2_countSets l ?_
  intro Wk Kr e0 σ ⟨d, hR, h⟩
  apply e0
  refine h _ ?_
  rw [hR.2.2.1]
  exact (by decide +kernel : ∀ n, n < 6 → (1 : Int32) <<< (nI n &&& 31) = nI (2 ^ n)) _ (by have := hR.1.2.1; omega)
-- ==== X2_countOrders
def sp_X2_countOrders : sv_P := fun av σ K => match av with
  | [.inr (.inr (2, 0))] => ∃ d : dD, (RP d σ) ∧ (∀ v : Int32, v = nI (fct (dT d)) → K (some (.inl v)) σ)
  | _ => False
def tb_X2_countOrders : List (Nat × (Instr × Nat)) := [(0, (.getstatic 58, 3)), (3, (.aload_n 0, 1)), (4, (.getfield 40, 3)), (7, (.iaload, 1)), (8, (.ireturn, 1))]
set_option maxRecDepth 100000 in
theorem tbk_X2_countOrders : sv_tbok cX2_countOrders tb_X2_countOrders = true := by decide +kernel
def cal_X2_countOrders : List (Nat × (Nat × Nat × sv_P)) := []
def T_X2_countOrders : sv_T := (flX2, sfX2, kcX2, klX2, cal_X2_countOrders)
set_option maxRecDepth 100000 in
theorem Tok_X2_countOrders (l : Launch) : sv_Tok l RX2 sv_all 0 0 T_X2_countOrders := ⟨flokX2, sfokX2, kcokX2, klokX2, fun _ h => absurd h List.not_mem_nil⟩
theorem kw_X2_countOrders : Cond.instanceMethod yX2_countOrders ∈ sv_tb ∧ Cond.selects yX2_countOrders.cls yX2_countOrders yX2_countOrders ∈ sv_tb ∧ Cond.initialized yX2_countOrders.cls ∈ sv_tb ∧ Cond.code yX2_countOrders cX2_countOrders 1 (some .int) ∈ sv_tb := ⟨sv_mem 483 (by decide +kernel) rfl, sv_mem 484 (by decide +kernel) rfl, sv_mem 52 (by decide +kernel) rfl, sv_mem 485 (by decide +kernel) rfl⟩
theorem kd_X2_countOrders : yX2_countOrders.cls ≠ "java/lang/invoke/MethodHandle" ∧ yX2_countOrders.cls ≠ "java/lang/invoke/VarHandle" ∧ (parseMethodDescriptor yX2_countOrders.desc).map (fun d => d.parameters.length) = some 0 := by decide +kernel
def F_X2_countOrders_0 (Wk : sv_K) (Kr : Option sv_AV → sv_S → Prop)  (σ : sv_S) : Prop := (vp_in (sv_gA σ 2 0 1) 6 ∧ Kr (some (.inl (sv_tab 43 (sv_gA σ 2 0 1).toNatClampNeg))) σ)
set_option maxRecDepth 100000 in
theorem bk_X2_countOrders_0 (Wk : sv_K) (Kr : Option sv_AV → sv_S → Prop)  (σ : sv_S) (h : F_X2_countOrders_0 Wk Kr  σ) : sv_vc tb_X2_countOrders T_X2_countOrders sv_all (some .int) Kr [] Wk 500 0 [some (.inr (.inr (2, 0)))] [] σ := h
set_option maxRecDepth 100000 in
theorem m_X2_countOrders (l : Launch) (hb : ∀ (Wk : sv_K) (Kr : Option sv_AV → sv_S → Prop), (∀  (σ : sv_S), F_X2_countOrders_0 Wk Kr  σ → Wk 0 [some (.inr (.inr (2, 0)))] [] σ) → (∀  (σ : sv_S), (∃ d : dD, (RP d σ) ∧ (∀ v : Int32, v = nI (fct (dT d)) → Kr (some (.inl v)) σ)) → Wk 0 [some (.inr (.inr (2, 0)))] [] σ)) : sv_C l yX2_countOrders cX2_countOrders 1 (some .int) sv_all 0 0 sp_X2_countOrders := by
  refine sv_meth sv_clok_all tb_X2_countOrders T_X2_countOrders (by decide) tbk_X2_countOrders (Tok_X2_countOrders l) ?_
  intro Wk Kr hc av σ hsp
  have hB := hb Wk Kr (fun  σ h => hc [] 500 0 _ _ _ (bk_X2_countOrders_0 Wk Kr  σ h))
  unfold sp_X2_countOrders at hsp
  split at hsp
  · exact ⟨⟨by simp, by simp [sv_cat]⟩, hB  _ hsp⟩
  · exact hsp.elim
set_option maxHeartbeats 4000000 in
set_option maxRecDepth 100000 in
theorem c_X2_countOrders (l : Launch) : sv_C l yX2_countOrders cX2_countOrders 1 (some .int) sv_all 0 0 sp_X2_countOrders := by
  refine m_X2_countOrders l ?_
  intro Wk Kr e0 σ ⟨d, hR, h⟩
  have hT : dT d < 6 := by have := hR.1.2.1; omega
  apply e0
  unfold F_X2_countOrders_0
  rw [hR.2.2.1, nI_clamp (by omega)]
  exact ⟨pk_in _ 6 hT, h _ ((by decide +kernel : ∀ n, n < 6 → sv_tab 43 n = nI (fct n)) _ hT)⟩
-- ==== X2_cellsOf
def sp_X2_cellsOf : sv_P := fun av σ K => match av with
  | [.inr (.inr (2, 0)), .inl set] => ∃ d : dD, ∃ c : Nat, (RP d σ ∧ (c < 32 ∧ set = nI c)) ∧ (∀ v : Int32, v = nI (cells d c) → K (some (.inl v)) σ)
  | _ => False
def tb_X2_cellsOf : List (Nat × (Instr × Nat)) := [(0, (.iconst 0, 1)), (1, (.istore_n 2, 1)), (2, (.iconst 0, 1)), (3, (.istore_n 3, 1)), (4, (.iload_n 3, 1)), (5, (.aload_n 0, 1)), (6, (.getfield 40, 3)), (9, (.if_icmp .ge 26, 3)), (12, (.iload_n 1, 1)), (13, (.iload_n 3, 1)), (14, (.invokestatic 61, 3)), (17, (.ifCond .eq 12, 3)), (20, (.iload_n 2, 1)), (21, (.aload_n 0, 1)), (22, (.getfield 20, 3)), (25, (.iload_n 3, 1)), (26, (.iaload, 1)), (27, (.iadd, 1)), (28, (.istore_n 2, 1)), (29, (.iinc 3 1, 3)), (32, (.goto (-28), 3)), (35, (.iload_n 2, 1)), (36, (.ireturn, 1))]
set_option maxRecDepth 100000 in
theorem tbk_X2_cellsOf : sv_tbok cX2_cellsOf tb_X2_cellsOf = true := by decide +kernel
def cal_X2_cellsOf : List (Nat × (Nat × Nat × sv_P)) := [(61, (2, 90, sp_X4_holds))]
def T_X2_cellsOf : sv_T := (flX2, sfX2, kcX2, klX2, cal_X2_cellsOf)
set_option maxRecDepth 100000 in
theorem Tok_X2_cellsOf (l : Launch) : sv_Tok l RX2 sv_all 1 21 T_X2_cellsOf := ⟨flokX2, sfokX2, kcokX2, klokX2, List.forall_mem_cons.mpr ⟨⟨fun h => absurd h (by decide), fun _ => sv_COs_gen (c_X4_holds l) (Or.inr ⟨_, List.mem_of_getElem? (i := 3) rfl⟩) kw_X4_holds.1 kw_X4_holds.2.1 kw_X4_holds.2.2 kd_X4_holds rfl (by decide) (by decide +kernel)⟩, fun _ h => absurd h List.not_mem_nil⟩⟩
theorem kw_X2_cellsOf : Cond.instanceMethod yX2_cellsOf ∈ sv_tb ∧ Cond.selects yX2_cellsOf.cls yX2_cellsOf yX2_cellsOf ∈ sv_tb ∧ Cond.initialized yX2_cellsOf.cls ∈ sv_tb ∧ Cond.code yX2_cellsOf cX2_cellsOf 4 (some .int) ∈ sv_tb := ⟨sv_mem 352 (by decide +kernel) rfl, sv_mem 353 (by decide +kernel) rfl, sv_mem 52 (by decide +kernel) rfl, sv_mem 354 (by decide +kernel) rfl⟩
theorem kd_X2_cellsOf : yX2_cellsOf.cls ≠ "java/lang/invoke/MethodHandle" ∧ yX2_cellsOf.cls ≠ "java/lang/invoke/VarHandle" ∧ (parseMethodDescriptor yX2_cellsOf.desc).map (fun d => d.parameters.length) = some 1 := by decide +kernel
def F_X2_cellsOf_0 (Wk : sv_K) (Kr : Option sv_AV → sv_S → Prop) (set : Int32) (σ : sv_S) : Prop := Wk 4 [some (.inr (.inr (2, 0))), some (.inl set), some (.inl (0 : Int32)), some (.inl (0 : Int32))] [] σ
set_option maxRecDepth 100000 in
theorem bk_X2_cellsOf_0 (Wk : sv_K) (Kr : Option sv_AV → sv_S → Prop) (set : Int32) (σ : sv_S) (h : F_X2_cellsOf_0 Wk Kr set σ) : sv_vc tb_X2_cellsOf T_X2_cellsOf sv_all (some .int) Kr [(4, [true, true, true, true])] Wk 500 0 [some (.inr (.inr (2, 0))), some (.inl set), none, none] [] σ := h
def F_X2_cellsOf_4 (Wk : sv_K) (Kr : Option sv_AV → sv_S → Prop) (x1 : Int32) (x2 : Int32) (x3 : Int32) (σ : sv_S) : Prop := (((sv_gA σ 2 0 1) ≤ x3 → Kr (some (.inl x2)) σ) ∧ (¬ (sv_gA σ 2 0 1) ≤ x3 → ((((x1 >>> (x3 &&& 31)) &&& 1 = 1 → (vp_in x3 5 ∧ Wk 4 [some (.inr (.inr (2, 0))), some (.inl x1), some (.inl (x2 + (sv_gA σ 23 0 x3.toNatClampNeg))), some (.inl (x3 + (1 : Int32)))] [] σ)) ∧ (¬ (x1 >>> (x3 &&& 31)) &&& 1 = 1 → Wk 4 [some (.inr (.inr (2, 0))), some (.inl x1), some (.inl x2), some (.inl (x3 + (1 : Int32)))] [] σ)))))
set_option maxRecDepth 100000 in
theorem bk_X2_cellsOf_4 (Wk : sv_K) (Kr : Option sv_AV → sv_S → Prop) (x1 : Int32) (x2 : Int32) (x3 : Int32) (σ : sv_S) (h : F_X2_cellsOf_4 Wk Kr x1 x2 x3 σ) : sv_vc tb_X2_cellsOf T_X2_cellsOf sv_all (some .int) Kr [(4, [true, true, true, true])] Wk 500 4 [some (.inr (.inr (2, 0))), some (.inl x1), some (.inl x2), some (.inl x3)] [] σ := ⟨fun z2 => ((h).1 z2), fun z2 => (match ((h).2 z2) with | ⟨z1a, z1b⟩ => ⟨fun z1y => br_f (by decide) ((z1a z1y)), fun z1y => br_t (by decide) ((z1b z1y))⟩)⟩
set_option maxRecDepth 100000 in
theorem m_X2_cellsOf (l : Launch) (hb : ∀ (Wk : sv_K) (Kr : Option sv_AV → sv_S → Prop), (∀ (set : Int32) (σ : sv_S), F_X2_cellsOf_0 Wk Kr set σ → Wk 0 [some (.inr (.inr (2, 0))), some (.inl set), none, none] [] σ) → (∀ (x1 : Int32) (x2 : Int32) (x3 : Int32) (σ : sv_S), F_X2_cellsOf_4 Wk Kr x1 x2 x3 σ → Wk 4 [some (.inr (.inr (2, 0))), some (.inl x1), some (.inl x2), some (.inl x3)] [] σ) → (∀ (set : Int32) (σ : sv_S), (∃ d : dD, ∃ c : Nat, (RP d σ ∧ (c < 32 ∧ set = nI c)) ∧ (∀ v : Int32, v = nI (cells d c) → Kr (some (.inl v)) σ)) → Wk 0 [some (.inr (.inr (2, 0))), some (.inl set), none, none] [] σ)) : sv_C l yX2_cellsOf cX2_cellsOf 4 (some .int) sv_all 1 21 sp_X2_cellsOf := by
  refine sv_meth sv_clok_all tb_X2_cellsOf T_X2_cellsOf (by decide) tbk_X2_cellsOf (Tok_X2_cellsOf l) ?_
  intro Wk Kr hc av σ hsp
  have hB := hb Wk Kr (fun set σ h => hc [(4, [true, true, true, true])] 500 0 _ _ _ (bk_X2_cellsOf_0 Wk Kr set σ h)) (fun x1 x2 x3 σ h => hc [(4, [true, true, true, true])] 500 4 _ _ _ (bk_X2_cellsOf_4 Wk Kr x1 x2 x3 σ h))
  unfold sp_X2_cellsOf at hsp
  split at hsp
  · exact ⟨⟨by simp, by simp [sv_cat]⟩, hB _ _ hsp⟩
  · exact hsp.elim
set_option maxHeartbeats 4000000 in
set_option maxRecDepth 100000 in
theorem c_X2_cellsOf (l : Launch) : sv_C l yX2_cellsOf cX2_cellsOf 4 (some .int) sv_all 1 21 sp_X2_cellsOf := by
  refine m_X2_cellsOf l ?_
  intro Wk Kr e0 e4 set σ ⟨d, c, ⟨hR, hc, hset⟩, h⟩
  subst hset
  obtain ⟨h0, h1, h2, h3, h4, h5, h6, h7, h8⟩ := hR
  have hT := h0.2.1
  have key : ∀ m k, k + m = dT d → Wk 4 [some (.inr (.inr (2, 0))), some (.inl (nI c)), some (.inl (nI (sm (fun t => if c.testBit t then dZ d t else 0) k))), some (.inl (nI k))] [] σ := by
    intro m
    induction m with
    | zero =>
      intro k hk
      apply e4
      unfold F_X2_cellsOf_4
      rw [h2]
      exact pk_le (dT d) k (fun z => h _ (by rw [show k = dT d by omega]; rfl)) (fun z => by omega)
    | succ m ih =>
      intro k hk
      apply e4
      unfold F_X2_cellsOf_4
      rw [h2]
      refine pk_le (dT d) k (fun z => by omega) (fun z => ?_)
      have := ih (k + 1) (by omega)
      refine ⟨fun y => ⟨pk_in k 5 (by omega), ?_⟩, fun y => ?_⟩
      · rw [bit_sh c hc k (by omega)] at y
        rw [nI_1, nI_clamp (by omega), h5 k (by omega), nI_add]
        have e : sm (fun t => if c.testBit t then dZ d t else 0) (k + 1) = sm (fun t => if c.testBit t then dZ d t else 0) k + dZ d k := by
          show _ + (if c.testBit k then dZ d k else 0) = _
          rw [if_pos y]
        rw [← e]
        exact this
      · rw [bit_sh c hc k (by omega)] at y
        rw [nI_1]
        have e : sm (fun t => if c.testBit t then dZ d t else 0) (k + 1) = sm (fun t => if c.testBit t then dZ d t else 0) k := by
          show _ + (if c.testBit k then dZ d k else 0) = _
          rw [if_neg y, Nat.add_zero]
        rw [← e]
        exact this
  apply e0
  exact key (dT d) 0 (by omega)
-- ==== X2_carryOf
def sp_X2_carryOf : sv_P := fun av σ K => match av with
  | [.inr (.inr (2, 0)), .inl set] => ∃ d : dD, ∃ c : Nat, (RP d σ ∧ (c < 32 ∧ set = nI c)) ∧ (∀ v : Int32, v = nI (carry d c) → K (some (.inl v)) σ)
  | _ => False
def tb_X2_carryOf : List (Nat × (Instr × Nat)) := [(0, (.aload_n 0, 1)), (1, (.getfield 9, 3)), (4, (.iconst 3, 1)), (5, (.iaload, 1)), (6, (.aload_n 0, 1)), (7, (.iload_n 1, 1)), (8, (.invokevirtual 65, 3)), (11, (.imul, 1)), (12, (.ireturn, 1))]
set_option maxRecDepth 100000 in
theorem tbk_X2_carryOf : sv_tbok cX2_carryOf tb_X2_carryOf = true := by decide +kernel
def cal_X2_carryOf : List (Nat × (Nat × Nat × sv_P)) := [(65, (2, 2, sp_X2_cellsOf))]
def T_X2_carryOf : sv_T := (flX2, sfX2, kcX2, klX2, cal_X2_carryOf)
set_option maxRecDepth 100000 in
theorem Tok_X2_carryOf (l : Launch) : sv_Tok l RX2 sv_all 2 44 T_X2_carryOf := ⟨flokX2, sfokX2, kcokX2, klokX2, List.forall_mem_cons.mpr ⟨⟨fun _ => sv_COv_of (c_X2_cellsOf l) sv_clok_all (sv_mem 351 (by decide +kernel) rfl) kw_X2_cellsOf.1 kw_X2_cellsOf.2.1 kw_X2_cellsOf.2.2.1 kw_X2_cellsOf.2.2.2 kd_X2_cellsOf rfl (by decide) (by decide +kernel) rfl (by decide), fun h => absurd h (by decide)⟩, fun _ h => absurd h List.not_mem_nil⟩⟩
theorem kw_X2_carryOf : Cond.instanceMethod yX2_carryOf ∈ sv_tb ∧ Cond.selects yX2_carryOf.cls yX2_carryOf yX2_carryOf ∈ sv_tb ∧ Cond.initialized yX2_carryOf.cls ∈ sv_tb ∧ Cond.code yX2_carryOf cX2_carryOf 2 (some .int) ∈ sv_tb := ⟨sv_mem 348 (by decide +kernel) rfl, sv_mem 349 (by decide +kernel) rfl, sv_mem 52 (by decide +kernel) rfl, sv_mem 350 (by decide +kernel) rfl⟩
theorem kd_X2_carryOf : yX2_carryOf.cls ≠ "java/lang/invoke/MethodHandle" ∧ yX2_carryOf.cls ≠ "java/lang/invoke/VarHandle" ∧ (parseMethodDescriptor yX2_carryOf.desc).map (fun d => d.parameters.length) = some 1 := by decide +kernel
def F_X2_carryOf_0 (Wk : sv_K) (Kr : Option sv_AV → sv_S → Prop) (set : Int32) (σ : sv_S) : Prop := (∃ d1 : dD, ∃ c2 : Nat, (RP d1 σ ∧ (c2 < 32 ∧ set = nI c2)) ∧ (∀ v3 : Int32, v3 = nI (cells d1 c2) → Kr (some (.inl ((sv_gA σ 20 0 3) * v3))) σ))
set_option maxRecDepth 100000 in
theorem bk_X2_carryOf_0 (Wk : sv_K) (Kr : Option sv_AV → sv_S → Prop) (set : Int32) (σ : sv_S) (h : F_X2_carryOf_0 Wk Kr set σ) : sv_vc tb_X2_carryOf T_X2_carryOf sv_all (some .int) Kr [] Wk 500 0 [some (.inr (.inr (2, 0))), some (.inl set)] [] σ := ⟨sb_vin (by decide), h⟩
set_option maxRecDepth 100000 in
theorem m_X2_carryOf (l : Launch) (hb : ∀ (Wk : sv_K) (Kr : Option sv_AV → sv_S → Prop), (∀ (set : Int32) (σ : sv_S), F_X2_carryOf_0 Wk Kr set σ → Wk 0 [some (.inr (.inr (2, 0))), some (.inl set)] [] σ) → (∀ (set : Int32) (σ : sv_S), (∃ d : dD, ∃ c : Nat, (RP d σ ∧ (c < 32 ∧ set = nI c)) ∧ (∀ v : Int32, v = nI (carry d c) → Kr (some (.inl v)) σ)) → Wk 0 [some (.inr (.inr (2, 0))), some (.inl set)] [] σ)) : sv_C l yX2_carryOf cX2_carryOf 2 (some .int) sv_all 2 44 sp_X2_carryOf := by
  refine sv_meth sv_clok_all tb_X2_carryOf T_X2_carryOf (by decide) tbk_X2_carryOf (Tok_X2_carryOf l) ?_
  intro Wk Kr hc av σ hsp
  have hB := hb Wk Kr (fun set σ h => hc [] 500 0 _ _ _ (bk_X2_carryOf_0 Wk Kr set σ h))
  unfold sp_X2_carryOf at hsp
  split at hsp
  · exact ⟨⟨by simp, by simp [sv_cat]⟩, hB _ _ hsp⟩
  · exact hsp.elim
set_option maxHeartbeats 4000000 in
set_option maxRecDepth 100000 in
theorem c_X2_carryOf (l : Launch) : sv_C l yX2_carryOf cX2_carryOf 2 (some .int) sv_all 2 44 sp_X2_carryOf := by
  refine m_X2_carryOf l ?_
  intro Wk Kr e0 set σ ⟨d, c, ⟨hR, hc, hset⟩, h⟩
  apply e0
  refine ⟨d, c, ⟨hR, hc, hset⟩, fun v hv => h _ ?_⟩
  rw [hv, hR.2.2.2.1 3 (by omega), pk_mul]
  rfl
-- ==== X2_workOf
def sp_X2_workOf : sv_P := fun av σ K => match av with
  | [.inr (.inr (2, 0)), .inl p, .inl kind, .inl set] => ∃ d : dD, ∃ q : Nat, ∃ k : Nat, ∃ c : Nat, (RP d σ ∧ (q < dP d ∧ p = nI q) ∧ (k < 2 ∧ kind = nI k) ∧ (c < 32 ∧ set = nI c)) ∧ (∀ v : Int32, v = nI (work d q k c) → K (some (.inl v)) σ)
  | _ => False
def tb_X2_workOf : List (Nat × (Instr × Nat)) := [(0, (.iconst 0, 1)), (1, (.istore 4, 2)), (3, (.iconst 0, 1)), (4, (.istore 5, 2)), (6, (.iload 5, 2)), (8, (.aload_n 0, 1)), (9, (.getfield 40, 3)), (12, (.if_icmp .ge 41, 3)), (15, (.iload 4, 2)), (17, (.aload_n 0, 1)), (18, (.iload 5, 2)), (20, (.iload_n 1, 1)), (21, (.invokevirtual 69, 3)), (24, (.aload_n 0, 1)), (25, (.getfield 9, 3)), (28, (.iload_n 3, 1)), (29, (.iload 5, 2)), (31, (.invokestatic 61, 3)), (34, (.ifCond .eq 7, 3)), (37, (.iconst 2, 1)), (38, (.goto 4, 3)), (41, (.iconst 1, 1)), (42, (.iaload, 1)), (43, (.imul, 1)), (44, (.iadd, 1)), (45, (.istore 4, 2)), (47, (.iinc 5 1, 3)), (50, (.goto (-44), 3)), (53, (.iload 4, 2)), (55, (.aload_n 0, 1)), (56, (.getfield 17, 3)), (59, (.iload_n 2, 1)), (60, (.aaload, 1)), (61, (.iload_n 1, 1)), (62, (.iaload, 1)), (63, (.imul, 1)), (64, (.ireturn, 1))]
set_option maxRecDepth 100000 in
theorem tbk_X2_workOf : sv_tbok cX2_workOf tb_X2_workOf = true := by decide +kernel
def cal_X2_workOf : List (Nat × (Nat × Nat × sv_P)) := [(69, (3, 2, sp_X2_usesOf)), (61, (2, 90, sp_X4_holds))]
def T_X2_workOf : sv_T := (flX2, sfX2, kcX2, klX2, cal_X2_workOf)
set_option maxRecDepth 100000 in
theorem Tok_X2_workOf (l : Launch) : sv_Tok l RX2 sv_all 1 22 T_X2_workOf := ⟨flokX2, sfokX2, kcokX2, klokX2, List.forall_mem_cons.mpr ⟨⟨fun _ => sv_COv_of (c_X2_usesOf l) sv_clok_all (sv_mem 360 (by decide +kernel) rfl) kw_X2_usesOf.1 kw_X2_usesOf.2.1 kw_X2_usesOf.2.2.1 kw_X2_usesOf.2.2.2 kd_X2_usesOf rfl (by decide) (by decide +kernel) rfl (by decide), fun h => absurd h (by decide)⟩, List.forall_mem_cons.mpr ⟨⟨fun h => absurd h (by decide), fun _ => sv_COs_gen (c_X4_holds l) (Or.inr ⟨_, List.mem_of_getElem? (i := 3) rfl⟩) kw_X4_holds.1 kw_X4_holds.2.1 kw_X4_holds.2.2 kd_X4_holds rfl (by decide) (by decide +kernel)⟩, fun _ h => absurd h List.not_mem_nil⟩⟩⟩
theorem kw_X2_workOf : Cond.instanceMethod yX2_workOf ∈ sv_tb ∧ Cond.selects yX2_workOf.cls yX2_workOf yX2_workOf ∈ sv_tb ∧ Cond.initialized yX2_workOf.cls ∈ sv_tb ∧ Cond.code yX2_workOf cX2_workOf 6 (some .int) ∈ sv_tb := ⟨sv_mem 357 (by decide +kernel) rfl, sv_mem 358 (by decide +kernel) rfl, sv_mem 52 (by decide +kernel) rfl, sv_mem 359 (by decide +kernel) rfl⟩
theorem kd_X2_workOf : yX2_workOf.cls ≠ "java/lang/invoke/MethodHandle" ∧ yX2_workOf.cls ≠ "java/lang/invoke/VarHandle" ∧ (parseMethodDescriptor yX2_workOf.desc).map (fun d => d.parameters.length) = some 3 := by decide +kernel
def F_X2_workOf_0 (Wk : sv_K) (Kr : Option sv_AV → sv_S → Prop) (p : Int32) (kind : Int32) (set : Int32) (σ : sv_S) : Prop := Wk 6 [some (.inr (.inr (2, 0))), some (.inl p), some (.inl kind), some (.inl set), some (.inl (0 : Int32)), some (.inl (0 : Int32))] [] σ
set_option maxRecDepth 100000 in
theorem bk_X2_workOf_0 (Wk : sv_K) (Kr : Option sv_AV → sv_S → Prop) (p : Int32) (kind : Int32) (set : Int32) (σ : sv_S) (h : F_X2_workOf_0 Wk Kr p kind set σ) : sv_vc tb_X2_workOf T_X2_workOf sv_all (some .int) Kr [(6, [true, true, true, true, true, true])] Wk 500 0 [some (.inr (.inr (2, 0))), some (.inl p), some (.inl kind), some (.inl set), none, none] [] σ := h
def F_X2_workOf_6 (Wk : sv_K) (Kr : Option sv_AV → sv_S → Prop) (x1 : Int32) (x2 : Int32) (x3 : Int32) (x4 : Int32) (x5 : Int32) (σ : sv_S) : Prop := (((sv_gA σ 2 0 1) ≤ x5 → (vp_in x2 2 ∧ (vp_in x1 10 ∧ Kr (some (.inl (x4 * (sv_gA σ 22 x2.toNatClampNeg x1.toNatClampNeg)))) σ))) ∧ (¬ (sv_gA σ 2 0 1) ≤ x5 → (∃ d1 : dD, ∃ k2 : Nat, ∃ q3 : Nat, (RP d1 σ ∧ (k2 < 5 ∧ x5 = nI k2) ∧ (q3 < dP d1 ∧ x1 = nI q3)) ∧ (∀ v4 : Int32, v4 = nI (dr d1 k2 q3 + dw d1 k2 q3) → ((((x3 >>> (x5 &&& 31)) &&& 1 = 1 → Wk 6 [some (.inr (.inr (2, 0))), some (.inl x1), some (.inl x2), some (.inl x3), some (.inl (x4 + (v4 * (sv_gA σ 20 0 2)))), some (.inl (x5 + (1 : Int32)))] [] σ) ∧ (¬ (x3 >>> (x5 &&& 31)) &&& 1 = 1 → Wk 6 [some (.inr (.inr (2, 0))), some (.inl x1), some (.inl x2), some (.inl x3), some (.inl (x4 + (v4 * (sv_gA σ 20 0 1)))), some (.inl (x5 + (1 : Int32)))] [] σ)))))))
set_option maxRecDepth 100000 in
theorem bk_X2_workOf_6 (Wk : sv_K) (Kr : Option sv_AV → sv_S → Prop) (x1 : Int32) (x2 : Int32) (x3 : Int32) (x4 : Int32) (x5 : Int32) (σ : sv_S) (h : F_X2_workOf_6 Wk Kr x1 x2 x3 x4 x5 σ) : sv_vc tb_X2_workOf T_X2_workOf sv_all (some .int) Kr [(6, [true, true, true, true, true, true])] Wk 500 6 [some (.inr (.inr (2, 0))), some (.inl x1), some (.inl x2), some (.inl x3), some (.inl x4), some (.inl x5)] [] σ := ⟨fun z7 => ((h).1 z7), fun z7 => (match ((h).2 z7) with | ⟨d1, k2, q3, z6p, z6k⟩ => ⟨d1, k2, q3, z6p, fun v4 z6y => (match (z6k v4 z6y) with | ⟨z5a, z5b⟩ => ⟨fun z5y => br_f (by decide) (⟨sb_vin (by decide), (z5a z5y)⟩), fun z5y => br_t (by decide) (⟨sb_vin (by decide), (z5b z5y)⟩)⟩)⟩)⟩
set_option maxRecDepth 100000 in
theorem m_X2_workOf (l : Launch) (hb : ∀ (Wk : sv_K) (Kr : Option sv_AV → sv_S → Prop), (∀ (p : Int32) (kind : Int32) (set : Int32) (σ : sv_S), F_X2_workOf_0 Wk Kr p kind set σ → Wk 0 [some (.inr (.inr (2, 0))), some (.inl p), some (.inl kind), some (.inl set), none, none] [] σ) → (∀ (x1 : Int32) (x2 : Int32) (x3 : Int32) (x4 : Int32) (x5 : Int32) (σ : sv_S), F_X2_workOf_6 Wk Kr x1 x2 x3 x4 x5 σ → Wk 6 [some (.inr (.inr (2, 0))), some (.inl x1), some (.inl x2), some (.inl x3), some (.inl x4), some (.inl x5)] [] σ) → (∀ (p : Int32) (kind : Int32) (set : Int32) (σ : sv_S), (∃ d : dD, ∃ q : Nat, ∃ k : Nat, ∃ c : Nat, (RP d σ ∧ (q < dP d ∧ p = nI q) ∧ (k < 2 ∧ kind = nI k) ∧ (c < 32 ∧ set = nI c)) ∧ (∀ v : Int32, v = nI (work d q k c) → Kr (some (.inl v)) σ)) → Wk 0 [some (.inr (.inr (2, 0))), some (.inl p), some (.inl kind), some (.inl set), none, none] [] σ)) : sv_C l yX2_workOf cX2_workOf 6 (some .int) sv_all 1 22 sp_X2_workOf := by
  refine sv_meth sv_clok_all tb_X2_workOf T_X2_workOf (by decide) tbk_X2_workOf (Tok_X2_workOf l) ?_
  intro Wk Kr hc av σ hsp
  have hB := hb Wk Kr (fun p kind set σ h => hc [(6, [true, true, true, true, true, true])] 500 0 _ _ _ (bk_X2_workOf_0 Wk Kr p kind set σ h)) (fun x1 x2 x3 x4 x5 σ h => hc [(6, [true, true, true, true, true, true])] 500 6 _ _ _ (bk_X2_workOf_6 Wk Kr x1 x2 x3 x4 x5 σ h))
  unfold sp_X2_workOf at hsp
  split at hsp
  · exact ⟨⟨by simp, by simp [sv_cat]⟩, hB _ _ _ _ hsp⟩
  · exact hsp.elim
set_option maxHeartbeats 4000000 in
set_option maxRecDepth 100000 in
theorem c_X2_workOf (l : Launch) : sv_C l yX2_workOf cX2_workOf 6 (some .int) sv_all 1 22 sp_X2_workOf := by
  refine m_X2_workOf l ?_
  intro Wk Kr e0 e6 p kind set σ ⟨d, q, k, c, ⟨hR, ⟨hq, hp⟩, ⟨hk, hkd⟩, hc, hset⟩, h⟩
  subst hset
  subst hp
  subst hkd
  have hR0 := hR
  obtain ⟨h0, h1, h2, h3, h4, h5, h6, h7, h8⟩ := hR
  have hT := h0.2.1
  have hP := h0.1
  have key : ∀ m n, n + m = dT d → Wk 6 [some (.inr (.inr (2, 0))), some (.inl (nI q)), some (.inl (nI k)), some (.inl (nI c)), some (.inl (nI (sm (fun t => (dr d t q + dw d t q) * (if c.testBit t then dS d 2 else dS d 1)) n))), some (.inl (nI n))] [] σ := by
    intro m
    induction m with
    | zero =>
      intro n hn
      apply e6
      unfold F_X2_workOf_6
      rw [h2]
      refine pk_le (dT d) n (fun z => ⟨pk_in k 2 hk, pk_in q 10 (by omega), h _ ?_⟩) (fun z => by omega)
      rw [nI_clamp (by omega), nI_clamp (by omega), h4 k q hk hq, pk_mul, show n = dT d by omega]
      rfl
    | succ m ih =>
      intro n hn
      apply e6
      unfold F_X2_workOf_6
      rw [h2]
      refine pk_le (dT d) n (fun z => by omega) (fun z => ⟨d, n, q, ⟨hR0, ⟨by omega, rfl⟩, hq, rfl⟩, fun v hv => ?_⟩)
      subst hv
      have := ih (n + 1) (by omega)
      refine ⟨fun y => ?_, fun y => ?_⟩
      · rw [bit_sh c hc n (by omega)] at y
        rw [nI_1, h3 2 (by omega), pk_mul, nI_add]
        have e : sm (fun t => (dr d t q + dw d t q) * (if c.testBit t then dS d 2 else dS d 1)) (n + 1) = sm (fun t => (dr d t q + dw d t q) * (if c.testBit t then dS d 2 else dS d 1)) n + (dr d n q + dw d n q) * dS d 2 := by
          show _ + (dr d n q + dw d n q) * (if c.testBit n then dS d 2 else dS d 1) = _
          rw [if_pos y]
        rw [← e]
        exact this
      · rw [bit_sh c hc n (by omega)] at y
        rw [nI_1, h3 1 (by omega), pk_mul, nI_add]
        have e : sm (fun t => (dr d t q + dw d t q) * (if c.testBit t then dS d 2 else dS d 1)) (n + 1) = sm (fun t => (dr d t q + dw d t q) * (if c.testBit t then dS d 2 else dS d 1)) n + (dr d n q + dw d n q) * dS d 1 := by
          show _ + (dr d n q + dw d n q) * (if c.testBit n then dS d 2 else dS d 1) = _
          rw [if_neg y]
        rw [← e]
        exact this
  apply e0
  exact key (dT d) 0 (by omega)
