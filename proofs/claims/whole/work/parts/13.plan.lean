def fetL (L : Nat → Nat) (p : Nat) : Nat := nd (L p) (if p = 0 then 0 else L (p - 1))
def dtyL (d : dD) (L : Nat → Nat) : Nat → Nat
  | 0 => 0
  | p + 1 => (dtyL d L p ||| wset d p) &&& L p
def rtnL (d : dD) (L : Nat → Nat) (p : Nat) : Nat := nd (dtyL d L (p + 1)) (if p + 1 < dP d then L (p + 1) else 0)
def costL (d : dD) (L : Nat → Nat) (k : Nat) : Nat := sm (fun p => work d p k (L p) + carry d (fetL L p) + carry d (rtnL d L p)) (dP d)
def loadL (d : dD) (L : Nat → Nat) (p : Nat) : Nat := carry d (fetL L p) + (if p = 0 then 0 else carry d (rtnL d L (p - 1)))
def stallL (d : dD) (L : Nat → Nat) (k p : Nat) : Nat := if p = 0 then loadL d L p else loadL d L p - work d (p - 1) k (L (p - 1))
def timeL (d : dD) (L : Nat → Nat) (k : Nat) : Nat := if dP d = 0 then 0 else carry d (rtnL d L (dP d - 1)) + sm (fun p => work d p k (L p) + stallL d L k p) (dP d)
def FW (d : dD) (σ : sv_S) : Prop := ∀ p, p < dP d → sv_gA σ 18 0 p = nI (fetL (dL d) p) ∧ sv_gA σ 19 0 p = nI (rtnL d (dL d) p)
theorem dL_lt {d : dD} (h : wfP d) (hl : wfL d) {p : Nat} (hp : p < dP d) : dL d p < 32 := Nat.lt_of_lt_of_le (hl p hp) (pow_le_32 h.2.1)
theorem fetL_lt {L : Nat → Nat} {p : Nat} (h : L p < 32) : fetL L p < 32 := nd_lt h
theorem dtyL_lt {d : dD} {L : Nat → Nat} : ∀ {p : Nat}, (∀ q, q < p → L q < 32) → dtyL d L p < 32
  | 0, _ => (by decide : (0 : Nat) < 32)
  | p + 1, h => and_lt (or_lt (dtyL_lt (fun q hq => h q (by omega))) (wset_lt d p))
theorem rtnL_lt {d : dD} {L : Nat → Nat} {p : Nat} (h : ∀ q, q < p + 1 → L q < 32) : rtnL d L p < 32 := nd_lt (dtyL_lt h)
-- ==== X1_follow
def sp_X1_follow : sv_P := fun av σ K => match av with
  | [.inr (.inr (1, 0))] => ∃ d : dD, (RP d σ ∧ RQ d σ) ∧ (∀ σ2 : sv_S, sq [18, 19] σ σ2 ∧ FW d σ2 → K none σ2)
  | _ => False
def tb_X1_follow : List (Nat × (Instr × Nat)) := [(0, (.iconst 0, 1)), (1, (.istore_n 1, 1)), (2, (.iconst 0, 1)), (3, (.istore_n 2, 1)), (4, (.iconst 0, 1)), (5, (.istore_n 3, 1)), (6, (.iload_n 3, 1)), (7, (.aload_n 0, 1)), (8, (.getfield 21, 3)), (11, (.getfield 25, 3)), (14, (.if_icmp .ge 85, 3)), (17, (.aload_n 0, 1)), (18, (.getfield 15, 3)), (21, (.iload_n 3, 1)), (22, (.aload_n 0, 1)), (23, (.getfield 9, 3)), (26, (.iload_n 3, 1)), (27, (.iaload, 1)), (28, (.iload_n 1, 1)), (29, (.iconst (-1), 1)), (30, (.ixor, 1)), (31, (.iand, 1)), (32, (.iastore, 1)), (33, (.aload_n 0, 1)), (34, (.getfield 9, 3)), (37, (.iload_n 3, 1)), (38, (.iaload, 1)), (39, (.istore_n 1, 1)), (40, (.iload_n 2, 1)), (41, (.aload_n 0, 1)), (42, (.getfield 21, 3)), (45, (.getfield 31, 3)), (48, (.iload_n 3, 1)), (49, (.iaload, 1)), (50, (.ior, 1)), (51, (.iload_n 1, 1)), (52, (.iand, 1)), (53, (.istore_n 2, 1)), (54, (.iload_n 3, 1)), (55, (.iconst 1, 1)), (56, (.iadd, 1)), (57, (.aload_n 0, 1)), (58, (.getfield 21, 3)), (61, (.getfield 25, 3)), (64, (.if_icmp .ge 14, 3)), (67, (.aload_n 0, 1)), (68, (.getfield 9, 3)), (71, (.iload_n 3, 1)), (72, (.iconst 1, 1)), (73, (.iadd, 1)), (74, (.iaload, 1)), (75, (.goto 4, 3)), (78, (.iconst 0, 1)), (79, (.istore 4, 2)), (81, (.aload_n 0, 1)), (82, (.getfield 18, 3)), (85, (.iload_n 3, 1)), (86, (.iload_n 2, 1)), (87, (.iload 4, 2)), (89, (.iconst (-1), 1)), (90, (.ixor, 1)), (91, (.iand, 1)), (92, (.iastore, 1)), (93, (.iinc 3 1, 3)), (96, (.goto (-90), 3)), (99, (.return_, 1))]
set_option maxRecDepth 100000 in
theorem tbk_X1_follow : sv_tbok cX1_follow tb_X1_follow = true := by decide +kernel
def cal_X1_follow : List (Nat × (Nat × Nat × sv_P)) := []
def T_X1_follow : sv_T := (flX1, sfX1, kcX1, klX1, cal_X1_follow)
set_option maxRecDepth 100000 in
theorem Tok_X1_follow (l : Launch) : sv_Tok l RX1 sv_all 0 0 T_X1_follow := ⟨flokX1, sfokX1, kcokX1, klokX1, fun _ h => absurd h List.not_mem_nil⟩
theorem kw_X1_follow : Cond.instanceMethod yX1_follow ∈ sv_tb ∧ Cond.selects yX1_follow.cls yX1_follow yX1_follow ∈ sv_tb ∧ Cond.initialized yX1_follow.cls ∈ sv_tb ∧ Cond.code yX1_follow cX1_follow 5 none ∈ sv_tb := ⟨sv_mem 407 (by decide +kernel) rfl, sv_mem 408 (by decide +kernel) rfl, sv_mem 53 (by decide +kernel) rfl, sv_mem 409 (by decide +kernel) rfl⟩
theorem kd_X1_follow : yX1_follow.cls ≠ "java/lang/invoke/MethodHandle" ∧ yX1_follow.cls ≠ "java/lang/invoke/VarHandle" ∧ (parseMethodDescriptor yX1_follow.desc).map (fun d => d.parameters.length) = some 0 := by decide +kernel
def F_X1_follow_0 (Wk : sv_K) (Kr : Option sv_AV → sv_S → Prop)  (σ : sv_S) : Prop := Wk 6 [some (.inr (.inr (1, 0))), some (.inl (0 : Int32)), some (.inl (0 : Int32)), some (.inl (0 : Int32)), none] [] σ
set_option maxRecDepth 100000 in
theorem bk_X1_follow_0 (Wk : sv_K) (Kr : Option sv_AV → sv_S → Prop)  (σ : sv_S) (h : F_X1_follow_0 Wk Kr  σ) : sv_vc tb_X1_follow T_X1_follow sv_all none Kr [(6, [true, true, true, true, false])] Wk 500 0 [some (.inr (.inr (1, 0))), none, none, none, none] [] σ := h
def F_X1_follow_6 (Wk : sv_K) (Kr : Option sv_AV → sv_S → Prop) (x1 : Int32) (x2 : Int32) (x3 : Int32) (σ : sv_S) : Prop := (((sv_gA σ 2 0 0) ≤ x3 → Kr none σ) ∧ (¬ (sv_gA σ 2 0 0) ≤ x3 → (vp_in x3 10 ∧ (vp_in x3 10 ∧ (vp_in x3 10 ∧ (vp_in x3 10 ∧ (((sv_gA σ 2 0 0) ≤ (x3 + (1 : Int32)) → (vp_in x3 10 ∧ Wk 6 [some (.inr (.inr (1, 0))), some (.inl (sv_gA σ 17 0 x3.toNatClampNeg)), some (.inl ((x2 ||| (sv_gA σ 28 0 x3.toNatClampNeg)) &&& (sv_gA σ 17 0 x3.toNatClampNeg))), some (.inl (x3 + (1 : Int32))), none] [] (sv_sA (sv_sA σ 18 0 x3.toNatClampNeg ((sv_gA σ 17 0 x3.toNatClampNeg) &&& (x1 ^^^ (-1 : Int32)))) 19 0 x3.toNatClampNeg (((x2 ||| (sv_gA σ 28 0 x3.toNatClampNeg)) &&& (sv_gA σ 17 0 x3.toNatClampNeg)) &&& (-1 : Int32))))) ∧ (¬ (sv_gA σ 2 0 0) ≤ (x3 + (1 : Int32)) → (vp_in (x3 + (1 : Int32)) 10 ∧ (vp_in x3 10 ∧ Wk 6 [some (.inr (.inr (1, 0))), some (.inl (sv_gA σ 17 0 x3.toNatClampNeg)), some (.inl ((x2 ||| (sv_gA σ 28 0 x3.toNatClampNeg)) &&& (sv_gA σ 17 0 x3.toNatClampNeg))), some (.inl (x3 + (1 : Int32))), none] [] (sv_sA (sv_sA σ 18 0 x3.toNatClampNeg ((sv_gA σ 17 0 x3.toNatClampNeg) &&& (x1 ^^^ (-1 : Int32)))) 19 0 x3.toNatClampNeg (((x2 ||| (sv_gA σ 28 0 x3.toNatClampNeg)) &&& (sv_gA σ 17 0 x3.toNatClampNeg)) &&& ((sv_gA σ 17 0 (x3 + (1 : Int32)).toNatClampNeg) ^^^ (-1 : Int32))))))))))))))
set_option maxRecDepth 100000 in
theorem bk_X1_follow_6 (Wk : sv_K) (Kr : Option sv_AV → sv_S → Prop) (x1 : Int32) (x2 : Int32) (x3 : Int32) (σ : sv_S) (h : F_X1_follow_6 Wk Kr x1 x2 x3 σ) : sv_vc tb_X1_follow T_X1_follow sv_all none Kr [(6, [true, true, true, true, false])] Wk 500 6 [some (.inr (.inr (1, 0))), some (.inl x1), some (.inl x2), some (.inl x3), none] [] σ := ⟨fun z1 => ⟨rfl, ((h).1 z1)⟩, fun z1 => ((h).2 z1)⟩
set_option maxRecDepth 100000 in
theorem m_X1_follow (l : Launch) (hb : ∀ (Wk : sv_K) (Kr : Option sv_AV → sv_S → Prop), (∀  (σ : sv_S), F_X1_follow_0 Wk Kr  σ → Wk 0 [some (.inr (.inr (1, 0))), none, none, none, none] [] σ) → (∀ (x1 : Int32) (x2 : Int32) (x3 : Int32) (σ : sv_S), F_X1_follow_6 Wk Kr x1 x2 x3 σ → Wk 6 [some (.inr (.inr (1, 0))), some (.inl x1), some (.inl x2), some (.inl x3), none] [] σ) → (∀  (σ : sv_S), (∃ d : dD, (RP d σ ∧ RQ d σ) ∧ (∀ σ2 : sv_S, sq [18, 19] σ σ2 ∧ FW d σ2 → Kr none σ2)) → Wk 0 [some (.inr (.inr (1, 0))), none, none, none, none] [] σ)) : sv_C l yX1_follow cX1_follow 5 none sv_all 0 0 sp_X1_follow := by
  refine sv_meth sv_clok_all tb_X1_follow T_X1_follow (by decide) tbk_X1_follow (Tok_X1_follow l) ?_
  intro Wk Kr hc av σ hsp
  have hB := hb Wk Kr (fun  σ h => hc [(6, [true, true, true, true, false])] 500 0 _ _ _ (bk_X1_follow_0 Wk Kr  σ h)) (fun x1 x2 x3 σ h => hc [(6, [true, true, true, true, false])] 500 6 _ _ _ (bk_X1_follow_6 Wk Kr x1 x2 x3 σ h))
  unfold sp_X1_follow at hsp
  split at hsp
  · exact ⟨⟨by simp, by simp [sv_cat]⟩, hB  _ hsp⟩
  · exact hsp.elim
set_option maxHeartbeats 4000000 in
set_option maxRecDepth 100000 in
theorem c_X1_follow (l : Launch) : sv_C l yX1_follow cX1_follow 5 none sv_all 0 0 sp_X1_follow := by
  refine m_X1_follow l ?_
  intro Wk Kr e0 e6 σ ⟨d, ⟨hR, hQ⟩, h⟩
  have hP := hR.1.1
  have hLt := fun p (hp : p < dP d) => dL_lt hR.1 hQ.1 hp
  have key : ∀ m k σ', k + m = dP d → sq [18, 19] σ σ' → (∀ p, p < k → sv_gA σ' 18 0 p = nI (fetL (dL d) p) ∧ sv_gA σ' 19 0 p = nI (rtnL d (dL d) p)) → Wk 6 [some (.inr (.inr (1, 0))), some (.inl (nI (if k = 0 then 0 else dL d (k - 1)))), some (.inl (nI (dtyL d (dL d) k))), some (.inl (nI k)), none] [] σ' := by
    intro m
    induction m with
    | zero =>
      intro k σ' hk hs hF
      apply e6
      have hR' := RP_fr hR hs
      unfold F_X1_follow_6
      rw [hR'.2.1]
      exact pk_le (dP d) k (fun z => h _ ⟨hs, fun p hp => hF p (by omega)⟩) (fun z => by omega)
    | succ m ih =>
      intro k σ' hk hs hF
      have hR' := RP_fr hR hs
      have hQ' := RQ_fr hQ hs
      have hx1 : (if k = 0 then 0 else dL d (k - 1)) < 32 := by
        split
        · omega
        · exact hLt _ (by omega)
      have hdk : dtyL d (dL d) k < 32 := dtyL_lt (fun q hq => hLt q (by omega))
      have hdk1 : dtyL d (dL d) (k + 1) < 32 := dtyL_lt (fun q hq => hLt q (by omega))
      have ev1 : sv_gA σ' 17 0 k &&& (nI (if k = 0 then 0 else dL d (k - 1)) ^^^ (-1)) = nI (fetL (dL d) k) := by
        rw [hQ'.2 k (by omega), nd_nI _ (hLt k (by omega)) _ hx1]
        rfl
      have ev2 : (nI (dtyL d (dL d) k) ||| sv_gA σ' 28 0 k) &&& sv_gA σ' 17 0 k = nI (dtyL d (dL d) (k + 1)) := by
        rw [hR'.2.2.2.2.2.2.2.2 k (by omega), hQ'.2 k (by omega), or_nI _ hdk _ (wset_lt d k), and_nI _ (or_lt hdk (wset_lt d k)) _ (hLt k (by omega))]
        rfl
      have fin : ∀ v : Int32, v = nI (rtnL d (dL d) k) → Wk 6 [some (.inr (.inr (1, 0))), some (.inl (sv_gA σ' 17 0 k)), some (.inl (nI (dtyL d (dL d) (k + 1)))), some (.inl (nI (k + 1))), none] [] (sv_sA (sv_sA σ' 18 0 k (nI (fetL (dL d) k))) 19 0 k v) := by
        intro v hv
        have := ih (k + 1) (sv_sA (sv_sA σ' 18 0 k (nI (fetL (dL d) k))) 19 0 k v) (by omega) (sq_tr (sq_tr hs (sq_sA _ _ _ _ (by decide))) (sq_sA _ _ _ _ (by decide))) (fun p hp => by
          by_cases hpk : p = k
          · subst hpk
            refine ⟨?_, ?_⟩
            · rw [gA_ng _ (by decide), gA_same]
            · rw [gA_same, hv]
          · rw [gA_ng _ (by decide), gA_nj _ hpk, gA_nj _ hpk, gA_ng _ (by decide)]
            exact hF p (by omega))
        rw [if_neg (by omega), Nat.add_sub_cancel] at this
        rw [hQ'.2 k (by omega)]
        exact this
      apply e6
      unfold F_X1_follow_6
      rw [hR'.2.1, nI_clamp (by omega : k < 2 ^ 31), ev1, ev2, nI_1]
      refine pk_le (dP d) k (fun z => by omega) (fun z => ⟨pk_in k 10 (by omega), pk_in k 10 (by omega), pk_in k 10 (by omega), pk_in k 10 (by omega), ?_⟩)
      refine pk_le (dP d) (k + 1) (fun y => ⟨pk_in k 10 (by omega), fin _ ?_⟩) (fun y => ⟨pk_in (k + 1) 10 (by omega), pk_in k 10 (by omega), fin _ ?_⟩)
      · rw [and_m1 _ hdk1]
        unfold rtnL
        rw [if_neg (by omega), nd_0 _ hdk1]
      · rw [nI_clamp (by omega), hQ'.2 (k + 1) (by omega), nd_nI _ hdk1 _ (hLt _ (by omega))]
        unfold rtnL
        rw [if_pos (by omega)]
  apply e0
  exact key (dP d) 0 σ (by omega) (sq_rf _ _) (fun p hp => by omega)
-- ==== X1_countCarried
def sp_X1_countCarried : sv_P := fun av σ K => match av with
  | [.inr (.inr (1, 0)), .inr (.inr (18, cs)), .inl among] => ∃ d : dD, ∃ f : Nat → Nat, ∃ a : Nat, (RP d σ ∧ (∀ p, p < dP d → f p < 32 ∧ sv_gA σ 18 0 p = nI (f p)) ∧ (cs = 0 ∧ a < 32 ∧ among = nI a)) ∧ (∀ v : Int32, v = nI (sm (fun p => sd_pc (f p &&& a)) (dP d)) → K (some (.inl v)) σ)
  | [.inr (.inr (1, 0)), .inr (.inr (19, cs)), .inl among] => ∃ d : dD, ∃ f : Nat → Nat, ∃ a : Nat, (RP d σ ∧ (∀ p, p < dP d → f p < 32 ∧ sv_gA σ 19 0 p = nI (f p)) ∧ (cs = 0 ∧ a < 32 ∧ among = nI a)) ∧ (∀ v : Int32, v = nI (sm (fun p => sd_pc (f p &&& a)) (dP d)) → K (some (.inl v)) σ)
  | _ => False
def tb_X1_countCarried : List (Nat × (Instr × Nat)) := [(0, (.iconst 0, 1)), (1, (.istore_n 3, 1)), (2, (.iconst 0, 1)), (3, (.istore 4, 2)), (5, (.iload 4, 2)), (7, (.aload_n 0, 1)), (8, (.getfield 21, 3)), (11, (.getfield 25, 3)), (14, (.if_icmp .ge 21, 3)), (17, (.iload_n 3, 1)), (18, (.aload_n 1, 1)), (19, (.iload 4, 2)), (21, (.iaload, 1)), (22, (.iload_n 2, 1)), (23, (.iand, 1)), (24, (.invokestatic 34, 3)), (27, (.iadd, 1)), (28, (.istore_n 3, 1)), (29, (.iinc 4 1, 3)), (32, (.goto (-27), 3)), (35, (.iload_n 3, 1)), (36, (.ireturn, 1))]
set_option maxRecDepth 100000 in
theorem tbk_X1_countCarried : sv_tbok cX1_countCarried tb_X1_countCarried = true := by decide +kernel
def cal_X1_countCarried : List (Nat × (Nat × Nat × sv_P)) := [(34, (1, 90, sp_J6_bitCount_0f7a4))]
def T_X1_countCarried : sv_T := (flX1, sfX1, kcX1, klX1, cal_X1_countCarried)
set_option maxRecDepth 100000 in
theorem Tok_X1_countCarried (l : Launch) : sv_Tok l RX1 sv_all 1 20 T_X1_countCarried := ⟨flokX1, sfokX1, kcokX1, klokX1, List.forall_mem_cons.mpr ⟨⟨fun h => absurd h (by decide), fun _ => sv_COs_gen (c_J6_bitCount_0f7a4 l) (Or.inl (sv_mem 441 (by decide +kernel) rfl)) kw_J6_bitCount_0f7a4.1 kw_J6_bitCount_0f7a4.2.1 kw_J6_bitCount_0f7a4.2.2 kd_J6_bitCount_0f7a4 rfl (by decide) (by decide +kernel)⟩, fun _ h => absurd h List.not_mem_nil⟩⟩
theorem kw_X1_countCarried : Cond.instanceMethod yX1_countCarried ∈ sv_tb ∧ Cond.selects yX1_countCarried.cls yX1_countCarried yX1_countCarried ∈ sv_tb ∧ Cond.initialized yX1_countCarried.cls ∈ sv_tb ∧ Cond.code yX1_countCarried cX1_countCarried 5 (some .int) ∈ sv_tb := ⟨sv_mem 438 (by decide +kernel) rfl, sv_mem 439 (by decide +kernel) rfl, sv_mem 53 (by decide +kernel) rfl, sv_mem 440 (by decide +kernel) rfl⟩
theorem kd_X1_countCarried : yX1_countCarried.cls ≠ "java/lang/invoke/MethodHandle" ∧ yX1_countCarried.cls ≠ "java/lang/invoke/VarHandle" ∧ (parseMethodDescriptor yX1_countCarried.desc).map (fun d => d.parameters.length) = some 2 := by decide +kernel
def F_X1_countCarried_0 (Wk : sv_K) (Kr : Option sv_AV → sv_S → Prop) (cs : Nat) (among : Int32) (σ : sv_S) : Prop := Wk 5 [some (.inr (.inr (1, 0))), some (.inr (.inr (18, cs))), some (.inl among), some (.inl (0 : Int32)), some (.inl (0 : Int32))] [] σ
set_option maxRecDepth 100000 in
theorem bk_X1_countCarried_0 (Wk : sv_K) (Kr : Option sv_AV → sv_S → Prop) (cs : Nat) (among : Int32) (σ : sv_S) (h : F_X1_countCarried_0 Wk Kr cs among σ) : sv_vc tb_X1_countCarried T_X1_countCarried sv_all (some .int) Kr [(5, [true, true, true, true, true])] Wk 500 0 [some (.inr (.inr (1, 0))), some (.inr (.inr (18, cs))), some (.inl among), none, none] [] σ := h
def F_X1_countCarried_5 (Wk : sv_K) (Kr : Option sv_AV → sv_S → Prop) (x2 : Int32) (x3 : Int32) (x4 : Int32) (σ : sv_S) : Prop := (((sv_gA σ 2 0 0) ≤ x4 → Kr (some (.inl x3)) σ) ∧ (¬ (sv_gA σ 2 0 0) ≤ x4 → (vp_in x4 10 ∧ (∃ n1 : Nat, (n1 < 32 ∧ ((sv_gA σ 18 0 x4.toNatClampNeg) &&& x2) = nI n1) ∧ (∀ v2 : Int32, v2 = nI (sd_pc n1) → Wk 5 [some (.inr (.inr (1, 0))), some (.inr (.inr (18, 0))), some (.inl x2), some (.inl (x3 + v2)), some (.inl (x4 + (1 : Int32)))] [] σ)))))
set_option maxRecDepth 100000 in
theorem bk_X1_countCarried_5 (Wk : sv_K) (Kr : Option sv_AV → sv_S → Prop) (x2 : Int32) (x3 : Int32) (x4 : Int32) (σ : sv_S) (h : F_X1_countCarried_5 Wk Kr x2 x3 x4 σ) : sv_vc tb_X1_countCarried T_X1_countCarried sv_all (some .int) Kr [(5, [true, true, true, true, true])] Wk 500 5 [some (.inr (.inr (1, 0))), some (.inr (.inr (18, 0))), some (.inl x2), some (.inl x3), some (.inl x4)] [] σ := h
def F_X1_countCarried_0v1 (Wk : sv_K) (Kr : Option sv_AV → sv_S → Prop) (cs : Nat) (among : Int32) (σ : sv_S) : Prop := Wk 5 [some (.inr (.inr (1, 0))), some (.inr (.inr (19, cs))), some (.inl among), some (.inl (0 : Int32)), some (.inl (0 : Int32))] [] σ
set_option maxRecDepth 100000 in
theorem bk_X1_countCarried_0v1 (Wk : sv_K) (Kr : Option sv_AV → sv_S → Prop) (cs : Nat) (among : Int32) (σ : sv_S) (h : F_X1_countCarried_0v1 Wk Kr cs among σ) : sv_vc tb_X1_countCarried T_X1_countCarried sv_all (some .int) Kr [(5, [true, true, true, true, true])] Wk 500 0 [some (.inr (.inr (1, 0))), some (.inr (.inr (19, cs))), some (.inl among), none, none] [] σ := h
def F_X1_countCarried_5v1 (Wk : sv_K) (Kr : Option sv_AV → sv_S → Prop) (x2 : Int32) (x3 : Int32) (x4 : Int32) (σ : sv_S) : Prop := (((sv_gA σ 2 0 0) ≤ x4 → Kr (some (.inl x3)) σ) ∧ (¬ (sv_gA σ 2 0 0) ≤ x4 → (vp_in x4 10 ∧ (∃ n1 : Nat, (n1 < 32 ∧ ((sv_gA σ 19 0 x4.toNatClampNeg) &&& x2) = nI n1) ∧ (∀ v2 : Int32, v2 = nI (sd_pc n1) → Wk 5 [some (.inr (.inr (1, 0))), some (.inr (.inr (19, 0))), some (.inl x2), some (.inl (x3 + v2)), some (.inl (x4 + (1 : Int32)))] [] σ)))))
set_option maxRecDepth 100000 in
theorem bk_X1_countCarried_5v1 (Wk : sv_K) (Kr : Option sv_AV → sv_S → Prop) (x2 : Int32) (x3 : Int32) (x4 : Int32) (σ : sv_S) (h : F_X1_countCarried_5v1 Wk Kr x2 x3 x4 σ) : sv_vc tb_X1_countCarried T_X1_countCarried sv_all (some .int) Kr [(5, [true, true, true, true, true])] Wk 500 5 [some (.inr (.inr (1, 0))), some (.inr (.inr (19, 0))), some (.inl x2), some (.inl x3), some (.inl x4)] [] σ := h
set_option maxRecDepth 100000 in
theorem m_X1_countCarried (l : Launch) (hb : ∀ (Wk : sv_K) (Kr : Option sv_AV → sv_S → Prop), (∀ (cs : Nat) (among : Int32) (σ : sv_S), F_X1_countCarried_0 Wk Kr cs among σ → Wk 0 [some (.inr (.inr (1, 0))), some (.inr (.inr (18, cs))), some (.inl among), none, none] [] σ) → (∀ (x2 : Int32) (x3 : Int32) (x4 : Int32) (σ : sv_S), F_X1_countCarried_5 Wk Kr x2 x3 x4 σ → Wk 5 [some (.inr (.inr (1, 0))), some (.inr (.inr (18, 0))), some (.inl x2), some (.inl x3), some (.inl x4)] [] σ) → (∀ (cs : Nat) (among : Int32) (σ : sv_S), F_X1_countCarried_0v1 Wk Kr cs among σ → Wk 0 [some (.inr (.inr (1, 0))), some (.inr (.inr (19, cs))), some (.inl among), none, none] [] σ) → (∀ (x2 : Int32) (x3 : Int32) (x4 : Int32) (σ : sv_S), F_X1_countCarried_5v1 Wk Kr x2 x3 x4 σ → Wk 5 [some (.inr (.inr (1, 0))), some (.inr (.inr (19, 0))), some (.inl x2), some (.inl x3), some (.inl x4)] [] σ) → (∀ (cs : Nat) (among : Int32) (σ : sv_S), (∃ d : dD, ∃ f : Nat → Nat, ∃ a : Nat, (RP d σ ∧ (∀ p, p < dP d → f p < 32 ∧ sv_gA σ 18 0 p = nI (f p)) ∧ (cs = 0 ∧ a < 32 ∧ among = nI a)) ∧ (∀ v : Int32, v = nI (sm (fun p => sd_pc (f p &&& a)) (dP d)) → Kr (some (.inl v)) σ)) → Wk 0 [some (.inr (.inr (1, 0))), some (.inr (.inr (18, cs))), some (.inl among), none, none] [] σ) ∧ (∀ (cs : Nat) (among : Int32) (σ : sv_S), (∃ d : dD, ∃ f : Nat → Nat, ∃ a : Nat, (RP d σ ∧ (∀ p, p < dP d → f p < 32 ∧ sv_gA σ 19 0 p = nI (f p)) ∧ (cs = 0 ∧ a < 32 ∧ among = nI a)) ∧ (∀ v : Int32, v = nI (sm (fun p => sd_pc (f p &&& a)) (dP d)) → Kr (some (.inl v)) σ)) → Wk 0 [some (.inr (.inr (1, 0))), some (.inr (.inr (19, cs))), some (.inl among), none, none] [] σ)) : sv_C l yX1_countCarried cX1_countCarried 5 (some .int) sv_all 1 20 sp_X1_countCarried := by
  refine sv_meth sv_clok_all tb_X1_countCarried T_X1_countCarried (by decide) tbk_X1_countCarried (Tok_X1_countCarried l) ?_
  intro Wk Kr hc av σ hsp
  have hB := hb Wk Kr (fun cs among σ h => hc [(5, [true, true, true, true, true])] 500 0 _ _ _ (bk_X1_countCarried_0 Wk Kr cs among σ h)) (fun x2 x3 x4 σ h => hc [(5, [true, true, true, true, true])] 500 5 _ _ _ (bk_X1_countCarried_5 Wk Kr x2 x3 x4 σ h)) (fun cs among σ h => hc [(5, [true, true, true, true, true])] 500 0 _ _ _ (bk_X1_countCarried_0v1 Wk Kr cs among σ h)) (fun x2 x3 x4 σ h => hc [(5, [true, true, true, true, true])] 500 5 _ _ _ (bk_X1_countCarried_5v1 Wk Kr x2 x3 x4 σ h))
  unfold sp_X1_countCarried at hsp
  split at hsp
  · exact ⟨⟨by simp, by simp [sv_cat]⟩, hB.1 _ _ _ hsp⟩
  · exact ⟨⟨by simp, by simp [sv_cat]⟩, hB.2 _ _ _ hsp⟩
  · exact hsp.elim
set_option maxHeartbeats 4000000 in
set_option maxRecDepth 100000 in
theorem c_X1_countCarried (l : Launch) : sv_C l yX1_countCarried cX1_countCarried 5 (some .int) sv_all 1 20 sp_X1_countCarried := by
  refine m_X1_countCarried l ?_
  intro Wk Kr e0 e5 f0 f5
  refine ⟨?_, ?_⟩
  · intro cs among σ ⟨d, f, a, ⟨hR, hf, hcs, ha, hA⟩, h⟩
    subst hA
    subst hcs
    have hP := hR.1.1
    have key : ∀ m k, k + m = dP d → Wk 5 [some (.inr (.inr (1, 0))), some (.inr (.inr (18, 0))), some (.inl (nI a)), some (.inl (nI (sm (fun p => sd_pc (f p &&& a)) k))), some (.inl (nI k))] [] σ := by
      intro m
      induction m with
      | zero =>
        intro k hk
        apply e5
        unfold F_X1_countCarried_5
        rw [hR.2.1]
        exact pk_le (dP d) k (fun z => h _ (by rw [show k = dP d by omega])) (fun z => by omega)
      | succ m ih =>
        intro k hk
        apply e5
        unfold F_X1_countCarried_5
        rw [hR.2.1, nI_clamp (by omega), (hf k (by omega)).2, and_nI _ (hf k (by omega)).1 _ ha]
        refine pk_le (dP d) k (fun z => by omega) (fun z => ⟨pk_in k 10 (by omega), f k &&& a, ⟨and_lt (hf k (by omega)).1, rfl⟩, fun v hv => ?_⟩)
        rw [hv, nI_1, nI_add]
        exact ih (k + 1) (by omega)
    apply e0
    exact key (dP d) 0 (by omega)
  · intro cs among σ ⟨d, f, a, ⟨hR, hf, hcs, ha, hA⟩, h⟩
    subst hA
    subst hcs
    have hP := hR.1.1
    have key : ∀ m k, k + m = dP d → Wk 5 [some (.inr (.inr (1, 0))), some (.inr (.inr (19, 0))), some (.inl (nI a)), some (.inl (nI (sm (fun p => sd_pc (f p &&& a)) k))), some (.inl (nI k))] [] σ := by
      intro m
      induction m with
      | zero =>
        intro k hk
        apply f5
        unfold F_X1_countCarried_5v1
        rw [hR.2.1]
        exact pk_le (dP d) k (fun z => h _ (by rw [show k = dP d by omega])) (fun z => by omega)
      | succ m ih =>
        intro k hk
        apply f5
        unfold F_X1_countCarried_5v1
        rw [hR.2.1, nI_clamp (by omega), (hf k (by omega)).2, and_nI _ (hf k (by omega)).1 _ ha]
        refine pk_le (dP d) k (fun z => by omega) (fun z => ⟨pk_in k 10 (by omega), f k &&& a, ⟨and_lt (hf k (by omega)).1, rfl⟩, fun v hv => ?_⟩)
        rw [hv, nI_1, nI_add]
        exact ih (k + 1) (by omega)
    apply f0
    exact key (dP d) 0 (by omega)
-- ==== X1_workOf
def sp_X1_workOf : sv_P := fun av σ K => match av with
  | [.inr (.inr (1, 0)), .inl p, .inl kind] => ∃ d : dD, ∃ q : Nat, ∃ k : Nat, (RP d σ ∧ RQ d σ ∧ (q < dP d ∧ p = nI q) ∧ (k < 2 ∧ kind = nI k)) ∧ (∀ v : Int32, v = nI (work d q k (dL d q)) → K (some (.inl v)) σ)
  | _ => False
def tb_X1_workOf : List (Nat × (Instr × Nat)) := [(0, (.aload_n 0, 1)), (1, (.getfield 21, 3)), (4, (.iload_n 1, 1)), (5, (.iload_n 2, 1)), (6, (.aload_n 0, 1)), (7, (.getfield 9, 3)), (10, (.iload_n 1, 1)), (11, (.iaload, 1)), (12, (.invokevirtual 40, 3)), (15, (.ireturn, 1))]
set_option maxRecDepth 100000 in
theorem tbk_X1_workOf : sv_tbok cX1_workOf tb_X1_workOf = true := by decide +kernel
def cal_X1_workOf : List (Nat × (Nat × Nat × sv_P)) := [(40, (4, 2, sp_X2_workOf))]
def T_X1_workOf : sv_T := (flX1, sfX1, kcX1, klX1, cal_X1_workOf)
set_option maxRecDepth 100000 in
theorem Tok_X1_workOf (l : Launch) : sv_Tok l RX1 sv_all 2 47 T_X1_workOf := ⟨flokX1, sfokX1, kcokX1, klokX1, List.forall_mem_cons.mpr ⟨⟨fun _ => sv_COv_of (c_X2_workOf l) sv_clok_all (sv_mem 418 (by decide +kernel) rfl) kw_X2_workOf.1 kw_X2_workOf.2.1 kw_X2_workOf.2.2.1 kw_X2_workOf.2.2.2 kd_X2_workOf rfl (by decide) (by decide +kernel) rfl (by decide), fun h => absurd h (by decide)⟩, fun _ h => absurd h List.not_mem_nil⟩⟩
theorem kw_X1_workOf : Cond.instanceMethod yX1_workOf ∈ sv_tb ∧ Cond.selects yX1_workOf.cls yX1_workOf yX1_workOf ∈ sv_tb ∧ Cond.initialized yX1_workOf.cls ∈ sv_tb ∧ Cond.code yX1_workOf cX1_workOf 3 (some .int) ∈ sv_tb := ⟨sv_mem 415 (by decide +kernel) rfl, sv_mem 416 (by decide +kernel) rfl, sv_mem 53 (by decide +kernel) rfl, sv_mem 417 (by decide +kernel) rfl⟩
theorem kd_X1_workOf : yX1_workOf.cls ≠ "java/lang/invoke/MethodHandle" ∧ yX1_workOf.cls ≠ "java/lang/invoke/VarHandle" ∧ (parseMethodDescriptor yX1_workOf.desc).map (fun d => d.parameters.length) = some 2 := by decide +kernel
def F_X1_workOf_0 (Wk : sv_K) (Kr : Option sv_AV → sv_S → Prop) (p : Int32) (kind : Int32) (σ : sv_S) : Prop := (vp_in p 10 ∧ (∃ d1 : dD, ∃ q2 : Nat, ∃ k3 : Nat, ∃ c4 : Nat, (RP d1 σ ∧ (q2 < dP d1 ∧ p = nI q2) ∧ (k3 < 2 ∧ kind = nI k3) ∧ (c4 < 32 ∧ (sv_gA σ 17 0 p.toNatClampNeg) = nI c4)) ∧ (∀ v5 : Int32, v5 = nI (work d1 q2 k3 c4) → Kr (some (.inl v5)) σ)))
set_option maxRecDepth 100000 in
theorem bk_X1_workOf_0 (Wk : sv_K) (Kr : Option sv_AV → sv_S → Prop) (p : Int32) (kind : Int32) (σ : sv_S) (h : F_X1_workOf_0 Wk Kr p kind σ) : sv_vc tb_X1_workOf T_X1_workOf sv_all (some .int) Kr [] Wk 500 0 [some (.inr (.inr (1, 0))), some (.inl p), some (.inl kind)] [] σ := h
set_option maxRecDepth 100000 in
theorem m_X1_workOf (l : Launch) (hb : ∀ (Wk : sv_K) (Kr : Option sv_AV → sv_S → Prop), (∀ (p : Int32) (kind : Int32) (σ : sv_S), F_X1_workOf_0 Wk Kr p kind σ → Wk 0 [some (.inr (.inr (1, 0))), some (.inl p), some (.inl kind)] [] σ) → (∀ (p : Int32) (kind : Int32) (σ : sv_S), (∃ d : dD, ∃ q : Nat, ∃ k : Nat, (RP d σ ∧ RQ d σ ∧ (q < dP d ∧ p = nI q) ∧ (k < 2 ∧ kind = nI k)) ∧ (∀ v : Int32, v = nI (work d q k (dL d q)) → Kr (some (.inl v)) σ)) → Wk 0 [some (.inr (.inr (1, 0))), some (.inl p), some (.inl kind)] [] σ)) : sv_C l yX1_workOf cX1_workOf 3 (some .int) sv_all 2 47 sp_X1_workOf := by
  refine sv_meth sv_clok_all tb_X1_workOf T_X1_workOf (by decide) tbk_X1_workOf (Tok_X1_workOf l) ?_
  intro Wk Kr hc av σ hsp
  have hB := hb Wk Kr (fun p kind σ h => hc [] 500 0 _ _ _ (bk_X1_workOf_0 Wk Kr p kind σ h))
  unfold sp_X1_workOf at hsp
  split at hsp
  · exact ⟨⟨by simp, by simp [sv_cat]⟩, hB _ _ _ hsp⟩
  · exact hsp.elim
set_option maxHeartbeats 4000000 in
set_option maxRecDepth 100000 in
theorem c_X1_workOf (l : Launch) : sv_C l yX1_workOf cX1_workOf 3 (some .int) sv_all 2 47 sp_X1_workOf := by
  refine m_X1_workOf l ?_
  intro Wk Kr e0 p kind σ ⟨d, q, k, ⟨hR, hQ, ⟨hq, hp⟩, hk, hkd⟩, h⟩
  subst hp
  have hP := hR.1.1
  apply e0
  refine ⟨pk_in q 10 (by omega), d, q, k, dL d q, ⟨hR, ⟨hq, rfl⟩, ⟨hk, hkd⟩, dL_lt hR.1 hQ.1 hq, ?_⟩, fun v hv => h v hv⟩
  rw [nI_clamp (by omega), hQ.2 q hq]
-- ==== X1_costBy
def sp_X1_costBy : sv_P := fun av σ K => match av with
  | [.inr (.inr (1, 0)), .inl kind] => ∃ d : dD, ∃ k : Nat, (RP d σ ∧ RQ d σ ∧ FW d σ ∧ (k < 2 ∧ kind = nI k)) ∧ (∀ v : Int32, v = nI (costL d (dL d) k) → K (some (.inl v)) σ)
  | _ => False
def tb_X1_costBy : List (Nat × (Instr × Nat)) := [(0, (.iconst 0, 1)), (1, (.istore_n 2, 1)), (2, (.iconst 0, 1)), (3, (.istore_n 3, 1)), (4, (.iload_n 3, 1)), (5, (.aload_n 0, 1)), (6, (.getfield 21, 3)), (9, (.getfield 25, 3)), (12, (.if_icmp .ge 46, 3)), (15, (.iload_n 2, 1)), (16, (.aload_n 0, 1)), (17, (.iload_n 3, 1)), (18, (.iload_n 1, 1)), (19, (.invokevirtual 44, 3)), (22, (.aload_n 0, 1)), (23, (.getfield 21, 3)), (26, (.aload_n 0, 1)), (27, (.getfield 15, 3)), (30, (.iload_n 3, 1)), (31, (.iaload, 1)), (32, (.invokevirtual 47, 3)), (35, (.iadd, 1)), (36, (.aload_n 0, 1)), (37, (.getfield 21, 3)), (40, (.aload_n 0, 1)), (41, (.getfield 18, 3)), (44, (.iload_n 3, 1)), (45, (.iaload, 1)), (46, (.invokevirtual 47, 3)), (49, (.iadd, 1)), (50, (.iadd, 1)), (51, (.istore_n 2, 1)), (52, (.iinc 3 1, 3)), (55, (.goto (-51), 3)), (58, (.iload_n 2, 1)), (59, (.ireturn, 1))]
set_option maxRecDepth 100000 in
theorem tbk_X1_costBy : sv_tbok cX1_costBy tb_X1_costBy = true := by decide +kernel
def cal_X1_costBy : List (Nat × (Nat × Nat × sv_P)) := [(44, (3, 1, sp_X1_workOf)), (47, (2, 2, sp_X2_carryOf))]
def T_X1_costBy : sv_T := (flX1, sfX1, kcX1, klX1, cal_X1_costBy)
set_option maxRecDepth 100000 in
theorem Tok_X1_costBy (l : Launch) : sv_Tok l RX1 sv_all 3 69 T_X1_costBy := ⟨flokX1, sfokX1, kcokX1, klokX1, List.forall_mem_cons.mpr ⟨⟨fun _ => sv_COv_of (c_X1_workOf l) sv_clok_all (sv_mem 414 (by decide +kernel) rfl) kw_X1_workOf.1 kw_X1_workOf.2.1 kw_X1_workOf.2.2.1 kw_X1_workOf.2.2.2 kd_X1_workOf rfl (by decide) (by decide +kernel) rfl (by decide), fun h => absurd h (by decide)⟩, List.forall_mem_cons.mpr ⟨⟨fun _ => sv_COv_of (c_X2_carryOf l) sv_clok_all (sv_mem 419 (by decide +kernel) rfl) kw_X2_carryOf.1 kw_X2_carryOf.2.1 kw_X2_carryOf.2.2.1 kw_X2_carryOf.2.2.2 kd_X2_carryOf rfl (by decide) (by decide +kernel) rfl (by decide), fun h => absurd h (by decide)⟩, fun _ h => absurd h List.not_mem_nil⟩⟩⟩
theorem kw_X1_costBy : Cond.instanceMethod yX1_costBy ∈ sv_tb ∧ Cond.selects yX1_costBy.cls yX1_costBy yX1_costBy ∈ sv_tb ∧ Cond.initialized yX1_costBy.cls ∈ sv_tb ∧ Cond.code yX1_costBy cX1_costBy 4 (some .int) ∈ sv_tb := ⟨sv_mem 411 (by decide +kernel) rfl, sv_mem 412 (by decide +kernel) rfl, sv_mem 53 (by decide +kernel) rfl, sv_mem 413 (by decide +kernel) rfl⟩
theorem kd_X1_costBy : yX1_costBy.cls ≠ "java/lang/invoke/MethodHandle" ∧ yX1_costBy.cls ≠ "java/lang/invoke/VarHandle" ∧ (parseMethodDescriptor yX1_costBy.desc).map (fun d => d.parameters.length) = some 1 := by decide +kernel
def F_X1_costBy_0 (Wk : sv_K) (Kr : Option sv_AV → sv_S → Prop) (kind : Int32) (σ : sv_S) : Prop := Wk 4 [some (.inr (.inr (1, 0))), some (.inl kind), some (.inl (0 : Int32)), some (.inl (0 : Int32))] [] σ
set_option maxRecDepth 100000 in
theorem bk_X1_costBy_0 (Wk : sv_K) (Kr : Option sv_AV → sv_S → Prop) (kind : Int32) (σ : sv_S) (h : F_X1_costBy_0 Wk Kr kind σ) : sv_vc tb_X1_costBy T_X1_costBy sv_all (some .int) Kr [(4, [true, true, true, true])] Wk 500 0 [some (.inr (.inr (1, 0))), some (.inl kind), none, none] [] σ := h
def F_X1_costBy_4 (Wk : sv_K) (Kr : Option sv_AV → sv_S → Prop) (x1 : Int32) (x2 : Int32) (x3 : Int32) (σ : sv_S) : Prop := (((sv_gA σ 2 0 0) ≤ x3 → Kr (some (.inl x2)) σ) ∧ (¬ (sv_gA σ 2 0 0) ≤ x3 → (∃ d1 : dD, ∃ q2 : Nat, ∃ k3 : Nat, (RP d1 σ ∧ RQ d1 σ ∧ (q2 < dP d1 ∧ x3 = nI q2) ∧ (k3 < 2 ∧ x1 = nI k3)) ∧ (∀ v4 : Int32, v4 = nI (work d1 q2 k3 (dL d1 q2)) → (vp_in x3 10 ∧ (∃ d5 : dD, ∃ c6 : Nat, (RP d5 σ ∧ (c6 < 32 ∧ (sv_gA σ 18 0 x3.toNatClampNeg) = nI c6)) ∧ (∀ v7 : Int32, v7 = nI (carry d5 c6) → (vp_in x3 10 ∧ (∃ d8 : dD, ∃ c9 : Nat, (RP d8 σ ∧ (c9 < 32 ∧ (sv_gA σ 19 0 x3.toNatClampNeg) = nI c9)) ∧ (∀ v10 : Int32, v10 = nI (carry d8 c9) → Wk 4 [some (.inr (.inr (1, 0))), some (.inl x1), some (.inl (x2 + ((v4 + v7) + v10))), some (.inl (x3 + (1 : Int32)))] [] σ))))))))))
set_option maxRecDepth 100000 in
theorem bk_X1_costBy_4 (Wk : sv_K) (Kr : Option sv_AV → sv_S → Prop) (x1 : Int32) (x2 : Int32) (x3 : Int32) (σ : sv_S) (h : F_X1_costBy_4 Wk Kr x1 x2 x3 σ) : sv_vc tb_X1_costBy T_X1_costBy sv_all (some .int) Kr [(4, [true, true, true, true])] Wk 500 4 [some (.inr (.inr (1, 0))), some (.inl x1), some (.inl x2), some (.inl x3)] [] σ := h
set_option maxRecDepth 100000 in
theorem m_X1_costBy (l : Launch) (hb : ∀ (Wk : sv_K) (Kr : Option sv_AV → sv_S → Prop), (∀ (kind : Int32) (σ : sv_S), F_X1_costBy_0 Wk Kr kind σ → Wk 0 [some (.inr (.inr (1, 0))), some (.inl kind), none, none] [] σ) → (∀ (x1 : Int32) (x2 : Int32) (x3 : Int32) (σ : sv_S), F_X1_costBy_4 Wk Kr x1 x2 x3 σ → Wk 4 [some (.inr (.inr (1, 0))), some (.inl x1), some (.inl x2), some (.inl x3)] [] σ) → (∀ (kind : Int32) (σ : sv_S), (∃ d : dD, ∃ k : Nat, (RP d σ ∧ RQ d σ ∧ FW d σ ∧ (k < 2 ∧ kind = nI k)) ∧ (∀ v : Int32, v = nI (costL d (dL d) k) → Kr (some (.inl v)) σ)) → Wk 0 [some (.inr (.inr (1, 0))), some (.inl kind), none, none] [] σ)) : sv_C l yX1_costBy cX1_costBy 4 (some .int) sv_all 3 69 sp_X1_costBy := by
  refine sv_meth sv_clok_all tb_X1_costBy T_X1_costBy (by decide) tbk_X1_costBy (Tok_X1_costBy l) ?_
  intro Wk Kr hc av σ hsp
  have hB := hb Wk Kr (fun kind σ h => hc [(4, [true, true, true, true])] 500 0 _ _ _ (bk_X1_costBy_0 Wk Kr kind σ h)) (fun x1 x2 x3 σ h => hc [(4, [true, true, true, true])] 500 4 _ _ _ (bk_X1_costBy_4 Wk Kr x1 x2 x3 σ h))
  unfold sp_X1_costBy at hsp
  split at hsp
  · exact ⟨⟨by simp, by simp [sv_cat]⟩, hB _ _ hsp⟩
  · exact hsp.elim
set_option maxHeartbeats 4000000 in
set_option maxRecDepth 100000 in
theorem c_X1_costBy (l : Launch) : sv_C l yX1_costBy cX1_costBy 4 (some .int) sv_all 3 69 sp_X1_costBy := by
  refine m_X1_costBy l ?_
  intro Wk Kr e0 e4 kind σ ⟨d, k, ⟨hR, hQ, hF, hk, hkd⟩, h⟩
  have hP := hR.1.1
  have hLt := fun p (hp : p < dP d) => dL_lt hR.1 hQ.1 hp
  subst hkd
  have key : ∀ m n, n + m = dP d → Wk 4 [some (.inr (.inr (1, 0))), some (.inl (nI k)), some (.inl (nI (sm (fun p => work d p k (dL d p) + carry d (fetL (dL d) p) + carry d (rtnL d (dL d) p)) n))), some (.inl (nI n))] [] σ := by
    intro m
    induction m with
    | zero =>
      intro n hn
      apply e4
      unfold F_X1_costBy_4
      rw [hR.2.1]
      exact pk_le (dP d) n (fun z => h _ (by rw [show n = dP d by omega]; rfl)) (fun z => by omega)
    | succ m ih =>
      intro n hn
      apply e4
      unfold F_X1_costBy_4
      rw [hR.2.1, nI_clamp (by omega)]
      refine pk_le (dP d) n (fun z => by omega) (fun z => ⟨d, n, k, ⟨hR, hQ, ⟨by omega, rfl⟩, hk, rfl⟩, fun v4 h4 => ⟨pk_in n 10 (by omega), d, fetL (dL d) n, ⟨hR, fetL_lt (hLt n (by omega)), (hF n (by omega)).1⟩, fun v7 h7 => ⟨pk_in n 10 (by omega), d, rtnL d (dL d) n, ⟨hR, rtnL_lt (fun q hq => hLt q (by omega)), (hF n (by omega)).2⟩, fun v10 h10 => ?_⟩⟩⟩)
      rw [h4, h7, h10, nI_1, nI_add, nI_add, nI_add]
      exact ih (n + 1) (by omega)
  apply e0
  exact key (dP d) 0 (by omega)
-- ==== X1_loadOf
def sp_X1_loadOf : sv_P := fun av σ K => match av with
  | [.inr (.inr (1, 0)), .inl p] => ∃ d : dD, ∃ q : Nat, (RP d σ ∧ RQ d σ ∧ FW d σ ∧ (q < dP d ∧ p = nI q)) ∧ (∀ v : Int32, v = nI (loadL d (dL d) q) → K (some (.inl v)) σ)
  | _ => False
def tb_X1_loadOf : List (Nat × (Instr × Nat)) := [(0, (.aload_n 0, 1)), (1, (.getfield 21, 3)), (4, (.aload_n 0, 1)), (5, (.getfield 15, 3)), (8, (.iload_n 1, 1)), (9, (.iaload, 1)), (10, (.invokevirtual 47, 3)), (13, (.istore_n 2, 1)), (14, (.iload_n 1, 1)), (15, (.ifCond .ne 7, 3)), (18, (.iload_n 2, 1)), (19, (.goto 20, 3)), (22, (.iload_n 2, 1)), (23, (.aload_n 0, 1)), (24, (.getfield 21, 3)), (27, (.aload_n 0, 1)), (28, (.getfield 18, 3)), (31, (.iload_n 1, 1)), (32, (.iconst 1, 1)), (33, (.isub, 1)), (34, (.iaload, 1)), (35, (.invokevirtual 47, 3)), (38, (.iadd, 1)), (39, (.ireturn, 1))]
set_option maxRecDepth 100000 in
theorem tbk_X1_loadOf : sv_tbok cX1_loadOf tb_X1_loadOf = true := by decide +kernel
def cal_X1_loadOf : List (Nat × (Nat × Nat × sv_P)) := [(47, (2, 2, sp_X2_carryOf))]
def T_X1_loadOf : sv_T := (flX1, sfX1, kcX1, klX1, cal_X1_loadOf)
set_option maxRecDepth 100000 in
theorem Tok_X1_loadOf (l : Launch) : sv_Tok l RX1 sv_all 3 65 T_X1_loadOf := ⟨flokX1, sfokX1, kcokX1, klokX1, List.forall_mem_cons.mpr ⟨⟨fun _ => sv_COv_of (c_X2_carryOf l) sv_clok_all (sv_mem 419 (by decide +kernel) rfl) kw_X2_carryOf.1 kw_X2_carryOf.2.1 kw_X2_carryOf.2.2.1 kw_X2_carryOf.2.2.2 kd_X2_carryOf rfl (by decide) (by decide +kernel) rfl (by decide), fun h => absurd h (by decide)⟩, fun _ h => absurd h List.not_mem_nil⟩⟩
theorem kw_X1_loadOf : Cond.instanceMethod yX1_loadOf ∈ sv_tb ∧ Cond.selects yX1_loadOf.cls yX1_loadOf yX1_loadOf ∈ sv_tb ∧ Cond.initialized yX1_loadOf.cls ∈ sv_tb ∧ Cond.code yX1_loadOf cX1_loadOf 3 (some .int) ∈ sv_tb := ⟨sv_mem 535 (by decide +kernel) rfl, sv_mem 536 (by decide +kernel) rfl, sv_mem 53 (by decide +kernel) rfl, sv_mem 537 (by decide +kernel) rfl⟩
theorem kd_X1_loadOf : yX1_loadOf.cls ≠ "java/lang/invoke/MethodHandle" ∧ yX1_loadOf.cls ≠ "java/lang/invoke/VarHandle" ∧ (parseMethodDescriptor yX1_loadOf.desc).map (fun d => d.parameters.length) = some 1 := by decide +kernel
def F_X1_loadOf_0 (Wk : sv_K) (Kr : Option sv_AV → sv_S → Prop) (p : Int32) (σ : sv_S) : Prop := (vp_in p 10 ∧ (∃ d1 : dD, ∃ c2 : Nat, (RP d1 σ ∧ (c2 < 32 ∧ (sv_gA σ 18 0 p.toNatClampNeg) = nI c2)) ∧ (∀ v3 : Int32, v3 = nI (carry d1 c2) → ((¬ p = (0 : Int32) → (vp_in (p - (1 : Int32)) 10 ∧ (∃ d4 : dD, ∃ c5 : Nat, (RP d4 σ ∧ (c5 < 32 ∧ (sv_gA σ 19 0 (p - (1 : Int32)).toNatClampNeg) = nI c5)) ∧ (∀ v6 : Int32, v6 = nI (carry d4 c5) → Kr (some (.inl (v3 + v6))) σ)))) ∧ (p = (0 : Int32) → Kr (some (.inl v3)) σ)))))
set_option maxRecDepth 100000 in
theorem bk_X1_loadOf_0 (Wk : sv_K) (Kr : Option sv_AV → sv_S → Prop) (p : Int32) (σ : sv_S) (h : F_X1_loadOf_0 Wk Kr p σ) : sv_vc tb_X1_loadOf T_X1_loadOf sv_all (some .int) Kr [] Wk 500 0 [some (.inr (.inr (1, 0))), some (.inl p), none] [] σ := h
set_option maxRecDepth 100000 in
theorem m_X1_loadOf (l : Launch) (hb : ∀ (Wk : sv_K) (Kr : Option sv_AV → sv_S → Prop), (∀ (p : Int32) (σ : sv_S), F_X1_loadOf_0 Wk Kr p σ → Wk 0 [some (.inr (.inr (1, 0))), some (.inl p), none] [] σ) → (∀ (p : Int32) (σ : sv_S), (∃ d : dD, ∃ q : Nat, (RP d σ ∧ RQ d σ ∧ FW d σ ∧ (q < dP d ∧ p = nI q)) ∧ (∀ v : Int32, v = nI (loadL d (dL d) q) → Kr (some (.inl v)) σ)) → Wk 0 [some (.inr (.inr (1, 0))), some (.inl p), none] [] σ)) : sv_C l yX1_loadOf cX1_loadOf 3 (some .int) sv_all 3 65 sp_X1_loadOf := by
  refine sv_meth sv_clok_all tb_X1_loadOf T_X1_loadOf (by decide) tbk_X1_loadOf (Tok_X1_loadOf l) ?_
  intro Wk Kr hc av σ hsp
  have hB := hb Wk Kr (fun p σ h => hc [] 500 0 _ _ _ (bk_X1_loadOf_0 Wk Kr p σ h))
  unfold sp_X1_loadOf at hsp
  split at hsp
  · exact ⟨⟨by simp, by simp [sv_cat]⟩, hB _ _ hsp⟩
  · exact hsp.elim
set_option maxHeartbeats 4000000 in
set_option maxRecDepth 100000 in
theorem c_X1_loadOf (l : Launch) : sv_C l yX1_loadOf cX1_loadOf 3 (some .int) sv_all 3 65 sp_X1_loadOf := by
  refine m_X1_loadOf l ?_
  intro Wk Kr e0 p σ ⟨d, q, ⟨hR, hQ, hF, hq, hp⟩, h⟩
  have hP := hR.1.1
  have hLt := fun p (hp : p < dP d) => dL_lt hR.1 hQ.1 hp
  subst hp
  apply e0
  unfold F_X1_loadOf_0
  rw [nI_clamp (by omega)]
  refine ⟨pk_in q 10 (by omega), d, fetL (dL d) q, ⟨hR, fetL_lt (hLt q hq), (hF q hq).1⟩, fun v3 h3 => ⟨fun z => ?_, fun z => h _ ?_⟩⟩
  · have hq0 : q ≠ 0 := fun y => z (by rw [y]; rfl)
    obtain ⟨r, rfl⟩ : ∃ r, q = r + 1 := ⟨q - 1, by omega⟩
    rw [nI_pred, nI_clamp (by omega)]
    refine ⟨pk_in r 10 (by omega), d, rtnL d (dL d) r, ⟨hR, rtnL_lt (fun q hq => hLt q (by omega)), (hF r (by omega)).2⟩, fun v6 h6 => h _ ?_⟩
    rw [h3, h6, nI_add]
    unfold loadL
    rw [if_neg (by omega), Nat.add_sub_cancel]
  · have hq0 : q = 0 := (nI_eq (by omega) (by omega)).mp (show nI q = nI 0 from z)
    rw [h3]
    unfold loadL
    rw [if_pos hq0, Nat.add_zero]
-- ==== X1_stallOf
def sp_X1_stallOf : sv_P := fun av σ K => match av with
  | [.inr (.inr (1, 0)), .inl p, .inl kind] => ∃ d : dD, ∃ q : Nat, ∃ k : Nat, (RP d σ ∧ RQ d σ ∧ FW d σ ∧ (q < dP d ∧ p = nI q) ∧ (k < 2 ∧ kind = nI k)) ∧ (∀ v : Int32, v = nI (stallL d (dL d) k q) → K (some (.inl v)) σ)
  | _ => False
def tb_X1_stallOf : List (Nat × (Instr × Nat)) := [(0, (.iload_n 1, 1)), (1, (.ifCond .ne 9, 3)), (4, (.aload_n 0, 1)), (5, (.iload_n 1, 1)), (6, (.invokevirtual 50, 3)), (9, (.ireturn, 1)), (10, (.iconst 0, 1)), (11, (.aload_n 0, 1)), (12, (.iload_n 1, 1)), (13, (.invokevirtual 50, 3)), (16, (.aload_n 0, 1)), (17, (.iload_n 1, 1)), (18, (.iconst 1, 1)), (19, (.isub, 1)), (20, (.iload_n 2, 1)), (21, (.invokevirtual 44, 3)), (24, (.isub, 1)), (25, (.invokestatic 53, 3)), (28, (.ireturn, 1))]
set_option maxRecDepth 100000 in
theorem tbk_X1_stallOf : sv_tbok cX1_stallOf tb_X1_stallOf = true := by decide +kernel
def cal_X1_stallOf : List (Nat × (Nat × Nat × sv_P)) := [(50, (2, 1, sp_X1_loadOf)), (44, (3, 1, sp_X1_workOf)), (53, (2, 90, sp_J9_max_7cf53))]
def T_X1_stallOf : sv_T := (flX1, sfX1, kcX1, klX1, cal_X1_stallOf)
set_option maxRecDepth 100000 in
theorem Tok_X1_stallOf (l : Launch) : sv_Tok l RX1 sv_all 4 87 T_X1_stallOf := ⟨flokX1, sfokX1, kcokX1, klokX1, List.forall_mem_cons.mpr ⟨⟨fun _ => sv_COv_of (c_X1_loadOf l) sv_clok_all (sv_mem 542 (by decide +kernel) rfl) kw_X1_loadOf.1 kw_X1_loadOf.2.1 kw_X1_loadOf.2.2.1 kw_X1_loadOf.2.2.2 kd_X1_loadOf rfl (by decide) (by decide +kernel) rfl (by decide), fun h => absurd h (by decide)⟩, List.forall_mem_cons.mpr ⟨⟨fun _ => sv_COv_of (c_X1_workOf l) sv_clok_all (sv_mem 414 (by decide +kernel) rfl) kw_X1_workOf.1 kw_X1_workOf.2.1 kw_X1_workOf.2.2.1 kw_X1_workOf.2.2.2 kd_X1_workOf rfl (by decide) (by decide +kernel) rfl (by decide), fun h => absurd h (by decide)⟩, List.forall_mem_cons.mpr ⟨⟨fun h => absurd h (by decide), fun _ => sv_COs_max (sv_mem 543 (by decide +kernel) rfl) (by decide) (by decide)⟩, fun _ h => absurd h List.not_mem_nil⟩⟩⟩⟩
theorem kw_X1_stallOf : Cond.instanceMethod yX1_stallOf ∈ sv_tb ∧ Cond.selects yX1_stallOf.cls yX1_stallOf yX1_stallOf ∈ sv_tb ∧ Cond.initialized yX1_stallOf.cls ∈ sv_tb ∧ Cond.code yX1_stallOf cX1_stallOf 3 (some .int) ∈ sv_tb := ⟨sv_mem 539 (by decide +kernel) rfl, sv_mem 540 (by decide +kernel) rfl, sv_mem 53 (by decide +kernel) rfl, sv_mem 541 (by decide +kernel) rfl⟩
theorem kd_X1_stallOf : yX1_stallOf.cls ≠ "java/lang/invoke/MethodHandle" ∧ yX1_stallOf.cls ≠ "java/lang/invoke/VarHandle" ∧ (parseMethodDescriptor yX1_stallOf.desc).map (fun d => d.parameters.length) = some 2 := by decide +kernel
def F_X1_stallOf_0 (Wk : sv_K) (Kr : Option sv_AV → sv_S → Prop) (p : Int32) (kind : Int32) (σ : sv_S) : Prop := ((¬ p = (0 : Int32) → (∃ d1 : dD, ∃ q2 : Nat, (RP d1 σ ∧ RQ d1 σ ∧ FW d1 σ ∧ (q2 < dP d1 ∧ p = nI q2)) ∧ (∀ v3 : Int32, v3 = nI (loadL d1 (dL d1) q2) → (∃ d4 : dD, ∃ q5 : Nat, ∃ k6 : Nat, (RP d4 σ ∧ RQ d4 σ ∧ (q5 < dP d4 ∧ (p - (1 : Int32)) = nI q5) ∧ (k6 < 2 ∧ kind = nI k6)) ∧ (∀ v7 : Int32, v7 = nI (work d4 q5 k6 (dL d4 q5)) → Kr (some (.inl (if (0 : Int32) < (v3 - v7) then (v3 - v7) else (0 : Int32)))) σ))))) ∧ (p = (0 : Int32) → (∃ d8 : dD, ∃ q9 : Nat, (RP d8 σ ∧ RQ d8 σ ∧ FW d8 σ ∧ (q9 < dP d8 ∧ p = nI q9)) ∧ (∀ v10 : Int32, v10 = nI (loadL d8 (dL d8) q9) → Kr (some (.inl v10)) σ))))
set_option maxRecDepth 100000 in
theorem bk_X1_stallOf_0 (Wk : sv_K) (Kr : Option sv_AV → sv_S → Prop) (p : Int32) (kind : Int32) (σ : sv_S) (h : F_X1_stallOf_0 Wk Kr p kind σ) : sv_vc tb_X1_stallOf T_X1_stallOf sv_all (some .int) Kr [] Wk 500 0 [some (.inr (.inr (1, 0))), some (.inl p), some (.inl kind)] [] σ := h
set_option maxRecDepth 100000 in
theorem m_X1_stallOf (l : Launch) (hb : ∀ (Wk : sv_K) (Kr : Option sv_AV → sv_S → Prop), (∀ (p : Int32) (kind : Int32) (σ : sv_S), F_X1_stallOf_0 Wk Kr p kind σ → Wk 0 [some (.inr (.inr (1, 0))), some (.inl p), some (.inl kind)] [] σ) → (∀ (p : Int32) (kind : Int32) (σ : sv_S), (∃ d : dD, ∃ q : Nat, ∃ k : Nat, (RP d σ ∧ RQ d σ ∧ FW d σ ∧ (q < dP d ∧ p = nI q) ∧ (k < 2 ∧ kind = nI k)) ∧ (∀ v : Int32, v = nI (stallL d (dL d) k q) → Kr (some (.inl v)) σ)) → Wk 0 [some (.inr (.inr (1, 0))), some (.inl p), some (.inl kind)] [] σ)) : sv_C l yX1_stallOf cX1_stallOf 3 (some .int) sv_all 4 87 sp_X1_stallOf := by
  refine sv_meth sv_clok_all tb_X1_stallOf T_X1_stallOf (by decide) tbk_X1_stallOf (Tok_X1_stallOf l) ?_
  intro Wk Kr hc av σ hsp
  have hB := hb Wk Kr (fun p kind σ h => hc [] 500 0 _ _ _ (bk_X1_stallOf_0 Wk Kr p kind σ h))
  unfold sp_X1_stallOf at hsp
  split at hsp
  · exact ⟨⟨by simp, by simp [sv_cat]⟩, hB _ _ _ hsp⟩
  · exact hsp.elim
theorem sd_max0 {a b : Nat} (ha : a < 2 ^ 30) (hb : b < 2 ^ 30) : (if (0 : Int32) < nI a - nI b then nI a - nI b else (0 : Int32)) = nI (a - b) := by
  by_cases h : b < a
  · rw [if_pos, pk_sub (by omega)]
    rw [Int32.lt_iff_toInt_lt, pk_sub_toInt ha hb]
    show (0 : Int) < _
    omega
  · rw [if_neg, show a - b = 0 by omega]
    · rfl
    · rw [Int32.lt_iff_toInt_lt, pk_sub_toInt ha hb]
      show ¬ (0 : Int) < _
      omega
theorem loadL_le {d : dD} (h : wfP d) (L : Nat → Nat) (p : Nat) : loadL d L p ≤ 4000 := by
  have h1 := carry_le h (fetL L p)
  have h2 := carry_le h (rtnL d L (p - 1))
  unfold loadL
  split <;> omega
set_option maxHeartbeats 4000000 in
set_option maxRecDepth 100000 in
theorem c_X1_stallOf (l : Launch) : sv_C l yX1_stallOf cX1_stallOf 3 (some .int) sv_all 4 87 sp_X1_stallOf := by
  refine m_X1_stallOf l ?_
  intro Wk Kr e0 p kind σ ⟨d, q, k, ⟨hR, hQ, hF, ⟨hq, hp⟩, hk, hkd⟩, h⟩
  have hP := hR.1.1
  subst hp
  apply e0
  unfold F_X1_stallOf_0
  refine ⟨fun z => ?_, fun z => ?_⟩
  · have hq0 : q ≠ 0 := fun y => z (by rw [y]; rfl)
    obtain ⟨r, rfl⟩ : ∃ r, q = r + 1 := ⟨q - 1, by omega⟩
    refine ⟨d, r + 1, ⟨hR, hQ, hF, hq, rfl⟩, fun v3 h3 => ⟨d, r, k, ⟨hR, hQ, ⟨by omega, nI_pred r⟩, hk, hkd⟩, fun v7 h7 => h _ ?_⟩⟩
    have l1 := loadL_le hR.1 (dL d) (r + 1)
    have l2 := work_le hR.1 (p := r) (k := k) (by omega) hk (dL d r)
    rw [h3, h7, sd_max0 (by omega) (by omega)]
    unfold stallL
    rw [if_neg (by omega), Nat.add_sub_cancel]
  · have hq0 : q = 0 := (nI_eq (by omega) (by omega)).mp (show nI q = nI 0 from z)
    refine ⟨d, q, ⟨hR, hQ, hF, hq, rfl⟩, fun v3 h3 => h _ ?_⟩
    rw [h3]
    unfold stallL
    rw [if_pos hq0]
-- ==== X1_timeBy
def sp_X1_timeBy : sv_P := fun av σ K => match av with
  | [.inr (.inr (1, 0)), .inl kind] => ∃ d : dD, ∃ k : Nat, (RP d σ ∧ RQ d σ ∧ FW d σ ∧ (k < 2 ∧ kind = nI k)) ∧ (∀ v : Int32, v = nI (timeL d (dL d) k) → K (some (.inl v)) σ)
  | _ => False
def tb_X1_timeBy : List (Nat × (Instr × Nat)) := [(0, (.aload_n 0, 1)), (1, (.getfield 21, 3)), (4, (.getfield 25, 3)), (7, (.ifCond .ne 5, 3)), (10, (.iconst 0, 1)), (11, (.ireturn, 1)), (12, (.aload_n 0, 1)), (13, (.getfield 21, 3)), (16, (.aload_n 0, 1)), (17, (.getfield 18, 3)), (20, (.aload_n 0, 1)), (21, (.getfield 21, 3)), (24, (.getfield 25, 3)), (27, (.iconst 1, 1)), (28, (.isub, 1)), (29, (.iaload, 1)), (30, (.invokevirtual 47, 3)), (33, (.istore_n 2, 1)), (34, (.iconst 0, 1)), (35, (.istore_n 3, 1)), (36, (.iload_n 3, 1)), (37, (.aload_n 0, 1)), (38, (.getfield 21, 3)), (41, (.getfield 25, 3)), (44, (.if_icmp .ge 25, 3)), (47, (.iload_n 2, 1)), (48, (.aload_n 0, 1)), (49, (.iload_n 3, 1)), (50, (.iload_n 1, 1)), (51, (.invokevirtual 44, 3)), (54, (.aload_n 0, 1)), (55, (.iload_n 3, 1)), (56, (.iload_n 1, 1)), (57, (.invokevirtual 58, 3)), (60, (.iadd, 1)), (61, (.iadd, 1)), (62, (.istore_n 2, 1)), (63, (.iinc 3 1, 3)), (66, (.goto (-30), 3)), (69, (.iload_n 2, 1)), (70, (.ireturn, 1))]
set_option maxRecDepth 100000 in
theorem tbk_X1_timeBy : sv_tbok cX1_timeBy tb_X1_timeBy = true := by decide +kernel
def cal_X1_timeBy : List (Nat × (Nat × Nat × sv_P)) := [(47, (2, 2, sp_X2_carryOf)), (44, (3, 1, sp_X1_workOf)), (58, (3, 1, sp_X1_stallOf))]
def T_X1_timeBy : sv_T := (flX1, sfX1, kcX1, klX1, cal_X1_timeBy)
set_option maxRecDepth 100000 in
theorem Tok_X1_timeBy (l : Launch) : sv_Tok l RX1 sv_all 5 109 T_X1_timeBy := ⟨flokX1, sfokX1, kcokX1, klokX1, List.forall_mem_cons.mpr ⟨⟨fun _ => sv_COv_of (c_X2_carryOf l) sv_clok_all (sv_mem 419 (by decide +kernel) rfl) kw_X2_carryOf.1 kw_X2_carryOf.2.1 kw_X2_carryOf.2.2.1 kw_X2_carryOf.2.2.2 kd_X2_carryOf rfl (by decide) (by decide +kernel) rfl (by decide), fun h => absurd h (by decide)⟩, List.forall_mem_cons.mpr ⟨⟨fun _ => sv_COv_of (c_X1_workOf l) sv_clok_all (sv_mem 414 (by decide +kernel) rfl) kw_X1_workOf.1 kw_X1_workOf.2.1 kw_X1_workOf.2.2.1 kw_X1_workOf.2.2.2 kd_X1_workOf rfl (by decide) (by decide +kernel) rfl (by decide), fun h => absurd h (by decide)⟩, List.forall_mem_cons.mpr ⟨⟨fun _ => sv_COv_of (c_X1_stallOf l) sv_clok_all (sv_mem 552 (by decide +kernel) rfl) kw_X1_stallOf.1 kw_X1_stallOf.2.1 kw_X1_stallOf.2.2.1 kw_X1_stallOf.2.2.2 kd_X1_stallOf rfl (by decide) (by decide +kernel) rfl (by decide), fun h => absurd h (by decide)⟩, fun _ h => absurd h List.not_mem_nil⟩⟩⟩⟩
theorem kw_X1_timeBy : Cond.instanceMethod yX1_timeBy ∈ sv_tb ∧ Cond.selects yX1_timeBy.cls yX1_timeBy yX1_timeBy ∈ sv_tb ∧ Cond.initialized yX1_timeBy.cls ∈ sv_tb ∧ Cond.code yX1_timeBy cX1_timeBy 4 (some .int) ∈ sv_tb := ⟨sv_mem 549 (by decide +kernel) rfl, sv_mem 550 (by decide +kernel) rfl, sv_mem 53 (by decide +kernel) rfl, sv_mem 551 (by decide +kernel) rfl⟩
theorem kd_X1_timeBy : yX1_timeBy.cls ≠ "java/lang/invoke/MethodHandle" ∧ yX1_timeBy.cls ≠ "java/lang/invoke/VarHandle" ∧ (parseMethodDescriptor yX1_timeBy.desc).map (fun d => d.parameters.length) = some 1 := by decide +kernel
def F_X1_timeBy_0 (Wk : sv_K) (Kr : Option sv_AV → sv_S → Prop) (kind : Int32) (σ : sv_S) : Prop := ((¬ (sv_gA σ 2 0 0) = (0 : Int32) → (vp_in ((sv_gA σ 2 0 0) - (1 : Int32)) 10 ∧ (∃ d1 : dD, ∃ c2 : Nat, (RP d1 σ ∧ (c2 < 32 ∧ (sv_gA σ 19 0 ((sv_gA σ 2 0 0) - (1 : Int32)).toNatClampNeg) = nI c2)) ∧ (∀ v3 : Int32, v3 = nI (carry d1 c2) → Wk 36 [some (.inr (.inr (1, 0))), some (.inl kind), some (.inl v3), some (.inl (0 : Int32))] [] σ)))) ∧ ((sv_gA σ 2 0 0) = (0 : Int32) → Kr (some (.inl (0 : Int32))) σ))
set_option maxRecDepth 100000 in
theorem bk_X1_timeBy_0 (Wk : sv_K) (Kr : Option sv_AV → sv_S → Prop) (kind : Int32) (σ : sv_S) (h : F_X1_timeBy_0 Wk Kr kind σ) : sv_vc tb_X1_timeBy T_X1_timeBy sv_all (some .int) Kr [(36, [true, true, true, true])] Wk 500 0 [some (.inr (.inr (1, 0))), some (.inl kind), none, none] [] σ := h
def F_X1_timeBy_36 (Wk : sv_K) (Kr : Option sv_AV → sv_S → Prop) (x1 : Int32) (x2 : Int32) (x3 : Int32) (σ : sv_S) : Prop := (((sv_gA σ 2 0 0) ≤ x3 → Kr (some (.inl x2)) σ) ∧ (¬ (sv_gA σ 2 0 0) ≤ x3 → (∃ d1 : dD, ∃ q2 : Nat, ∃ k3 : Nat, (RP d1 σ ∧ RQ d1 σ ∧ (q2 < dP d1 ∧ x3 = nI q2) ∧ (k3 < 2 ∧ x1 = nI k3)) ∧ (∀ v4 : Int32, v4 = nI (work d1 q2 k3 (dL d1 q2)) → (∃ d5 : dD, ∃ q6 : Nat, ∃ k7 : Nat, (RP d5 σ ∧ RQ d5 σ ∧ FW d5 σ ∧ (q6 < dP d5 ∧ x3 = nI q6) ∧ (k7 < 2 ∧ x1 = nI k7)) ∧ (∀ v8 : Int32, v8 = nI (stallL d5 (dL d5) k7 q6) → Wk 36 [some (.inr (.inr (1, 0))), some (.inl x1), some (.inl (x2 + (v4 + v8))), some (.inl (x3 + (1 : Int32)))] [] σ))))))
set_option maxRecDepth 100000 in
theorem bk_X1_timeBy_36 (Wk : sv_K) (Kr : Option sv_AV → sv_S → Prop) (x1 : Int32) (x2 : Int32) (x3 : Int32) (σ : sv_S) (h : F_X1_timeBy_36 Wk Kr x1 x2 x3 σ) : sv_vc tb_X1_timeBy T_X1_timeBy sv_all (some .int) Kr [(36, [true, true, true, true])] Wk 500 36 [some (.inr (.inr (1, 0))), some (.inl x1), some (.inl x2), some (.inl x3)] [] σ := h
set_option maxRecDepth 100000 in
theorem m_X1_timeBy (l : Launch) (hb : ∀ (Wk : sv_K) (Kr : Option sv_AV → sv_S → Prop), (∀ (kind : Int32) (σ : sv_S), F_X1_timeBy_0 Wk Kr kind σ → Wk 0 [some (.inr (.inr (1, 0))), some (.inl kind), none, none] [] σ) → (∀ (x1 : Int32) (x2 : Int32) (x3 : Int32) (σ : sv_S), F_X1_timeBy_36 Wk Kr x1 x2 x3 σ → Wk 36 [some (.inr (.inr (1, 0))), some (.inl x1), some (.inl x2), some (.inl x3)] [] σ) → (∀ (kind : Int32) (σ : sv_S), (∃ d : dD, ∃ k : Nat, (RP d σ ∧ RQ d σ ∧ FW d σ ∧ (k < 2 ∧ kind = nI k)) ∧ (∀ v : Int32, v = nI (timeL d (dL d) k) → Kr (some (.inl v)) σ)) → Wk 0 [some (.inr (.inr (1, 0))), some (.inl kind), none, none] [] σ)) : sv_C l yX1_timeBy cX1_timeBy 4 (some .int) sv_all 5 109 sp_X1_timeBy := by
  refine sv_meth sv_clok_all tb_X1_timeBy T_X1_timeBy (by decide) tbk_X1_timeBy (Tok_X1_timeBy l) ?_
  intro Wk Kr hc av σ hsp
  have hB := hb Wk Kr (fun kind σ h => hc [(36, [true, true, true, true])] 500 0 _ _ _ (bk_X1_timeBy_0 Wk Kr kind σ h)) (fun x1 x2 x3 σ h => hc [(36, [true, true, true, true])] 500 36 _ _ _ (bk_X1_timeBy_36 Wk Kr x1 x2 x3 σ h))
  unfold sp_X1_timeBy at hsp
  split at hsp
  · exact ⟨⟨by simp, by simp [sv_cat]⟩, hB _ _ hsp⟩
  · exact hsp.elim
set_option maxHeartbeats 4000000 in
set_option maxRecDepth 100000 in
theorem c_X1_timeBy (l : Launch) : sv_C l yX1_timeBy cX1_timeBy 4 (some .int) sv_all 5 109 sp_X1_timeBy := by
  refine m_X1_timeBy l ?_
  intro Wk Kr e0 e36 kind σ ⟨d, k, ⟨hR, hQ, hF, hk, hkd⟩, h⟩
  have hP := hR.1.1
  have hLt := fun p (hp : p < dP d) => dL_lt hR.1 hQ.1 hp
  subst hkd
  apply e0
  unfold F_X1_timeBy_0
  rw [hR.2.1]
  refine ⟨fun z => ?_, fun z => h _ ?_⟩
  · have hq0 : dP d ≠ 0 := fun y => z (by rw [y]; rfl)
    have ep : nI (dP d) - 1 = nI (dP d - 1) := by
      have := nI_pred (dP d - 1)
      rwa [show dP d - 1 + 1 = dP d by omega] at this
    rw [ep, nI_clamp (by omega)]
    refine ⟨pk_in (dP d - 1) 10 (by omega), d, rtnL d (dL d) (dP d - 1), ⟨hR, rtnL_lt (fun q hq => hLt q (by omega)), (hF _ (by omega)).2⟩, fun v3 h3 => ?_⟩
    subst h3
    have key : ∀ m n, n + m = dP d → Wk 36 [some (.inr (.inr (1, 0))), some (.inl (nI k)), some (.inl (nI (carry d (rtnL d (dL d) (dP d - 1)) + sm (fun p => work d p k (dL d p) + stallL d (dL d) k p) n))), some (.inl (nI n))] [] σ := by
      intro m
      induction m with
      | zero =>
        intro n hn
        apply e36
        unfold F_X1_timeBy_36
        rw [hR.2.1]
        refine pk_le (dP d) n (fun z => h _ ?_) (fun z => by omega)
        rw [show n = dP d by omega]
        unfold timeL
        rw [if_neg hq0]
      | succ m ih =>
        intro n hn
        apply e36
        unfold F_X1_timeBy_36
        rw [hR.2.1]
        refine pk_le (dP d) n (fun z => by omega) (fun z => ⟨d, n, k, ⟨hR, hQ, ⟨by omega, rfl⟩, hk, rfl⟩, fun v4 h4 => ⟨d, n, k, ⟨hR, hQ, hF, ⟨by omega, rfl⟩, hk, rfl⟩, fun v8 h8 => ?_⟩⟩)
        rw [h4, h8, nI_1, nI_add, nI_add, Nat.add_assoc]
        exact ih (n + 1) (by omega)
    exact key (dP d) 0 (by omega)
  · have hq0 : dP d = 0 := (nI_eq (by omega) (by omega)).mp (show nI (dP d) = nI 0 from z)
    unfold timeL
    rw [if_pos hq0]
    rfl
