-- ==== X0_fillToGo
def sp_X0_fillToGo : sv_P := fun av σ K => match av with
  | [.inr (.inr (0, 0)), .inl kind, .inl room] => ∃ d : dD, ∃ k : Nat, ∃ r : Nat, (RP d σ ∧ FT σ ∧ CLS d σ ∧ (k < 2 ∧ kind = nI k) ∧ (r ≤ 60 ∧ room = nI r)) ∧ (∀ σ2 : sv_S, sq [11, 13] σ σ2 ∧ TG d k r σ2 ∧ (∀ i j, ¬ (i = k ∧ j = r) → sv_gA σ2 13 i j = sv_gA σ 13 i j) ∧ sv_gA σ2 13 k r = nI (bst d k r) → K none σ2)
  | _ => False
def tb_X0_fillToGo : List (Nat × (Instr × Nat)) := [(0, (.getstatic 107, 3)), (3, (.aload_n 0, 1)), (4, (.getfield 39, 3)), (7, (.invokevirtual 72, 3)), (10, (.iconst 1, 1)), (11, (.isub, 1)), (12, (.iaload, 1)), (13, (.iconst 2, 1)), (14, (.imul, 1)), (15, (.iconst 1, 1)), (16, (.iadd, 1)), (17, (.istore_n 3, 1)), (18, (.aload_n 0, 1)), (19, (.getfield 27, 3)), (22, (.aload_n 0, 1)), (23, (.getfield 39, 3)), (26, (.getfield 80, 3)), (29, (.aaload, 1)), (30, (.iconst 0, 1)), (31, (.invokestatic 96, 3)), (34, (.aload_n 0, 1)), (35, (.getfield 39, 3)), (38, (.getfield 80, 3)), (41, (.iconst 1, 1)), (42, (.isub, 1)), (43, (.istore 4, 2)), (45, (.iload 4, 2)), (47, (.ifCond .lt 62, 3)), (50, (.aload_n 0, 1)), (51, (.aload_n 0, 1)), (52, (.getfield 27, 3)), (55, (.iload 4, 2)), (57, (.iconst 1, 1)), (58, (.iadd, 1)), (59, (.aaload, 1)), (60, (.aload_n 0, 1)), (61, (.getfield 27, 3)), (64, (.iload 4, 2)), (66, (.aaload, 1)), (67, (.iload_n 3, 1)), (68, (.iload_n 2, 1)), (69, (.invokevirtual 110, 3)), (72, (.iconst 0, 1)), (73, (.istore 5, 2)), (75, (.iload 5, 2)), (77, (.aload_n 0, 1)), (78, (.getfield 39, 3)), (81, (.getfield 114, 3)), (84, (.if_icmp .ge 19, 3)), (87, (.aload_n 0, 1)), (88, (.iload 5, 2)), (90, (.iload 4, 2)), (92, (.iload_n 1, 1)), (93, (.iload_n 3, 1)), (94, (.invokevirtual 117, 3)), (97, (.iinc 5 1, 3)), (100, (.goto (-25), 3)), (103, (.iinc 4 (-1), 3)), (106, (.goto (-61), 3)), (109, (.aload_n 0, 1)), (110, (.getfield 30, 3)), (113, (.iload_n 1, 1)), (114, (.aaload, 1)), (115, (.iload_n 2, 1)), (116, (.aload_n 0, 1)), (117, (.getfield 27, 3)), (120, (.iconst 0, 1)), (121, (.aaload, 1)), (122, (.iconst 0, 1)), (123, (.iaload, 1)), (124, (.iastore, 1)), (125, (.return_, 1))]
set_option maxRecDepth 100000 in
theorem tbk_X0_fillToGo : sv_tbok cX0_fillToGo tb_X0_fillToGo = true := by decide +kernel
def cal_X0_fillToGo : List (Nat × (Nat × Nat × sv_P)) := [(72, (1, 2, sp_X2_countSets)), (96, (2, 90, sp_J7_fill_53178)), (110, (5, 0, sp_X0_takeFitting)), (117, (5, 0, sp_X0_chooseFor))]
def T_X0_fillToGo : sv_T := (flX0, sfX0, kcX0, klX0, cal_X0_fillToGo)
set_option maxRecDepth 100000 in
theorem Tok_X0_fillToGo (l : Launch) : sv_Tok l RX0 sv_all 4 103 T_X0_fillToGo := ⟨flokX0, sfokX0, kcokX0, klokX0, List.forall_mem_cons.mpr ⟨⟨fun _ => sv_COv_of (c_X2_countSets l) sv_clok_all (sv_mem 361 (by decide +kernel) rfl) kw_X2_countSets.1 kw_X2_countSets.2.1 kw_X2_countSets.2.2.1 kw_X2_countSets.2.2.2 kd_X2_countSets rfl (by decide) (by decide +kernel) rfl (by decide), fun h => absurd h (by decide)⟩, List.forall_mem_cons.mpr ⟨⟨fun h => absurd h (by decide), fun _ => sv_COs_gen (c_J7_fill_53178 l) (Or.inl (sv_mem 371 (by decide +kernel) rfl)) kw_J7_fill_53178.1 kw_J7_fill_53178.2.1 kw_J7_fill_53178.2.2 kd_J7_fill_53178 rfl (by decide) (by decide +kernel)⟩, List.forall_mem_cons.mpr ⟨⟨fun _ => sv_COv_of (c_X0_takeFitting l) sv_clok_all (sv_mem 385 (by decide +kernel) rfl) kw_X0_takeFitting.1 kw_X0_takeFitting.2.1 kw_X0_takeFitting.2.2.1 kw_X0_takeFitting.2.2.2 kd_X0_takeFitting rfl (by decide) (by decide +kernel) rfl (by decide), fun h => absurd h (by decide)⟩, List.forall_mem_cons.mpr ⟨⟨fun _ => sv_COv_of (c_X0_chooseFor l) sv_clok_all (sv_mem 390 (by decide +kernel) rfl) kw_X0_chooseFor.1 kw_X0_chooseFor.2.1 kw_X0_chooseFor.2.2.1 kw_X0_chooseFor.2.2.2 kd_X0_chooseFor rfl (by decide) (by decide +kernel) rfl (by decide), fun h => absurd h (by decide)⟩, fun _ h => absurd h List.not_mem_nil⟩⟩⟩⟩⟩
theorem kw_X0_fillToGo : Cond.instanceMethod yX0_fillToGo ∈ sv_tb ∧ Cond.selects yX0_fillToGo.cls yX0_fillToGo yX0_fillToGo ∈ sv_tb ∧ Cond.initialized yX0_fillToGo.cls ∈ sv_tb ∧ Cond.code yX0_fillToGo cX0_fillToGo 6 none ∈ sv_tb := ⟨sv_mem 381 (by decide +kernel) rfl, sv_mem 5 (by decide +kernel) rfl, sv_mem 54 (by decide +kernel) rfl, sv_mem 382 (by decide +kernel) rfl⟩
theorem kd_X0_fillToGo : yX0_fillToGo.cls ≠ "java/lang/invoke/MethodHandle" ∧ yX0_fillToGo.cls ≠ "java/lang/invoke/VarHandle" ∧ (parseMethodDescriptor yX0_fillToGo.desc).map (fun d => d.parameters.length) = some 2 := by decide +kernel
def F_X0_fillToGo_0 (Wk : sv_K) (Kr : Option sv_AV → sv_S → Prop) (kind : Int32) (room : Int32) (σ : sv_S) : Prop := (∃ d1 : dD, (RP d1 σ) ∧ (∀ v2 : Int32, v2 = nI (2 ^ dT d1) → (vp_in (v2 - (1 : Int32)) 32 ∧ (vp_in (sv_gA σ 2 0 0) 11 ∧ ((∀ σ4 : sv_S, σ4 = sd_fillrow σ 11 ((sv_gA σ 2 0 0).toNatClampNeg) (0 : Int32) → Wk 45 [some (.inr (.inr (0, 0))), some (.inl kind), some (.inl room), some (.inl (((sv_tab 44 (v2 - (1 : Int32)).toNatClampNeg) * (2 : Int32)) + (1 : Int32))), some (.inl ((sv_gA σ4 2 0 0) - (1 : Int32))), none] [] σ4))))))
set_option maxRecDepth 100000 in
theorem bk_X0_fillToGo_0 (Wk : sv_K) (Kr : Option sv_AV → sv_S → Prop) (kind : Int32) (room : Int32) (σ : sv_S) (h : F_X0_fillToGo_0 Wk Kr kind room σ) : sv_vc tb_X0_fillToGo T_X0_fillToGo sv_all none Kr [(45, [true, true, true, true, true, false]), (75, [true, true, true, true, true, true])] Wk 500 0 [some (.inr (.inr (0, 0))), some (.inl kind), some (.inl room), none, none, none] [] σ := h
def F_X0_fillToGo_45 (Wk : sv_K) (Kr : Option sv_AV → sv_S → Prop) (x1 : Int32) (x2 : Int32) (x3 : Int32) (x4 : Int32) (σ : sv_S) : Prop := ((x4 < (0 : Int32) → (vp_in x1 2 ∧ (vp_in x2 61 ∧ Kr none (sv_sA σ 13 x1.toNatClampNeg x2.toNatClampNeg (sv_gA σ 11 0 0))))) ∧ (¬ x4 < (0 : Int32) → (vp_in (x4 + (1 : Int32)) 11 ∧ (vp_in x4 11 ∧ (∃ d1 : dD, ∃ r2 : Nat, (RP d1 σ ∧ FT σ ∧ CLS d1 σ ∧ (r2 ≤ 60 ∧ x2 = nI r2) ∧ x3 = nI (3 ^ dT d1) ∧ ((x4 + (1 : Int32)).toNatClampNeg) ≠ (x4.toNatClampNeg)) ∧ (∀ σ4 : sv_S, sq [11] σ σ4 ∧ (∀ i j, i ≠ (x4.toNatClampNeg) → sv_gA σ4 11 i j = sv_gA σ 11 i j) ∧ (∀ j, j < 3 ^ dT d1 → sv_gA σ4 11 (x4.toNatClampNeg) j = if cells d1 (sIn j) ≤ r2 then sv_gA σ 11 ((x4 + (1 : Int32)).toNatClampNeg) j else 1000000000) → Wk 75 [some (.inr (.inr (0, 0))), some (.inl x1), some (.inl x2), some (.inl x3), some (.inl x4), some (.inl (0 : Int32))] [] σ4))))))
set_option maxRecDepth 100000 in
theorem bk_X0_fillToGo_45 (Wk : sv_K) (Kr : Option sv_AV → sv_S → Prop) (x1 : Int32) (x2 : Int32) (x3 : Int32) (x4 : Int32) (σ : sv_S) (h : F_X0_fillToGo_45 Wk Kr x1 x2 x3 x4 σ) : sv_vc tb_X0_fillToGo T_X0_fillToGo sv_all none Kr [(45, [true, true, true, true, true, false]), (75, [true, true, true, true, true, true])] Wk 500 45 [some (.inr (.inr (0, 0))), some (.inl x1), some (.inl x2), some (.inl x3), some (.inl x4), none] [] σ := ⟨fun z5 => ⟨(((h).1 z5)).1, ⟨sb_vin (by decide), ⟨sb_vin (by decide), ⟨(((((h).1 z5)).2)).1, ⟨rfl, ((((((h).1 z5)).2)).2)⟩⟩⟩⟩⟩, fun z5 => ((h).2 z5)⟩
def F_X0_fillToGo_75 (Wk : sv_K) (Kr : Option sv_AV → sv_S → Prop) (x1 : Int32) (x2 : Int32) (x3 : Int32) (x4 : Int32) (x5 : Int32) (σ : sv_S) : Prop := (((sv_gA σ 2 0 1) ≤ x5 → Wk 45 [some (.inr (.inr (0, 0))), some (.inl x1), some (.inl x2), some (.inl x3), some (.inl (x4 + (-1 : Int32))), none] [] σ) ∧ (¬ (sv_gA σ 2 0 1) ≤ x5 → (∃ d1 : dD, ∃ e2 : Nat, ∃ q3 : Nat, ∃ k4 : Nat, ∃ R5 : Nat → Nat, (RP d1 σ ∧ FT σ ∧ (e2 < dT d1 ∧ x5 = nI e2) ∧ (q3 < dP d1 ∧ x4 = nI q3) ∧ (k4 < 2 ∧ x1 = nI k4) ∧ x3 = nI (3 ^ dT d1) ∧ (∀ j, j < 3 ^ dT d1 → R5 j ≤ 1100000000 ∧ sv_gA σ 11 q3 j = nI (R5 j))) ∧ (∀ σ7 : sv_S, sq [11] σ σ7 ∧ (∀ i j, i ≠ q3 → sv_gA σ7 11 i j = sv_gA σ 11 i j) ∧ (∀ j, j < 3 ^ dT d1 → sv_gA σ7 11 q3 j = nI (cfr d1 k4 q3 e2 R5 j)) → Wk 75 [some (.inr (.inr (0, 0))), some (.inl x1), some (.inl x2), some (.inl x3), some (.inl x4), some (.inl (x5 + (1 : Int32)))] [] σ7))))
set_option maxRecDepth 100000 in
theorem bk_X0_fillToGo_75 (Wk : sv_K) (Kr : Option sv_AV → sv_S → Prop) (x1 : Int32) (x2 : Int32) (x3 : Int32) (x4 : Int32) (x5 : Int32) (σ : sv_S) (h : F_X0_fillToGo_75 Wk Kr x1 x2 x3 x4 x5 σ) : sv_vc tb_X0_fillToGo T_X0_fillToGo sv_all none Kr [(45, [true, true, true, true, true, false]), (75, [true, true, true, true, true, true])] Wk 500 75 [some (.inr (.inr (0, 0))), some (.inl x1), some (.inl x2), some (.inl x3), some (.inl x4), some (.inl x5)] [] σ := h
set_option maxRecDepth 100000 in
theorem m_X0_fillToGo (l : Launch) (hb : ∀ (Wk : sv_K) (Kr : Option sv_AV → sv_S → Prop), (∀ (kind : Int32) (room : Int32) (σ : sv_S), F_X0_fillToGo_0 Wk Kr kind room σ → Wk 0 [some (.inr (.inr (0, 0))), some (.inl kind), some (.inl room), none, none, none] [] σ) → (∀ (x1 : Int32) (x2 : Int32) (x3 : Int32) (x4 : Int32) (σ : sv_S), F_X0_fillToGo_45 Wk Kr x1 x2 x3 x4 σ → Wk 45 [some (.inr (.inr (0, 0))), some (.inl x1), some (.inl x2), some (.inl x3), some (.inl x4), none] [] σ) → (∀ (x1 : Int32) (x2 : Int32) (x3 : Int32) (x4 : Int32) (x5 : Int32) (σ : sv_S), F_X0_fillToGo_75 Wk Kr x1 x2 x3 x4 x5 σ → Wk 75 [some (.inr (.inr (0, 0))), some (.inl x1), some (.inl x2), some (.inl x3), some (.inl x4), some (.inl x5)] [] σ) → (∀ (kind : Int32) (room : Int32) (σ : sv_S), (∃ d : dD, ∃ k : Nat, ∃ r : Nat, (RP d σ ∧ FT σ ∧ CLS d σ ∧ (k < 2 ∧ kind = nI k) ∧ (r ≤ 60 ∧ room = nI r)) ∧ (∀ σ2 : sv_S, sq [11, 13] σ σ2 ∧ TG d k r σ2 ∧ (∀ i j, ¬ (i = k ∧ j = r) → sv_gA σ2 13 i j = sv_gA σ 13 i j) ∧ sv_gA σ2 13 k r = nI (bst d k r) → Kr none σ2)) → Wk 0 [some (.inr (.inr (0, 0))), some (.inl kind), some (.inl room), none, none, none] [] σ)) : sv_C l yX0_fillToGo cX0_fillToGo 6 none sv_all 4 103 sp_X0_fillToGo := by
  refine sv_meth sv_clok_all tb_X0_fillToGo T_X0_fillToGo (by decide) tbk_X0_fillToGo (Tok_X0_fillToGo l) ?_
  intro Wk Kr hc av σ hsp
  have hB := hb Wk Kr (fun kind room σ h => hc [(45, [true, true, true, true, true, false]), (75, [true, true, true, true, true, true])] 500 0 _ _ _ (bk_X0_fillToGo_0 Wk Kr kind room σ h)) (fun x1 x2 x3 x4 σ h => hc [(45, [true, true, true, true, true, false]), (75, [true, true, true, true, true, true])] 500 45 _ _ _ (bk_X0_fillToGo_45 Wk Kr x1 x2 x3 x4 σ h)) (fun x1 x2 x3 x4 x5 σ h => hc [(45, [true, true, true, true, true, false]), (75, [true, true, true, true, true, true])] 500 75 _ _ _ (bk_X0_fillToGo_75 Wk Kr x1 x2 x3 x4 x5 σ h))
  unfold sp_X0_fillToGo at hsp
  split at hsp
  · exact ⟨⟨by simp, by simp [sv_cat]⟩, hB _ _ _ hsp⟩
  · exact hsp.elim
theorem csum0_le {d : dD} (h : wfP d) {k p : Nat} (hk : k < 2) (hp : p < dP d) : ∀ (j s : Nat), j ≤ 5 → csum d k p 0 j s ≤ j * 35640
  | 0, s, _ => Nat.zero_le _
  | j + 1, s, hj => by
    have ih := csum0_le h hk hp j (sdg j s (tau (wb d j p) (dg j s) ((0 : Nat).testBit j))) (by omega)
    have hb := (cIn_le h (t := j) hk hp (by omega)).2.1
    have hc : cst d k p j (dg j s) ((0 : Nat).testBit j) = cOut d k p j := by
      rw [Nat.zero_testBit]
      rfl
    show csum d k p 0 j _ + cst d k p j (dg j s) ((0 : Nat).testBit j) ≤ _
    rw [hc]
    omega
theorem m1_sub (a : Int32) : a + (-1) = a - 1 := by rw [Int32.sub_eq_add_neg]
set_option maxHeartbeats 4000000 in
set_option maxRecDepth 100000 in
theorem c_X0_fillToGo (l : Launch) : sv_C l yX0_fillToGo cX0_fillToGo 6 none sv_all 4 103 sp_X0_fillToGo := by
  refine m_X0_fillToGo l ?_
  intro Wk Kr e0 e45 e75 kind room σ ⟨d, k, r, ⟨hR, hFT, hC, ⟨hk, hkd⟩, hr, hroom⟩, h⟩
  subst hkd
  subst hroom
  have hP := hR.1.1
  have hT := hR.1.2.1
  have h243 := three_pow_le hT
  have h32 := two_pow_le hR.1
  have hpos : 0 < 2 ^ dT d := Nat.two_pow_pos _
  have key : ∀ m σ', m ≤ dP d → sq [11] σ σ' → (∀ p, m ≤ p → p ≤ dP d → ∀ s, s < 3 ^ dT d → sv_gA σ' 11 p s = nI (Vm d k r (dP d - p) (sIn s) (sDi s) - carry d (sDi s))) → Wk 45 [some (.inr (.inr (0, 0))), some (.inl (nI k)), some (.inl (nI r)), some (.inl (nI (3 ^ dT d))), some (.inl (nI m - 1)), none] [] σ' := by
    intro m
    induction m with
    | zero =>
      intro σ' hm hs hrow
      apply e45
      unfold F_X0_fillToGo_45
      rw [nI_clamp (by omega : k < 2 ^ 31), nI_clamp (by omega : r < 2 ^ 31)]
      refine ⟨fun _ => ⟨pk_in k 2 hk, pk_in r 61 (by omega), h _ ⟨sq_tr (sq_mono hs (by decide)) (sq_sA _ _ _ _ (by decide)), fun p hp s hs3 => ?_, fun i j hij => ?_, ?_⟩⟩, fun z => absurd (by decide) z⟩
      · rw [gA_ng _ (by decide)]
        exact hrow p (by omega) hp s hs3
      · by_cases hi : i = k
        · rw [gA_nj _ (fun z => hij ⟨hi, z⟩)]
          exact hs.1 _ (by decide) _ _
        · rw [gA_ni _ hi]
          exact hs.1 _ (by decide) _ _
      · rw [gA_same, hrow 0 (by omega) (by omega) 0 (Nat.pow_pos (by omega))]
        have c0 : carry d (sDi 0) = 0 := by
          show dS d 3 * cells d (sDi 0) = 0
          rw [show sDi 0 = 0 by decide, cells_0, Nat.mul_zero]
        rw [c0, show sIn 0 = 0 by decide, show sDi 0 = 0 by decide]
        rfl
    | succ q ih =>
      intro σ' hm hs hrow
      have hR' := RP_fr hR hs
      have hFT' : FT σ' := ⟨fun s hs3 => by rw [hs.1 _ (by decide)]; exact hFT.1 s hs3, fun t i ht hi => by rw [hs.1 _ (by decide)]; exact hFT.2 t i ht hi⟩
      have hC' : CLS d σ' := fun s hs3 => by rw [hs.1 _ (by decide)]; exact hC s hs3
      apply e45
      unfold F_X0_fillToGo_45
      rw [nI_pred, nI_1, nI_clamp (by omega : q < 2 ^ 31), nI_clamp (by omega : q + 1 < 2 ^ 31)]
      refine ⟨fun z => absurd z (nI_pos (by omega)), fun _ => ⟨pk_in (q + 1) 11 (by omega), pk_in q 11 (by omega), d, r, ⟨hR', hFT', hC', ⟨hr, rfl⟩, rfl, by omega⟩, fun σ4 ⟨hs4, ho4, hr4⟩ => ?_⟩⟩
      have hsa : sq [11] σ σ4 := sq_tr hs hs4
      -- the row that the things turn
      have hR0 : ∀ s, s < 3 ^ dT d → (fun s => if cells d (sIn s) ≤ r then Vm d k r (dP d - (q + 1)) (sIn s) (sDi s) - carry d (sDi s) else 1000000000) s = if cells d (sIn s) ≤ r then Vm d k r (dP d - (q + 1)) (sIn s) (sDi s) - carry d (sDi s) else 1000000000 := fun _ _ => rfl
      generalize (fun s => if cells d (sIn s) ≤ r then Vm d k r (dP d - (q + 1)) (sIn s) (sDi s) - carry d (sDi s) else 1000000000) = R0 at hR0
      have hR0b : ∀ s, s < 3 ^ dT d → R0 s ≤ 1000000000 := fun s hs3 => by
        rw [hR0 s hs3]
        have := Vm_lt hR.1 hk (r := r) (n := dP d - (q + 1)) (by omega) (sIn s) (sDi s)
        split <;> omega
      have hVg : ∀ s, s < 3 ^ dT d → carry d (sDi s) ≤ Vm d k r (dP d - (q + 1)) (sIn s) (sDi s) := fun s hs3 => by
        have := sIn_lt (dT d) (by omega) s hs3
        exact Vm_ge hR.1 hk (by omega) _ _ this.1 this.2.1
      have key75 : ∀ m' j σ'', j + m' = dT d → sq [11] σ σ'' → (∀ i s, i ≠ q → sv_gA σ'' 11 i s = sv_gA σ' 11 i s) → (∀ s, s < 3 ^ dT d → sv_gA σ'' 11 q s = nI (rowj d k q R0 j s)) → Wk 75 [some (.inr (.inr (0, 0))), some (.inl (nI k)), some (.inl (nI r)), some (.inl (nI (3 ^ dT d))), some (.inl (nI q)), some (.inl (nI j))] [] σ'' := by
        intro m'
        induction m' with
        | zero =>
          intro j σ'' hj hs2 ho2 hr2
          have hR2 := RP_fr hR hs2
          apply e75
          unfold F_X0_fillToGo_75
          rw [hR2.2.2.1, m1_sub]
          refine pk_le (dT d) j (fun z => ?_) (fun z => by omega)
          refine ih σ'' (by omega) hs2 (fun p hp1 hp2 s hs3 => ?_)
          by_cases hpq : p = q
          · subst hpq
            have rf := row_fin hR.1 hk (n := dP d - (p + 1)) (by omega) hR0 hVg hs3
            rw [show dP d - (dP d - (p + 1) + 1) = p by omega, show dP d - (p + 1) + 1 = dP d - p by omega] at rf
            rw [hr2 s hs3, show j = dT d by omega]
            congr 1
            omega
          · rw [ho2 p s hpq]
            exact hrow p (by omega) hp2 s hs3
        | succ m' ih' =>
          intro j σ'' hj hs2 ho2 hr2
          have hR2 := RP_fr hR hs2
          have hFT2 : FT σ'' := ⟨fun s hs3 => by rw [hs2.1 _ (by decide)]; exact hFT.1 s hs3, fun t i ht hi => by rw [hs2.1 _ (by decide)]; exact hFT.2 t i ht hi⟩
          apply e75
          unfold F_X0_fillToGo_75
          rw [hR2.2.2.1, nI_1]
          refine pk_le (dT d) j (fun z => by omega) (fun z => ⟨d, j, q, k, rowj d k q R0 j, ⟨hR2, hFT2, ⟨by omega, rfl⟩, ⟨by omega, rfl⟩, ⟨hk, rfl⟩, rfl, fun s hs3 => ⟨?_, hr2 s hs3⟩⟩, fun σ7 ⟨hs7, ho7, hr7⟩ => ?_⟩)
          · have l1 := row_le d k q R0 0 j s
            have l2 := csum0_le hR.1 hk (p := q) (by omega) j s (by omega)
            have l3 := hR0b _ (mix_lt d q 0 (n := dT d) (by omega) j s (by omega) hs3)
            omega
          · exact ih' (j + 1) σ7 (by omega) (sq_tr hs2 hs7) (fun i s hi => (ho7 i s hi).trans (ho2 i s hi)) hr7
      refine key75 (dT d) 0 σ4 (by omega) hsa ho4 (fun s hs3 => ?_)
      rw [hr4 s hs3]
      show _ = nI (R0 s)
      rw [hR0 s hs3]
      by_cases hcs : cells d (sIn s) ≤ r
      · rw [if_pos hcs, if_pos hcs, hrow (q + 1) (by omega) (by omega) s hs3]
      · rw [if_neg hcs, if_neg hcs]
        rfl
  apply e0
  refine ⟨d, hR, fun v2 h2 => ?_⟩
  have ev : v2 - 1 = nI (2 ^ dT d - 1) := by
    have := nI_pred (2 ^ dT d - 1)
    rw [show 2 ^ dT d - 1 + 1 = 2 ^ dT d by omega] at this
    rw [h2, this]
  rw [ev, nI_clamp (by omega), so_tab _ (by omega), hR.2.1, nI_clamp (by omega)]
  refine ⟨pk_in (2 ^ dT d - 1) 32 (by omega), pk_in (dP d) 11 (by omega), fun σ4 e4 => ?_⟩
  have hs4 : sq [11] σ σ4 := by
    rw [e4]
    refine ⟨fun g hg i j => ?_, fun _ _ _ => rfl⟩
    show (if g = 11 ∧ i = dP d ∧ j < sv_ln 11 then (0 : Int32) else σ.1 g i j) = _
    rw [if_neg (fun z => hg (by rw [z.1]; decide))]
    rfl
  have hR4 := RP_fr hR hs4
  rw [hR4.2.1, show (2 : Int32) = nI 2 from rfl, pk_mul, nI_1, so_pow (dT d) (by omega)]
  refine key (dP d) σ4 (Nat.le_refl _) hs4 (fun p hp1 hp2 s hs3 => ?_)
  have hpe : p = dP d := by omega
  subst hpe
  rw [e4, Nat.sub_self]
  show (if (11 : Nat) = 11 ∧ dP d = dP d ∧ s < sv_ln 11 then (0 : Int32) else σ.1 11 (dP d) s) = nI (carry d (sDi s) - carry d (sDi s))
  rw [if_pos ⟨rfl, rfl, (by show s < 243; omega)⟩, Nat.sub_self]
  rfl
-- ==== X0_firstOfLeast
def sp_X0_firstOfLeast : sv_P := fun av σ K => match av with
  | [.inr (.inr (0, 0)), .inl p, .inl kind, .inl room, .inl inn, .inl dirty] => ∃ d : dD, ∃ q : Nat, ∃ k : Nat, ∃ r : Nat, ∃ a : Nat, ∃ b : Nat, (RP d σ ∧ CLS d σ ∧ TG d k r σ ∧ (q < dP d ∧ p = nI q) ∧ (k < 2 ∧ kind = nI k) ∧ (r ≤ 60 ∧ room = nI r) ∧ (a < 2 ^ dT d ∧ inn = nI a) ∧ (b < 2 ^ dT d ∧ dirty = nI b) ∧ b &&& a = b) ∧ (∀ v : Int32, v = nI (Sm d k r (dP d - (q + 1)) a b) → K (some (.inl v)) σ)
  | _ => False
def tb_X0_firstOfLeast : List (Nat × (Instr × Nat)) := [(0, (.aload_n 0, 1)), (1, (.getfield 27, 3)), (4, (.iload_n 1, 1)), (5, (.aaload, 1)), (6, (.getstatic 107, 3)), (9, (.iload 4, 2)), (11, (.iaload, 1)), (12, (.getstatic 107, 3)), (15, (.iload 5, 2)), (17, (.iaload, 1)), (18, (.iadd, 1)), (19, (.iaload, 1)), (20, (.istore 6, 2)), (22, (.iconst 0, 1)), (23, (.istore 7, 2)), (25, (.iload 7, 2)), (27, (.aload_n 0, 1)), (28, (.getfield 39, 3)), (31, (.invokevirtual 72, 3)), (34, (.if_icmp .ge 120, 3)), (37, (.aload_n 0, 1)), (38, (.getfield 24, 3)), (41, (.iload 7, 2)), (43, (.iaload, 1)), (44, (.iload_n 3, 1)), (45, (.if_icmp .le 6, 3)), (48, (.goto 100, 3)), (51, (.iload 5, 2)), (53, (.aload_n 0, 1)), (54, (.getfield 39, 3)), (57, (.getfield 90, 3)), (60, (.iload_n 1, 1)), (61, (.iaload, 1)), (62, (.ior, 1)), (63, (.iload 7, 2)), (65, (.iand, 1)), (66, (.istore 8, 2)), (68, (.aload_n 0, 1)), (69, (.getfield 39, 3)), (72, (.iload 7, 2)), (74, (.iload 4, 2)), (76, (.iconst (-1), 1)), (77, (.ixor, 1)), (78, (.iand, 1)), (79, (.invokevirtual 83, 3)), (82, (.aload_n 0, 1)), (83, (.getfield 39, 3)), (86, (.iload 8, 2)), (88, (.iload 5, 2)), (90, (.iconst (-1), 1)), (91, (.ixor, 1)), (92, (.iand, 1)), (93, (.invokevirtual 83, 3)), (96, (.iadd, 1)), (97, (.istore 9, 2)), (99, (.aload_n 0, 1)), (100, (.getfield 27, 3)), (103, (.iload_n 1, 1)), (104, (.iconst 1, 1)), (105, (.iadd, 1)), (106, (.aaload, 1)), (107, (.getstatic 107, 3)), (110, (.iload 7, 2)), (112, (.iaload, 1)), (113, (.getstatic 107, 3)), (116, (.iload 8, 2)), (118, (.iaload, 1)), (119, (.iadd, 1)), (120, (.iaload, 1)), (121, (.istore 10, 2)), (123, (.aload_n 0, 1)), (124, (.getfield 39, 3)), (127, (.iload_n 1, 1)), (128, (.iload_n 2, 1)), (129, (.iload 7, 2)), (131, (.invokevirtual 86, 3)), (134, (.iload 9, 2)), (136, (.iadd, 1)), (137, (.iload 10, 2)), (139, (.iadd, 1)), (140, (.iload 6, 2)), (142, (.if_icmp .ne 6, 3)), (145, (.iload 7, 2)), (147, (.ireturn, 1)), (148, (.iinc 7 1, 3)), (151, (.goto (-126), 3)), (154, (.iconst 0, 1)), (155, (.ireturn, 1))]
set_option maxRecDepth 100000 in
theorem tbk_X0_firstOfLeast : sv_tbok cX0_firstOfLeast tb_X0_firstOfLeast = true := by decide +kernel
def cal_X0_firstOfLeast : List (Nat × (Nat × Nat × sv_P)) := [(72, (1, 2, sp_X2_countSets)), (83, (2, 2, sp_X2_carryOf)), (86, (4, 2, sp_X2_workOf))]
def T_X0_firstOfLeast : sv_T := (flX0, sfX0, kcX0, klX0, cal_X0_firstOfLeast)
set_option maxRecDepth 100000 in
theorem Tok_X0_firstOfLeast (l : Launch) : sv_Tok l RX0 sv_all 3 65 T_X0_firstOfLeast := ⟨flokX0, sfokX0, kcokX0, klokX0, List.forall_mem_cons.mpr ⟨⟨fun _ => sv_COv_of (c_X2_countSets l) sv_clok_all (sv_mem 361 (by decide +kernel) rfl) kw_X2_countSets.1 kw_X2_countSets.2.1 kw_X2_countSets.2.2.1 kw_X2_countSets.2.2.2 kd_X2_countSets rfl (by decide) (by decide +kernel) rfl (by decide), fun h => absurd h (by decide)⟩, List.forall_mem_cons.mpr ⟨⟨fun _ => sv_COv_of (c_X2_carryOf l) sv_clok_all (sv_mem 347 (by decide +kernel) rfl) kw_X2_carryOf.1 kw_X2_carryOf.2.1 kw_X2_carryOf.2.2.1 kw_X2_carryOf.2.2.2 kd_X2_carryOf rfl (by decide) (by decide +kernel) rfl (by decide), fun h => absurd h (by decide)⟩, List.forall_mem_cons.mpr ⟨⟨fun _ => sv_COv_of (c_X2_workOf l) sv_clok_all (sv_mem 356 (by decide +kernel) rfl) kw_X2_workOf.1 kw_X2_workOf.2.1 kw_X2_workOf.2.2.1 kw_X2_workOf.2.2.2 kd_X2_workOf rfl (by decide) (by decide +kernel) rfl (by decide), fun h => absurd h (by decide)⟩, fun _ h => absurd h List.not_mem_nil⟩⟩⟩⟩
theorem kw_X0_firstOfLeast : Cond.instanceMethod yX0_firstOfLeast ∈ sv_tb ∧ Cond.selects yX0_firstOfLeast.cls yX0_firstOfLeast yX0_firstOfLeast ∈ sv_tb ∧ Cond.initialized yX0_firstOfLeast.cls ∈ sv_tb ∧ Cond.code yX0_firstOfLeast cX0_firstOfLeast 11 (some .int) ∈ sv_tb := ⟨sv_mem 404 (by decide +kernel) rfl, sv_mem 9 (by decide +kernel) rfl, sv_mem 54 (by decide +kernel) rfl, sv_mem 405 (by decide +kernel) rfl⟩
theorem kd_X0_firstOfLeast : yX0_firstOfLeast.cls ≠ "java/lang/invoke/MethodHandle" ∧ yX0_firstOfLeast.cls ≠ "java/lang/invoke/VarHandle" ∧ (parseMethodDescriptor yX0_firstOfLeast.desc).map (fun d => d.parameters.length) = some 5 := by decide +kernel
def F_X0_firstOfLeast_0 (Wk : sv_K) (Kr : Option sv_AV → sv_S → Prop) (p : Int32) (kind : Int32) (room : Int32) (inn : Int32) (dirty : Int32) (σ : sv_S) : Prop := (vp_in p 11 ∧ (vp_in inn 32 ∧ (vp_in dirty 32 ∧ (vp_in ((sv_tab 44 inn.toNatClampNeg) + (sv_tab 44 dirty.toNatClampNeg)) 243 ∧ Wk 25 [some (.inr (.inr (0, 0))), some (.inl p), some (.inl kind), some (.inl room), some (.inl inn), some (.inl dirty), some (.inl (sv_gA σ 11 p.toNatClampNeg ((sv_tab 44 inn.toNatClampNeg) + (sv_tab 44 dirty.toNatClampNeg)).toNatClampNeg)), some (.inl (0 : Int32)), none, none, none] [] σ))))
set_option maxRecDepth 100000 in
theorem bk_X0_firstOfLeast_0 (Wk : sv_K) (Kr : Option sv_AV → sv_S → Prop) (p : Int32) (kind : Int32) (room : Int32) (inn : Int32) (dirty : Int32) (σ : sv_S) (h : F_X0_firstOfLeast_0 Wk Kr p kind room inn dirty σ) : sv_vc tb_X0_firstOfLeast T_X0_firstOfLeast sv_all (some .int) Kr [(25, [true, true, true, true, true, true, true, true, false, false, false])] Wk 500 0 [some (.inr (.inr (0, 0))), some (.inl p), some (.inl kind), some (.inl room), some (.inl inn), some (.inl dirty), none, none, none, none, none] [] σ := h
def F_X0_firstOfLeast_25 (Wk : sv_K) (Kr : Option sv_AV → sv_S → Prop) (x1 : Int32) (x2 : Int32) (x3 : Int32) (x4 : Int32) (x5 : Int32) (x6 : Int32) (x7 : Int32) (σ : sv_S) : Prop := (∃ d1 : dD, (RP d1 σ) ∧ (∀ v2 : Int32, v2 = nI (2 ^ dT d1) → ((v2 ≤ x7 → Kr (some (.inl (0 : Int32))) σ) ∧ (¬ v2 ≤ x7 → (vp_in x7 32 ∧ (((sv_gA σ 9 0 x7.toNatClampNeg) ≤ x3 → (vp_in x1 10 ∧ (∃ d3 : dD, ∃ c4 : Nat, (RP d3 σ ∧ (c4 < 32 ∧ (x7 &&& (x4 ^^^ (-1 : Int32))) = nI c4)) ∧ (∀ v5 : Int32, v5 = nI (carry d3 c4) → (∃ d6 : dD, ∃ c7 : Nat, (RP d6 σ ∧ (c7 < 32 ∧ (((x5 ||| (sv_gA σ 28 0 x1.toNatClampNeg)) &&& x7) &&& (x5 ^^^ (-1 : Int32))) = nI c7)) ∧ (∀ v8 : Int32, v8 = nI (carry d6 c7) → (vp_in (x1 + (1 : Int32)) 11 ∧ (vp_in x7 32 ∧ (vp_in ((x5 ||| (sv_gA σ 28 0 x1.toNatClampNeg)) &&& x7) 32 ∧ (vp_in ((sv_tab 44 x7.toNatClampNeg) + (sv_tab 44 ((x5 ||| (sv_gA σ 28 0 x1.toNatClampNeg)) &&& x7).toNatClampNeg)) 243 ∧ (∃ d9 : dD, ∃ q10 : Nat, ∃ k11 : Nat, ∃ c12 : Nat, (RP d9 σ ∧ (q10 < dP d9 ∧ x1 = nI q10) ∧ (k11 < 2 ∧ x2 = nI k11) ∧ (c12 < 32 ∧ x7 = nI c12)) ∧ (∀ v13 : Int32, v13 = nI (work d9 q10 k11 c12) → ((¬ ((v13 + (v5 + v8)) + (sv_gA σ 11 (x1 + (1 : Int32)).toNatClampNeg ((sv_tab 44 x7.toNatClampNeg) + (sv_tab 44 ((x5 ||| (sv_gA σ 28 0 x1.toNatClampNeg)) &&& x7).toNatClampNeg)).toNatClampNeg)) = x6 → Wk 25 [some (.inr (.inr (0, 0))), some (.inl x1), some (.inl x2), some (.inl x3), some (.inl x4), some (.inl x5), some (.inl x6), some (.inl (x7 + (1 : Int32))), none, none, none] [] σ) ∧ (((v13 + (v5 + v8)) + (sv_gA σ 11 (x1 + (1 : Int32)).toNatClampNeg ((sv_tab 44 x7.toNatClampNeg) + (sv_tab 44 ((x5 ||| (sv_gA σ 28 0 x1.toNatClampNeg)) &&& x7).toNatClampNeg)).toNatClampNeg)) = x6 → Kr (some (.inl x7)) σ)))))))))))))) ∧ (¬ (sv_gA σ 9 0 x7.toNatClampNeg) ≤ x3 → Wk 25 [some (.inr (.inr (0, 0))), some (.inl x1), some (.inl x2), some (.inl x3), some (.inl x4), some (.inl x5), some (.inl x6), some (.inl (x7 + (1 : Int32))), none, none, none] [] σ)))))))
set_option maxRecDepth 100000 in
theorem bk_X0_firstOfLeast_25 (Wk : sv_K) (Kr : Option sv_AV → sv_S → Prop) (x1 : Int32) (x2 : Int32) (x3 : Int32) (x4 : Int32) (x5 : Int32) (x6 : Int32) (x7 : Int32) (σ : sv_S) (h : F_X0_firstOfLeast_25 Wk Kr x1 x2 x3 x4 x5 x6 x7 σ) : sv_vc tb_X0_firstOfLeast T_X0_firstOfLeast sv_all (some .int) Kr [(25, [true, true, true, true, true, true, true, true, false, false, false])] Wk 500 25 [some (.inr (.inr (0, 0))), some (.inl x1), some (.inl x2), some (.inl x3), some (.inl x4), some (.inl x5), some (.inl x6), some (.inl x7), none, none, none] [] σ := h
set_option maxRecDepth 100000 in
theorem m_X0_firstOfLeast (l : Launch) (hb : ∀ (Wk : sv_K) (Kr : Option sv_AV → sv_S → Prop), (∀ (p : Int32) (kind : Int32) (room : Int32) (inn : Int32) (dirty : Int32) (σ : sv_S), F_X0_firstOfLeast_0 Wk Kr p kind room inn dirty σ → Wk 0 [some (.inr (.inr (0, 0))), some (.inl p), some (.inl kind), some (.inl room), some (.inl inn), some (.inl dirty), none, none, none, none, none] [] σ) → (∀ (x1 : Int32) (x2 : Int32) (x3 : Int32) (x4 : Int32) (x5 : Int32) (x6 : Int32) (x7 : Int32) (σ : sv_S), F_X0_firstOfLeast_25 Wk Kr x1 x2 x3 x4 x5 x6 x7 σ → Wk 25 [some (.inr (.inr (0, 0))), some (.inl x1), some (.inl x2), some (.inl x3), some (.inl x4), some (.inl x5), some (.inl x6), some (.inl x7), none, none, none] [] σ) → (∀ (p : Int32) (kind : Int32) (room : Int32) (inn : Int32) (dirty : Int32) (σ : sv_S), (∃ d : dD, ∃ q : Nat, ∃ k : Nat, ∃ r : Nat, ∃ a : Nat, ∃ b : Nat, (RP d σ ∧ CLS d σ ∧ TG d k r σ ∧ (q < dP d ∧ p = nI q) ∧ (k < 2 ∧ kind = nI k) ∧ (r ≤ 60 ∧ room = nI r) ∧ (a < 2 ^ dT d ∧ inn = nI a) ∧ (b < 2 ^ dT d ∧ dirty = nI b) ∧ b &&& a = b) ∧ (∀ v : Int32, v = nI (Sm d k r (dP d - (q + 1)) a b) → Kr (some (.inl v)) σ)) → Wk 0 [some (.inr (.inr (0, 0))), some (.inl p), some (.inl kind), some (.inl room), some (.inl inn), some (.inl dirty), none, none, none, none, none] [] σ)) : sv_C l yX0_firstOfLeast cX0_firstOfLeast 11 (some .int) sv_all 3 65 sp_X0_firstOfLeast := by
  refine sv_meth sv_clok_all tb_X0_firstOfLeast T_X0_firstOfLeast (by decide) tbk_X0_firstOfLeast (Tok_X0_firstOfLeast l) ?_
  intro Wk Kr hc av σ hsp
  have hB := hb Wk Kr (fun p kind room inn dirty σ h => hc [(25, [true, true, true, true, true, true, true, true, false, false, false])] 500 0 _ _ _ (bk_X0_firstOfLeast_0 Wk Kr p kind room inn dirty σ h)) (fun x1 x2 x3 x4 x5 x6 x7 σ h => hc [(25, [true, true, true, true, true, true, true, true, false, false, false])] 500 25 _ _ _ (bk_X0_firstOfLeast_25 Wk Kr x1 x2 x3 x4 x5 x6 x7 σ h))
  unfold sp_X0_firstOfLeast at hsp
  split at hsp
  · exact ⟨⟨by simp, by simp [sv_cat]⟩, hB _ _ _ _ _ _ hsp⟩
  · exact hsp.elim
set_option maxHeartbeats 4000000 in
set_option maxRecDepth 100000 in
theorem c_X0_firstOfLeast (l : Launch) : sv_C l yX0_firstOfLeast cX0_firstOfLeast 11 (some .int) sv_all 3 65 sp_X0_firstOfLeast := by
  refine m_X0_firstOfLeast l ?_
  intro Wk Kr e0 e25 p kind room inn dirty σ ⟨d, q, k, r, a, b, ⟨hR, hC, hTG, ⟨hq, hp⟩, ⟨hk, hkd⟩, ⟨hr, hroom⟩, ⟨ha, hin⟩, ⟨hb, hdi⟩, hsub⟩, h⟩
  subst hp
  subst hkd
  subst hroom
  subst hin
  subst hdi
  have hP := hR.1.1
  have hT := hR.1.2.1
  have h243 := three_pow_le hT
  have h32 := two_pow_le hR.1
  have sa := st_in a (by omega) b (by omega) hsub
  have slt : so a + so b < 3 ^ dT d := by
    have h1 := st_lt (dT d) (by omega) a ha
    have h2 := so_mono a (by omega) b (by omega) hsub
    omega
  have hSm := Sm_at hR.1 hk (r := r) (n := dP d - (q + 1)) (by omega) a b
  have hVg := Vm_ge hR.1 hk (r := r) (n := dP d - (q + 1) + 1) (by omega) a b ha hb
  have hVl := Vm_lt hR.1 hk (r := r) (n := dP d - (q + 1) + 1) (by omega) a b
  have hw := wset_lt d q
  have key : ∀ m j, j + m = Sm d k r (dP d - (q + 1)) a b → Wk 25 [some (.inr (.inr (0, 0))), some (.inl (nI q)), some (.inl (nI k)), some (.inl (nI r)), some (.inl (nI a)), some (.inl (nI b)), some (.inl (nI (Vm d k r (dP d - (q + 1) + 1) a b - carry d b))), some (.inl (nI j)), none, none, none] [] σ := by
    intro m
    induction m with
    | zero =>
      intro j hj
      have hj2 : j = Sm d k r (dP d - (q + 1)) a b := by omega
      have hj3 : j < 2 ^ dT d := by omega
      have ho : cells d j ≤ r := by
        have := hSm.2.1
        rw [← hj2] at this
        unfold okr at this
        exact of_decide_eq_true this
      have hdx : dnx d q b j < 32 := and_lt (or_lt (by omega) hw)
      have sj := st_in j (by omega) (dnx d q b j) hdx (by unfold dnx; rw [Nat.and_assoc, Nat.and_self])
      have sjl : so j + so (dnx d q b j) < 3 ^ dT d := by
        have h1 := st_lt (dT d) (by omega) j hj3
        have h2 := so_mono j (by omega) (dnx d q b j) hdx (by unfold dnx; rw [Nat.and_assoc, Nat.and_self])
        omega
      have tb := hTG (q + 1) (by omega) _ sjl
      rw [sj.1, sj.2] at tb
      have e1 : (nI b ||| nI (wset d q)) &&& nI j = nI (dnx d q b j) := by
        rw [or_nI _ (by omega) _ hw, and_nI _ (or_lt (by omega) hw) _ (by omega)]
        rfl
      have ef := hSm.2.2.1
      rw [← hj2] at ef
      have cm := carry_move hR.1 q b j (by omega) (by omega)
      have vg := Vm_ge hR.1 hk (r := r) (n := dP d - (q + 1)) (by omega) j (dnx d q b j) hj3 (Nat.lt_of_le_of_lt Nat.and_le_right hj3)
      have vl := Vm_lt hR.1 hk (r := r) (n := dP d - (q + 1)) (by omega) j (dnx d q b j)
      have c1l := carry_le hR.1 (nd j a)
      have c2l := carry_le hR.1 (nd (dnx d q b j) b)
      have c3l := work_le hR.1 hq hk j
      have efm : Fm d k r (dP d - (q + 1)) a b j = work d q k j + carry d (nd j a) + carry d (nd b j) + Vm d k r (dP d - (q + 1)) j (dnx d q b j) := by
        unfold Fm stc
        rw [show dP d - (dP d - (q + 1) + 1) = q by omega]
      apply e25
      refine ⟨d, hR, fun v2 h2 => ?_⟩
      subst h2
      rw [nI_clamp (by omega : j < 2 ^ 31), nI_clamp (by omega : q < 2 ^ 31), hC j hj3, hR.2.2.2.2.2.2.2.2 q hq, e1, nI_clamp (by omega : dnx d q b j < 2 ^ 31), so_tab j (by omega), so_tab _ hdx, nI_add, nI_1, nI_clamp (by omega : q + 1 < 2 ^ 31), nI_clamp (by omega : so j + so (dnx d q b j) < 2 ^ 31), tb, nd_nI _ (by omega) _ (by omega), nd_nI _ hdx _ (by omega)]
      refine pk_le (2 ^ dT d) j (fun z => by omega) (fun z => ⟨pk_in j 32 (by omega), pk_le (cells d j) r (fun _ => ⟨pk_in q 10 (by omega), d, nd j a, ⟨hR, nd_lt (by omega), rfl⟩, fun v5 h5 => ⟨d, nd (dnx d q b j) b, ⟨hR, nd_lt hdx, rfl⟩, fun v8 h8 => ⟨pk_in (q + 1) 11 (by omega), pk_in j 32 (by omega), pk_in (dnx d q b j) 32 hdx, pk_in (so j + so (dnx d q b j)) 243 (by omega), d, q, k, j, ⟨hR, ⟨hq, rfl⟩, ⟨hk, rfl⟩, by omega, rfl⟩, fun v13 h13 => ?_⟩⟩⟩) (fun y => by omega) rfl rfl (by have := cells_le hR.1 j; omega) (by omega)⟩)
      rw [h5, h8, h13, nI_add, nI_add, nI_add]
      refine ⟨fun y => absurd ?_ y, fun _ => h _ (by rw [hj2])⟩
      congr 1
      omega
    | succ m ih =>
      intro j hj
      have hj3 : j < 2 ^ dT d := by omega
      have ihj := ih (j + 1) (by omega)
      have hdx : dnx d q b j < 32 := and_lt (or_lt (by omega) hw)
      have sj := st_in j (by omega) (dnx d q b j) hdx (by unfold dnx; rw [Nat.and_assoc, Nat.and_self])
      have sjl : so j + so (dnx d q b j) < 3 ^ dT d := by
        have h1 := st_lt (dT d) (by omega) j hj3
        have h2 := so_mono j (by omega) (dnx d q b j) hdx (by unfold dnx; rw [Nat.and_assoc, Nat.and_self])
        omega
      have tb := hTG (q + 1) (by omega) _ sjl
      rw [sj.1, sj.2] at tb
      have e1 : (nI b ||| nI (wset d q)) &&& nI j = nI (dnx d q b j) := by
        rw [or_nI _ (by omega) _ hw, and_nI _ (or_lt (by omega) hw) _ (by omega)]
        rfl
      have cm := carry_move hR.1 q b j (by omega) (by omega)
      have vg := Vm_ge hR.1 hk (r := r) (n := dP d - (q + 1)) (by omega) j (dnx d q b j) hj3 (Nat.lt_of_le_of_lt Nat.and_le_right hj3)
      have vl := Vm_lt hR.1 hk (r := r) (n := dP d - (q + 1)) (by omega) j (dnx d q b j)
      have c1l := carry_le hR.1 (nd j a)
      have c2l := carry_le hR.1 (nd (dnx d q b j) b)
      have c3l := work_le hR.1 hq hk j
      have efm : Fm d k r (dP d - (q + 1)) a b j = work d q k j + carry d (nd j a) + carry d (nd b j) + Vm d k r (dP d - (q + 1)) j (dnx d q b j) := by
        unfold Fm stc
        rw [show dP d - (dP d - (q + 1) + 1) = q by omega]
      apply e25
      refine ⟨d, hR, fun v2 h2 => ?_⟩
      subst h2
      rw [nI_clamp (by omega : j < 2 ^ 31), nI_clamp (by omega : q < 2 ^ 31), hC j hj3, hR.2.2.2.2.2.2.2.2 q hq, e1, nI_clamp (by omega : dnx d q b j < 2 ^ 31), so_tab j (by omega), so_tab _ hdx, nI_add, nI_1, nI_1, nI_clamp (by omega : q + 1 < 2 ^ 31), nI_clamp (by omega : so j + so (dnx d q b j) < 2 ^ 31), tb, nd_nI _ (by omega) _ (by omega), nd_nI _ hdx _ (by omega)]
      refine pk_le (2 ^ dT d) j (fun z => by omega) (fun z => ⟨pk_in j 32 (by omega), pk_le (cells d j) r (fun ho => ⟨pk_in q 10 (by omega), d, nd j a, ⟨hR, nd_lt (by omega), rfl⟩, fun v5 h5 => ⟨d, nd (dnx d q b j) b, ⟨hR, nd_lt hdx, rfl⟩, fun v8 h8 => ⟨pk_in (q + 1) 11 (by omega), pk_in j 32 (by omega), pk_in (dnx d q b j) 32 hdx, pk_in (so j + so (dnx d q b j)) 243 (by omega), d, q, k, j, ⟨hR, ⟨hq, rfl⟩, ⟨hk, rfl⟩, by omega, rfl⟩, fun v13 h13 => ?_⟩⟩⟩) (fun y => ihj) rfl rfl (by have := cells_le hR.1 j; omega) (by omega)⟩)
      rw [h5, h8, h13, nI_add, nI_add, nI_add]
      refine ⟨fun y => ihj, fun y => ?_⟩
      rw [nI_eq (by omega) (by omega)] at y
      have hlt := hSm.2.2.2 j (by omega) (by unfold okr; exact decide_eq_true ho)
      omega
  apply e0
  unfold F_X0_firstOfLeast_0
  have ta := hTG q (by omega) _ slt
  rw [sa.1, sa.2] at ta
  rw [nI_clamp (by omega : a < 2 ^ 31), nI_clamp (by omega : b < 2 ^ 31), nI_clamp (by omega : q < 2 ^ 31), so_tab a (by omega), so_tab b (by omega), nI_add, nI_clamp (by omega : so a + so b < 2 ^ 31), ta, show dP d - q = dP d - (q + 1) + 1 by omega]
  exact ⟨pk_in q 11 (by omega), pk_in a 32 (by omega), pk_in b 32 (by omega), pk_in (so a + so b) 243 (by omega), key (Sm d k r (dP d - (q + 1)) a b) 0 (Nat.zero_add _)⟩
-- ==== X0_readRow
def sp_X0_readRow : sv_P := fun av σ K => match av with
  | [.inr (.inr (0, 0)), .inl kind, .inl room] => ∃ d : dD, ∃ k : Nat, ∃ r : Nat, (RP d σ ∧ CLS d σ ∧ TG d k r σ ∧ (k < 2 ∧ kind = nI k) ∧ (r ≤ 60 ∧ room = nI r)) ∧ (∀ σ2 : sv_S, sq [15, 16] σ σ2 ∧ (∀ i j, i ≠ k → sv_gA σ2 15 i j = sv_gA σ 15 i j) ∧ (∀ j, j ≠ k → sv_gA σ2 16 0 j = sv_gA σ 16 0 j) ∧ sv_gA σ2 16 0 k = nI r ∧ (∀ p, p < dP d → sv_gA σ2 15 k p = nI (bsp d k r p)) → K none σ2)
  | _ => False
def tb_X0_readRow : List (Nat × (Instr × Nat)) := [(0, (.iconst 0, 1)), (1, (.istore_n 3, 1)), (2, (.iconst 0, 1)), (3, (.istore 4, 2)), (5, (.iconst 0, 1)), (6, (.istore 5, 2)), (8, (.iload 5, 2)), (10, (.aload_n 0, 1)), (11, (.getfield 39, 3)), (14, (.getfield 80, 3)), (17, (.if_icmp .ge 54, 3)), (20, (.aload_n 0, 1)), (21, (.iload 5, 2)), (23, (.iload_n 1, 1)), (24, (.iload_n 2, 1)), (25, (.iload_n 3, 1)), (26, (.iload 4, 2)), (28, (.invokevirtual 134, 3)), (31, (.istore 6, 2)), (33, (.aload_n 0, 1)), (34, (.getfield 33, 3)), (37, (.iload_n 1, 1)), (38, (.aaload, 1)), (39, (.iload 5, 2)), (41, (.iload 6, 2)), (43, (.iastore, 1)), (44, (.iload 6, 2)), (46, (.istore_n 3, 1)), (47, (.iload 4, 2)), (49, (.aload_n 0, 1)), (50, (.getfield 39, 3)), (53, (.getfield 90, 3)), (56, (.iload 5, 2)), (58, (.iaload, 1)), (59, (.ior, 1)), (60, (.iload 6, 2)), (62, (.iand, 1)), (63, (.istore 4, 2)), (65, (.iinc 5 1, 3)), (68, (.goto (-60), 3)), (71, (.aload_n 0, 1)), (72, (.getfield 36, 3)), (75, (.iload_n 1, 1)), (76, (.iload_n 2, 1)), (77, (.iastore, 1)), (78, (.return_, 1))]
set_option maxRecDepth 100000 in
theorem tbk_X0_readRow : sv_tbok cX0_readRow tb_X0_readRow = true := by decide +kernel
def cal_X0_readRow : List (Nat × (Nat × Nat × sv_P)) := [(134, (6, 0, sp_X0_firstOfLeast))]
def T_X0_readRow : sv_T := (flX0, sfX0, kcX0, klX0, cal_X0_readRow)
set_option maxRecDepth 100000 in
theorem Tok_X0_readRow (l : Launch) : sv_Tok l RX0 sv_all 4 95 T_X0_readRow := ⟨flokX0, sfokX0, kcokX0, klokX0, List.forall_mem_cons.mpr ⟨⟨fun _ => sv_COv_of (c_X0_firstOfLeast l) sv_clok_all (sv_mem 402 (by decide +kernel) rfl) kw_X0_firstOfLeast.1 kw_X0_firstOfLeast.2.1 kw_X0_firstOfLeast.2.2.1 kw_X0_firstOfLeast.2.2.2 kd_X0_firstOfLeast rfl (by decide) (by decide +kernel) rfl (by decide), fun h => absurd h (by decide)⟩, fun _ h => absurd h List.not_mem_nil⟩⟩
theorem kw_X0_readRow : Cond.instanceMethod yX0_readRow ∈ sv_tb ∧ Cond.selects yX0_readRow.cls yX0_readRow yX0_readRow ∈ sv_tb ∧ Cond.initialized yX0_readRow.cls ∈ sv_tb ∧ Cond.code yX0_readRow cX0_readRow 7 none ∈ sv_tb := ⟨sv_mem 400 (by decide +kernel) rfl, sv_mem 8 (by decide +kernel) rfl, sv_mem 54 (by decide +kernel) rfl, sv_mem 401 (by decide +kernel) rfl⟩
theorem kd_X0_readRow : yX0_readRow.cls ≠ "java/lang/invoke/MethodHandle" ∧ yX0_readRow.cls ≠ "java/lang/invoke/VarHandle" ∧ (parseMethodDescriptor yX0_readRow.desc).map (fun d => d.parameters.length) = some 2 := by decide +kernel
def F_X0_readRow_0 (Wk : sv_K) (Kr : Option sv_AV → sv_S → Prop) (kind : Int32) (room : Int32) (σ : sv_S) : Prop := Wk 8 [some (.inr (.inr (0, 0))), some (.inl kind), some (.inl room), some (.inl (0 : Int32)), some (.inl (0 : Int32)), some (.inl (0 : Int32)), none] [] σ
set_option maxRecDepth 100000 in
theorem bk_X0_readRow_0 (Wk : sv_K) (Kr : Option sv_AV → sv_S → Prop) (kind : Int32) (room : Int32) (σ : sv_S) (h : F_X0_readRow_0 Wk Kr kind room σ) : sv_vc tb_X0_readRow T_X0_readRow sv_all none Kr [(8, [true, true, true, true, true, true, false])] Wk 500 0 [some (.inr (.inr (0, 0))), some (.inl kind), some (.inl room), none, none, none, none] [] σ := h
def F_X0_readRow_8 (Wk : sv_K) (Kr : Option sv_AV → sv_S → Prop) (x1 : Int32) (x2 : Int32) (x3 : Int32) (x4 : Int32) (x5 : Int32) (σ : sv_S) : Prop := (((sv_gA σ 2 0 0) ≤ x5 → (vp_in x1 2 ∧ Kr none (sv_sA σ 16 0 x1.toNatClampNeg x2))) ∧ (¬ (sv_gA σ 2 0 0) ≤ x5 → (∃ d1 : dD, ∃ q2 : Nat, ∃ k3 : Nat, ∃ r4 : Nat, ∃ a5 : Nat, ∃ b6 : Nat, (RP d1 σ ∧ CLS d1 σ ∧ TG d1 k3 r4 σ ∧ (q2 < dP d1 ∧ x5 = nI q2) ∧ (k3 < 2 ∧ x1 = nI k3) ∧ (r4 ≤ 60 ∧ x2 = nI r4) ∧ (a5 < 2 ^ dT d1 ∧ x3 = nI a5) ∧ (b6 < 2 ^ dT d1 ∧ x4 = nI b6) ∧ b6 &&& a5 = b6) ∧ (∀ v7 : Int32, v7 = nI (Sm d1 k3 r4 (dP d1 - (q2 + 1)) a5 b6) → (vp_in x1 2 ∧ (vp_in x5 10 ∧ (vp_in x5 10 ∧ Wk 8 [some (.inr (.inr (0, 0))), some (.inl x1), some (.inl x2), some (.inl v7), some (.inl ((x4 ||| (sv_gA σ 28 0 x5.toNatClampNeg)) &&& v7)), some (.inl (x5 + (1 : Int32))), none] [] (sv_sA σ 15 x1.toNatClampNeg x5.toNatClampNeg v7))))))))
set_option maxRecDepth 100000 in
theorem bk_X0_readRow_8 (Wk : sv_K) (Kr : Option sv_AV → sv_S → Prop) (x1 : Int32) (x2 : Int32) (x3 : Int32) (x4 : Int32) (x5 : Int32) (σ : sv_S) (h : F_X0_readRow_8 Wk Kr x1 x2 x3 x4 x5 σ) : sv_vc tb_X0_readRow T_X0_readRow sv_all none Kr [(8, [true, true, true, true, true, true, false])] Wk 500 8 [some (.inr (.inr (0, 0))), some (.inl x1), some (.inl x2), some (.inl x3), some (.inl x4), some (.inl x5), none] [] σ := ⟨fun z8 => ⟨(((h).1 z8)).1, ⟨rfl, ((((h).1 z8)).2)⟩⟩, fun z8 => ((h).2 z8)⟩
set_option maxRecDepth 100000 in
theorem m_X0_readRow (l : Launch) (hb : ∀ (Wk : sv_K) (Kr : Option sv_AV → sv_S → Prop), (∀ (kind : Int32) (room : Int32) (σ : sv_S), F_X0_readRow_0 Wk Kr kind room σ → Wk 0 [some (.inr (.inr (0, 0))), some (.inl kind), some (.inl room), none, none, none, none] [] σ) → (∀ (x1 : Int32) (x2 : Int32) (x3 : Int32) (x4 : Int32) (x5 : Int32) (σ : sv_S), F_X0_readRow_8 Wk Kr x1 x2 x3 x4 x5 σ → Wk 8 [some (.inr (.inr (0, 0))), some (.inl x1), some (.inl x2), some (.inl x3), some (.inl x4), some (.inl x5), none] [] σ) → (∀ (kind : Int32) (room : Int32) (σ : sv_S), (∃ d : dD, ∃ k : Nat, ∃ r : Nat, (RP d σ ∧ CLS d σ ∧ TG d k r σ ∧ (k < 2 ∧ kind = nI k) ∧ (r ≤ 60 ∧ room = nI r)) ∧ (∀ σ2 : sv_S, sq [15, 16] σ σ2 ∧ (∀ i j, i ≠ k → sv_gA σ2 15 i j = sv_gA σ 15 i j) ∧ (∀ j, j ≠ k → sv_gA σ2 16 0 j = sv_gA σ 16 0 j) ∧ sv_gA σ2 16 0 k = nI r ∧ (∀ p, p < dP d → sv_gA σ2 15 k p = nI (bsp d k r p)) → Kr none σ2)) → Wk 0 [some (.inr (.inr (0, 0))), some (.inl kind), some (.inl room), none, none, none, none] [] σ)) : sv_C l yX0_readRow cX0_readRow 7 none sv_all 4 95 sp_X0_readRow := by
  refine sv_meth sv_clok_all tb_X0_readRow T_X0_readRow (by decide) tbk_X0_readRow (Tok_X0_readRow l) ?_
  intro Wk Kr hc av σ hsp
  have hB := hb Wk Kr (fun kind room σ h => hc [(8, [true, true, true, true, true, true, false])] 500 0 _ _ _ (bk_X0_readRow_0 Wk Kr kind room σ h)) (fun x1 x2 x3 x4 x5 σ h => hc [(8, [true, true, true, true, true, true, false])] 500 8 _ _ _ (bk_X0_readRow_8 Wk Kr x1 x2 x3 x4 x5 σ h))
  unfold sp_X0_readRow at hsp
  split at hsp
  · exact ⟨⟨by simp, by simp [sv_cat]⟩, hB _ _ _ hsp⟩
  · exact hsp.elim
theorem pth_sub (d : dD) (k r : Nat) : ∀ p, (pth d k r p).2 &&& (pth d k r p).1 = (pth d k r p).2
  | 0 => by
    show (0 : Nat) &&& 0 = 0
    rw [Nat.and_self]
  | p + 1 => by
    unfold pth dnx
    dsimp only
    rw [Nat.and_assoc, Nat.and_self]
set_option maxHeartbeats 4000000 in
set_option maxRecDepth 100000 in
theorem c_X0_readRow (l : Launch) : sv_C l yX0_readRow cX0_readRow 7 none sv_all 4 95 sp_X0_readRow := by
  refine m_X0_readRow l ?_
  intro Wk Kr e0 e8 kind room σ ⟨d, k, r, ⟨hR, hC, hTG, ⟨hk, hkd⟩, hr, hroom⟩, h⟩
  subst hkd
  subst hroom
  have hP := hR.1.1
  have h32 := two_pow_le hR.1
  have key : ∀ m p σ', p + m = dP d → sq [15, 16] σ σ' → (∀ j, sv_gA σ' 16 0 j = sv_gA σ 16 0 j) → (∀ i j, i ≠ k → sv_gA σ' 15 i j = sv_gA σ 15 i j) → (∀ j, j < p → sv_gA σ' 15 k j = nI (bsp d k r j)) → Wk 8 [some (.inr (.inr (0, 0))), some (.inl (nI k)), some (.inl (nI r)), some (.inl (nI (pth d k r p).1)), some (.inl (nI (pth d k r p).2)), some (.inl (nI p)), none] [] σ' := by
    intro m
    induction m with
    | zero =>
      intro p σ' hp hs h0 h1 h2
      have hR' := RP_fr hR hs
      apply e8
      unfold F_X0_readRow_8
      rw [hR'.2.1, nI_clamp (by omega : k < 2 ^ 31)]
      refine pk_le (dP d) p (fun z => ⟨pk_in k 2 hk, h _ ⟨sq_tr hs (sq_sA _ _ _ _ (by decide)), fun i j hi => ?_, fun j hj => ?_, gA_same _ _ _ _ _, fun j hj => ?_⟩⟩) (fun z => by omega)
      · rw [gA_ng _ (by decide)]
        exact h1 i j hi
      · rw [gA_nj _ hj]
        exact h0 j
      · rw [gA_ng _ (by decide)]
        exact h2 j (by omega)
    | succ m ih =>
      intro p σ' hp hs h0 h1 h2
      have hR' := RP_fr hR hs
      have hC' : CLS d σ' := fun s hs3 => by rw [hs.1 _ (by decide)]; exact hC s hs3
      have hTG' : TG d k r σ' := fun p hp s hs3 => by rw [hs.1 _ (by decide)]; exact hTG p hp s hs3
      have hpl := pth_lt hR.1 hk (r := r) (p := p) (by omega)
      have hpl1 := pth_lt hR.1 hk (r := r) (p := p + 1) (by omega)
      apply e8
      unfold F_X0_readRow_8
      rw [hR'.2.1, nI_clamp (by omega : k < 2 ^ 31), nI_clamp (by omega : p < 2 ^ 31), hR'.2.2.2.2.2.2.2.2 p (by omega), nI_1]
      refine pk_le (dP d) p (fun z => by omega) (fun z => ⟨d, p, k, r, (pth d k r p).1, (pth d k r p).2, ⟨hR', hC', hTG', ⟨by omega, rfl⟩, ⟨hk, rfl⟩, ⟨hr, rfl⟩, ⟨hpl.1, rfl⟩, ⟨hpl.2, rfl⟩, pth_sub d k r p⟩, fun v7 h7 => ⟨pk_in k 2 hk, pk_in p 10 (by omega), pk_in p 10 (by omega), ?_⟩⟩)
      have e7 : v7 = nI (pth d k r (p + 1)).1 := h7
      have ed : (nI (pth d k r p).2 ||| nI (wset d p)) &&& v7 = nI (pth d k r (p + 1)).2 := by
        rw [e7, or_nI _ (by omega) _ (wset_lt d p), and_nI _ (or_lt (by omega) (wset_lt d p)) _ (by omega)]
        rfl
      rw [ed, e7]
      refine ih (p + 1) _ (by omega) (sq_tr hs (sq_sA _ _ _ _ (by decide))) (fun j => by rw [gA_ng _ (by decide)]; exact h0 j) (fun i j hi => by rw [gA_ni _ hi]; exact h1 i j hi) (fun j hj => ?_)
      by_cases hjp : j = p
      · subst hjp
        rw [gA_same]
        rfl
      · rw [gA_nj _ hjp]
        exact h2 j (by omega)
  apply e0
  exact key (dP d) 0 σ (by omega) (sq_rf _ _) (fun _ => rfl) (fun _ _ _ => rfl) (fun j hj => by omega)
