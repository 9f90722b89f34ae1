-- ==== X5_findFrom
def sp_X5_findFrom : sv_P := fun av σ K => match av with
  | [.inr (.inr (5, 0)), .inl p, .inl state, .inl kind, .inl room] => ∃ d : dD, ∃ q : Nat, ∃ z : Nat, ∃ k : Nat, ∃ r : Nat, (RM d σ ∧ (q < dP d ∧ p = nI q) ∧ (z < 3 ^ dT d ∧ state = nI z) ∧ (k < 2 ∧ kind = nI k) ∧ (r ≤ 60 ∧ room = nI r) ∧ LF d k r (q + 1) σ) ∧ (∀ σ2 : sv_S, sq [38, 39] σ σ2 ∧ (∀ j, j ≠ 243 * q + z → sv_gA σ2 38 0 j = sv_gA σ 38 0 j) ∧ (∀ j, j ≠ 243 * q + z → sv_gA σ2 39 0 j = sv_gA σ 39 0 j) ∧ sv_gA σ2 38 0 (243 * q + z) = nI (Vm d k r (dP d - q) (sIn z) (sDi z)) ∧ sv_gA σ2 39 0 (243 * q + z) = nI (Sm d k r (dP d - (q + 1)) (sIn z) (sDi z)) → K none σ2)
  | _ => False
def tb_X5_findFrom : List (Nat × (Instr × Nat)) := [(0, (.ldc 102, 2)), (2, (.istore 5, 2)), (4, (.iconst 0, 1)), (5, (.istore 6, 2)), (7, (.iload 6, 2)), (9, (.iconst 1, 1)), (10, (.aload_n 0, 1)), (11, (.getfield 54, 3)), (14, (.ishl, 1)), (15, (.if_icmp .ge 93, 3)), (18, (.aload_n 0, 1)), (19, (.iload 6, 2)), (21, (.invokevirtual 103, 3)), (24, (.iload 4, 2)), (26, (.if_icmp .gt 76, 3)), (29, (.aload_n 0, 1)), (30, (.iload_n 1, 1)), (31, (.iload 6, 2)), (33, (.iload_n 3, 1)), (34, (.invokevirtual 89, 3)), (37, (.aload_n 0, 1)), (38, (.iload_n 2, 1)), (39, (.iload 6, 2)), (41, (.invokevirtual 93, 3)), (44, (.iadd, 1)), (45, (.aload_n 0, 1)), (46, (.iload_n 2, 1)), (47, (.iload 6, 2)), (49, (.invokevirtual 96, 3)), (52, (.iadd, 1)), (53, (.aload_n 0, 1)), (54, (.getfield 31, 3)), (57, (.sipush 243, 3)), (60, (.iload_n 1, 1)), (61, (.iconst 1, 1)), (62, (.iadd, 1)), (63, (.imul, 1)), (64, (.aload_n 0, 1)), (65, (.iload_n 2, 1)), (66, (.iload_n 1, 1)), (67, (.iload 6, 2)), (69, (.invokevirtual 99, 3)), (72, (.iadd, 1)), (73, (.iaload, 1)), (74, (.iadd, 1)), (75, (.istore 7, 2)), (77, (.iload 7, 2)), (79, (.iload 5, 2)), (81, (.if_icmp .ge 21, 3)), (84, (.iload 7, 2)), (86, (.istore 5, 2)), (88, (.aload_n 0, 1)), (89, (.getfield 34, 3)), (92, (.sipush 243, 3)), (95, (.iload_n 1, 1)), (96, (.imul, 1)), (97, (.iload_n 2, 1)), (98, (.iadd, 1)), (99, (.iload 6, 2)), (101, (.iastore, 1)), (102, (.iinc 6 1, 3)), (105, (.goto (-98), 3)), (108, (.aload_n 0, 1)), (109, (.getfield 31, 3)), (112, (.sipush 243, 3)), (115, (.iload_n 1, 1)), (116, (.imul, 1)), (117, (.iload_n 2, 1)), (118, (.iadd, 1)), (119, (.iload 5, 2)), (121, (.iastore, 1)), (122, (.return_, 1))]
set_option maxRecDepth 100000 in
theorem tbk_X5_findFrom : sv_tbok cX5_findFrom tb_X5_findFrom = true := by decide +kernel
def cal_X5_findFrom : List (Nat × (Nat × Nat × sv_P)) := [(103, (2, 5, sp_X5_cellsOf)), (89, (4, 5, sp_X5_workOf)), (93, (3, 5, sp_X5_fetched)), (96, (3, 5, sp_X5_returned)), (99, (4, 5, sp_X5_stateBehind))]
def T_X5_findFrom : sv_T := (flX5, sfX5, kcX5, klX5, cal_X5_findFrom)
set_option maxRecDepth 100000 in
theorem Tok_X5_findFrom (l : Launch) : sv_Tok l RX5 sv_all 2 49 T_X5_findFrom := ⟨flokX5, sfokX5, kcokX5, klokX5, List.forall_mem_cons.mpr ⟨⟨fun _ => sv_COv_of (c_X5_cellsOf l) sv_clok_all (sv_mem 716 (by decide +kernel) rfl) kw_X5_cellsOf.1 kw_X5_cellsOf.2.1 kw_X5_cellsOf.2.2.1 kw_X5_cellsOf.2.2.2 kd_X5_cellsOf rfl (by decide) (by decide +kernel) rfl (by decide), fun h => absurd h (by decide)⟩, List.forall_mem_cons.mpr ⟨⟨fun _ => sv_COv_of (c_X5_workOf l) sv_clok_all (sv_mem 720 (by decide +kernel) rfl) kw_X5_workOf.1 kw_X5_workOf.2.1 kw_X5_workOf.2.2.1 kw_X5_workOf.2.2.2 kd_X5_workOf rfl (by decide) (by decide +kernel) rfl (by decide), fun h => absurd h (by decide)⟩, List.forall_mem_cons.mpr ⟨⟨fun _ => sv_COv_of (c_X5_fetched l) sv_clok_all (sv_mem 724 (by decide +kernel) rfl) kw_X5_fetched.1 kw_X5_fetched.2.1 kw_X5_fetched.2.2.1 kw_X5_fetched.2.2.2 kd_X5_fetched rfl (by decide) (by decide +kernel) rfl (by decide), fun h => absurd h (by decide)⟩, List.forall_mem_cons.mpr ⟨⟨fun _ => sv_COv_of (c_X5_returned l) sv_clok_all (sv_mem 697 (by decide +kernel) rfl) kw_X5_returned.1 kw_X5_returned.2.1 kw_X5_returned.2.2.1 kw_X5_returned.2.2.2 kd_X5_returned rfl (by decide) (by decide +kernel) rfl (by decide), fun h => absurd h (by decide)⟩, List.forall_mem_cons.mpr ⟨⟨fun _ => sv_COv_of (c_X5_stateBehind l) sv_clok_all (sv_mem 728 (by decide +kernel) rfl) kw_X5_stateBehind.1 kw_X5_stateBehind.2.1 kw_X5_stateBehind.2.2.1 kw_X5_stateBehind.2.2.2 kd_X5_stateBehind rfl (by decide) (by decide +kernel) rfl (by decide), fun h => absurd h (by decide)⟩, fun _ h => absurd h List.not_mem_nil⟩⟩⟩⟩⟩⟩
theorem kw_X5_findFrom : Cond.instanceMethod yX5_findFrom ∈ sv_tb ∧ Cond.selects yX5_findFrom.cls yX5_findFrom yX5_findFrom ∈ sv_tb ∧ Cond.initialized yX5_findFrom.cls ∈ sv_tb ∧ Cond.code yX5_findFrom cX5_findFrom 8 none ∈ sv_tb := ⟨sv_mem 713 (by decide +kernel) rfl, sv_mem 25 (by decide +kernel) rfl, sv_mem 56 (by decide +kernel) rfl, sv_mem 714 (by decide +kernel) rfl⟩
theorem kd_X5_findFrom : yX5_findFrom.cls ≠ "java/lang/invoke/MethodHandle" ∧ yX5_findFrom.cls ≠ "java/lang/invoke/VarHandle" ∧ (parseMethodDescriptor yX5_findFrom.desc).map (fun d => d.parameters.length) = some 4 := by decide +kernel
def F_X5_findFrom_0 (Wk : sv_K) (Kr : Option sv_AV → sv_S → Prop) (p : Int32) (state : Int32) (kind : Int32) (room : Int32) (σ : sv_S) : Prop := Wk 7 [some (.inr (.inr (5, 0))), some (.inl p), some (.inl state), some (.inl kind), some (.inl room), some (.inl (1000000000 : Int32)), some (.inl (0 : Int32)), none] [] σ
set_option maxRecDepth 100000 in
theorem bk_X5_findFrom_0 (Wk : sv_K) (Kr : Option sv_AV → sv_S → Prop) (p : Int32) (state : Int32) (kind : Int32) (room : Int32) (σ : sv_S) (h : F_X5_findFrom_0 Wk Kr p state kind room σ) : sv_vc tb_X5_findFrom T_X5_findFrom sv_all none Kr [(7, [true, true, true, true, true, true, true, false])] Wk 500 0 [some (.inr (.inr (5, 0))), some (.inl p), some (.inl state), some (.inl kind), some (.inl room), none, none, none] [] σ := h
def F_X5_findFrom_7 (Wk : sv_K) (Kr : Option sv_AV → sv_S → Prop) (x1 : Int32) (x2 : Int32) (x3 : Int32) (x4 : Int32) (x5 : Int32) (x6 : Int32) (σ : sv_S) : Prop := ((((1 : Int32) <<< ((sv_gA σ 5 0 1) &&& 31)) ≤ x6 → (vp_in (((243 : Int32) * x1) + x2) 2673 ∧ Kr none (sv_sA σ 38 0 (((243 : Int32) * x1) + x2).toNatClampNeg x5))) ∧ (¬ ((1 : Int32) <<< ((sv_gA σ 5 0 1) &&& 31)) ≤ x6 → (∃ d1 : dD, ∃ c2 : Nat, (RM d1 σ ∧ (c2 < 32 ∧ x6 = nI c2)) ∧ (∀ v3 : Int32, v3 = nI (cells d1 c2) → ((x4 < v3 → Wk 7 [some (.inr (.inr (5, 0))), some (.inl x1), some (.inl x2), some (.inl x3), some (.inl x4), some (.inl x5), some (.inl (x6 + (1 : Int32))), none] [] σ) ∧ (¬ x4 < v3 → (∃ d4 : dD, ∃ q5 : Nat, ∃ c6 : Nat, ∃ k7 : Nat, (RM d4 σ ∧ (q5 < dP d4 ∧ x1 = nI q5) ∧ (c6 < 32 ∧ x6 = nI c6) ∧ (k7 < 2 ∧ x3 = nI k7)) ∧ (∀ v8 : Int32, v8 = nI (work d4 q5 k7 c6) → (∃ d9 : dD, ∃ z10 : Nat, ∃ c11 : Nat, (RM d9 σ ∧ (z10 < 3 ^ dT d9 ∧ x2 = nI z10) ∧ (c11 < 2 ^ dT d9 ∧ x6 = nI c11)) ∧ (∀ v12 : Int32, v12 = nI (carry d9 (nd c11 (sIn z10))) → (∃ d13 : dD, ∃ z14 : Nat, ∃ c15 : Nat, (RM d13 σ ∧ (z14 < 3 ^ dT d13 ∧ x2 = nI z14) ∧ (c15 < 2 ^ dT d13 ∧ x6 = nI c15)) ∧ (∀ v16 : Int32, v16 = nI (carry d13 (nd (sDi z14) c15)) → (∃ d17 : dD, ∃ z18 : Nat, ∃ q19 : Nat, ∃ c20 : Nat, (RM d17 σ ∧ (z18 < 3 ^ dT d17 ∧ x2 = nI z18) ∧ (q19 < dP d17 ∧ x1 = nI q19) ∧ (c20 < 2 ^ dT d17 ∧ x6 = nI c20)) ∧ (∀ v21 : Int32, v21 = nI (snx d17 q19 z18 c20) → (vp_in (((243 : Int32) * (x1 + (1 : Int32))) + v21) 2673 ∧ ((x5 ≤ (((v8 + v12) + v16) + (sv_gA σ 38 0 (((243 : Int32) * (x1 + (1 : Int32))) + v21).toNatClampNeg)) → Wk 7 [some (.inr (.inr (5, 0))), some (.inl x1), some (.inl x2), some (.inl x3), some (.inl x4), some (.inl x5), some (.inl (x6 + (1 : Int32))), none] [] σ) ∧ (¬ x5 ≤ (((v8 + v12) + v16) + (sv_gA σ 38 0 (((243 : Int32) * (x1 + (1 : Int32))) + v21).toNatClampNeg)) → (vp_in (((243 : Int32) * x1) + x2) 2430 ∧ Wk 7 [some (.inr (.inr (5, 0))), some (.inl x1), some (.inl x2), some (.inl x3), some (.inl x4), some (.inl (((v8 + v12) + v16) + (sv_gA σ 38 0 (((243 : Int32) * (x1 + (1 : Int32))) + v21).toNatClampNeg))), some (.inl (x6 + (1 : Int32))), none] [] (sv_sA σ 39 0 (((243 : Int32) * x1) + x2).toNatClampNeg x6)))))))))))))))))))
set_option maxRecDepth 100000 in
theorem bk_X5_findFrom_7 (Wk : sv_K) (Kr : Option sv_AV → sv_S → Prop) (x1 : Int32) (x2 : Int32) (x3 : Int32) (x4 : Int32) (x5 : Int32) (x6 : Int32) (σ : sv_S) (h : F_X5_findFrom_7 Wk Kr x1 x2 x3 x4 x5 x6 σ) : sv_vc tb_X5_findFrom T_X5_findFrom sv_all none Kr [(7, [true, true, true, true, true, true, true, false])] Wk 500 7 [some (.inr (.inr (5, 0))), some (.inl x1), some (.inl x2), some (.inl x3), some (.inl x4), some (.inl x5), some (.inl x6), none] [] σ := ⟨fun z22 => ⟨(((h).1 z22)).1, ⟨rfl, ((((h).1 z22)).2)⟩⟩, fun z22 => ((h).2 z22)⟩
set_option maxRecDepth 100000 in
theorem m_X5_findFrom (l : Launch) (hb : ∀ (Wk : sv_K) (Kr : Option sv_AV → sv_S → Prop), (∀ (p : Int32) (state : Int32) (kind : Int32) (room : Int32) (σ : sv_S), F_X5_findFrom_0 Wk Kr p state kind room σ → Wk 0 [some (.inr (.inr (5, 0))), some (.inl p), some (.inl state), some (.inl kind), some (.inl room), none, none, none] [] σ) → (∀ (x1 : Int32) (x2 : Int32) (x3 : Int32) (x4 : Int32) (x5 : Int32) (x6 : Int32) (σ : sv_S), F_X5_findFrom_7 Wk Kr x1 x2 x3 x4 x5 x6 σ → Wk 7 [some (.inr (.inr (5, 0))), some (.inl x1), some (.inl x2), some (.inl x3), some (.inl x4), some (.inl x5), some (.inl x6), none] [] σ) → (∀ (p : Int32) (state : Int32) (kind : Int32) (room : Int32) (σ : sv_S), (∃ d : dD, ∃ q : Nat, ∃ z : Nat, ∃ k : Nat, ∃ r : Nat, (RM d σ ∧ (q < dP d ∧ p = nI q) ∧ (z < 3 ^ dT d ∧ state = nI z) ∧ (k < 2 ∧ kind = nI k) ∧ (r ≤ 60 ∧ room = nI r) ∧ LF d k r (q + 1) σ) ∧ (∀ σ2 : sv_S, sq [38, 39] σ σ2 ∧ (∀ j, j ≠ 243 * q + z → sv_gA σ2 38 0 j = sv_gA σ 38 0 j) ∧ (∀ j, j ≠ 243 * q + z → sv_gA σ2 39 0 j = sv_gA σ 39 0 j) ∧ sv_gA σ2 38 0 (243 * q + z) = nI (Vm d k r (dP d - q) (sIn z) (sDi z)) ∧ sv_gA σ2 39 0 (243 * q + z) = nI (Sm d k r (dP d - (q + 1)) (sIn z) (sDi z)) → Kr none σ2)) → Wk 0 [some (.inr (.inr (5, 0))), some (.inl p), some (.inl state), some (.inl kind), some (.inl room), none, none, none] [] σ)) : sv_C l yX5_findFrom cX5_findFrom 8 none sv_all 2 49 sp_X5_findFrom := by
  refine sv_meth sv_clok_all tb_X5_findFrom T_X5_findFrom (by decide) tbk_X5_findFrom (Tok_X5_findFrom l) ?_
  intro Wk Kr hc av σ hsp
  have hB := hb Wk Kr (fun p state kind room σ h => hc [(7, [true, true, true, true, true, true, true, false])] 500 0 _ _ _ (bk_X5_findFrom_0 Wk Kr p state kind room σ h)) (fun x1 x2 x3 x4 x5 x6 σ h => hc [(7, [true, true, true, true, true, true, true, false])] 500 7 _ _ _ (bk_X5_findFrom_7 Wk Kr x1 x2 x3 x4 x5 x6 σ h))
  unfold sp_X5_findFrom at hsp
  split at hsp
  · exact ⟨⟨by simp, by simp [sv_cat]⟩, hB _ _ _ _ _ hsp⟩
  · exact hsp.elim
set_option maxHeartbeats 4000000 in
set_option maxRecDepth 100000 in
theorem c_X5_findFrom (l : Launch) : sv_C l yX5_findFrom cX5_findFrom 8 none sv_all 2 49 sp_X5_findFrom := by
  refine m_X5_findFrom l ?_
  intro Wk Kr e0 e7 p state kind room σ ⟨d, q, z, k, r, ⟨hR, ⟨hq, hp⟩, ⟨hz, hs⟩, ⟨hk, hkd⟩, ⟨hr, hrm⟩, hLF⟩, h⟩
  subst hp
  subst hs
  subst hkd
  subst hrm
  have hT := hR.1.2.1
  have hP := hR.1.1
  have h32 := two_pow_le hR.1
  have h243 := three_le hR.1
  have hsz := sIn_lt (dT d) (by omega) z hz
  have key : ∀ n, n ≤ 2 ^ dT d → ∀ σ', sq [39] σ σ' → (∀ j, j ≠ 243 * q + z → sv_gA σ' 39 0 j = sv_gA σ 39 0 j) → (bestv (Fm d k r (dP d - (q + 1)) (sIn z) (sDi z)) (okr d r) n < 1000000000 → sv_gA σ' 39 0 (243 * q + z) = nI (besti (Fm d k r (dP d - (q + 1)) (sIn z) (sDi z)) (okr d r) n)) → Wk 7 [some (.inr (.inr (5, 0))), some (.inl (nI q)), some (.inl (nI z)), some (.inl (nI k)), some (.inl (nI r)), some (.inl (nI (bestv (Fm d k r (dP d - (q + 1)) (sIn z) (sDi z)) (okr d r) n))), some (.inl (nI n)), none] [] σ' := by
    refine lpN (fun n hn ih σ' hs' hj hb => ?_)
    have hR' := RM_fr hR hs'
    apply e7
    unfold F_X5_findFrom_7
    rw [hR'.2.2.2.1, sh_pow hT, ix243, nI_1, nI_1, nI_clamp (by omega)]
    have hbf := bestv_far (Fm d k r (dP d - (q + 1)) (sIn z) (sDi z)) (okr d r) n
    refine pk_le (2 ^ dT d) n (fun y => ⟨pk_in (243 * q + z) 2673 (by omega), h _ ⟨?_, fun j hj2 => ?_, fun j hj2 => ?_, ?_, ?_⟩⟩) (fun y => ?_)
    · exact sq_tr (sq_mono hs' (by decide)) (sq_sA _ _ _ _ (by decide))
    · rw [gA_nj _ hj2, hs'.1 _ (by decide)]
    · rw [gA_ng _ (by decide)]
      exact hj j hj2
    · rw [gA_same, show n = 2 ^ dT d by omega, show dP d - q = dP d - (q + 1) + 1 by omega, Vm_succ]
    · have hV := Vm_lt hR.1 hk (r := r) (n := dP d - (q + 1) + 1) (by omega) (sIn z) (sDi z)
      rw [Vm_succ] at hV
      rw [gA_ng _ (by decide)]
      have e : n = 2 ^ dT d := by omega
      rw [e] at hb
      exact hb (by omega)
    · refine ⟨d, n, ⟨hR', by omega, rfl⟩, fun v3 h3 => ?_⟩
      subst h3
      have hcl := cells_le hR.1 n
      have ih := ih y
      have skip : ¬ (okr d r n = true ∧ Fm d k r (dP d - (q + 1)) (sIn z) (sDi z) n < bestv (Fm d k r (dP d - (q + 1)) (sIn z) (sDi z)) (okr d r) n) → Wk 7 [some (.inr (.inr (5, 0))), some (.inl (nI q)), some (.inl (nI z)), some (.inl (nI k)), some (.inl (nI r)), some (.inl (nI (bestv (Fm d k r (dP d - (q + 1)) (sIn z) (sDi z)) (okr d r) n))), some (.inl (nI (n + 1))), none] [] σ' := by
        intro hno
        have := ih σ' hs' hj
        unfold bestv besti at this
        rw [if_neg hno, if_neg hno] at this
        exact this hb
      refine pk_lt r (cells d n) (fun x => skip (fun w => ?_)) (fun x => ?_)
      · have := of_decide_eq_true w.1
        omega
      · have hok : okr d r n = true := decide_eq_true x
        have hsn := snx_at hR.1 q (z := z) y
        refine ⟨d, q, n, k, ⟨hR', ⟨hq, rfl⟩, ⟨by omega, rfl⟩, hk, rfl⟩, fun v8 h8 => ⟨d, z, n, ⟨hR', ⟨hz, rfl⟩, y, rfl⟩, fun v12 h12 => ⟨d, z, n, ⟨hR', ⟨hz, rfl⟩, y, rfl⟩, fun v16 h16 => ⟨d, z, q, n, ⟨hR', ⟨hz, rfl⟩, ⟨hq, rfl⟩, y, rfl⟩, fun v21 h21 => ?_⟩⟩⟩⟩
        subst h8
        subst h12
        subst h16
        subst h21
        have hf : nI (work d q k n) + nI (carry d (nd n (sIn z))) + nI (carry d (nd (sDi z) n)) + sv_gA σ' 38 0 (243 * (q + 1) + snx d q z n) = nI (Fm d k r (dP d - (q + 1)) (sIn z) (sDi z) n) := by
          rw [hs'.1 _ (by decide), hLF _ hsn.1, hsn.2.1, hsn.2.2, Fm_at d k r q _ _ n hq, nI_add, nI_add, nI_add]
        have hFl : Fm d k r (dP d - (q + 1)) (sIn z) (sDi z) n < 2 ^ 31 := by
          rw [Fm_at d k r q _ _ n hq]
          have a1 := work_le hR.1 hq hk n
          have a2 := carry_le hR.1 (nd n (sIn z))
          have a3 := carry_le hR.1 (nd (sDi z) n)
          have a4 := Vm_lt hR.1 hk (r := r) (n := dP d - (q + 1)) (by omega) n (dnx d q (sDi z) n)
          omega
        rw [ix243, nI_clamp (by omega), hf]
        refine ⟨pk_in (243 * (q + 1) + snx d q z n) 2673 (by omega), pk_le (bestv (Fm d k r (dP d - (q + 1)) (sIn z) (sDi z)) (okr d r) n) (Fm d k r (dP d - (q + 1)) (sIn z) (sDi z) n) (fun w => skip (fun v => by omega)) (fun w => ⟨pk_in (243 * q + z) 2430 (by omega), ?_⟩)⟩
        have := ih (sv_sA σ' 39 0 (243 * q + z) (nI n)) (sq_tr hs' (sq_sA _ _ _ _ (by decide))) (fun j hj2 => by rw [gA_nj _ hj2]; exact hj j hj2)
        unfold bestv besti at this
        rw [if_pos ⟨hok, w⟩, if_pos ⟨hok, w⟩] at this
        exact this (fun _ => gA_same _ _ _ _ _)
  exact e0 _ _ _ _ _ (key 0 (by omega) σ (sq_rf _ _) (fun _ _ => rfl) (fun y => absurd y (Nat.lt_irrefl _)))
-- ==== X5_triesBest
def sp_X5_triesBest : sv_P := fun av σ K => match av with
  | [.inr (.inr (5, 0)), .inl kind, .inl room] => ∃ d : dD, ∃ k : Nat, ∃ r : Nat, (RM d σ ∧ (k < 2 ∧ kind = nI k) ∧ (r ≤ 60 ∧ room = nI r)) ∧ (∀ v : Int32, ∀ σ2 : sv_S, v = nI (bst d k r) ∧ sq tg σ σ2 ∧ (∀ p, p < dP d → sv_gA σ2 37 0 p = nI (bsp d k r p)) → K (some (.inl v)) σ2)
  | _ => False
def tb_X5_triesBest : List (Nat × (Instr × Nat)) := [(0, (.aload_n 0, 1)), (1, (.invokevirtual 106, 3)), (4, (.istore_n 3, 1)), (5, (.iconst 0, 1)), (6, (.istore 4, 2)), (8, (.iload 4, 2)), (10, (.iload_n 3, 1)), (11, (.if_icmp .ge 32, 3)), (14, (.aload_n 0, 1)), (15, (.getfield 31, 3)), (18, (.sipush 243, 3)), (21, (.aload_n 0, 1)), (22, (.getfield 46, 3)), (25, (.imul, 1)), (26, (.iload 4, 2)), (28, (.iadd, 1)), (29, (.aload_n 0, 1)), (30, (.iload 4, 2)), (32, (.iconst 0, 1)), (33, (.invokevirtual 96, 3)), (36, (.iastore, 1)), (37, (.iinc 4 1, 3)), (40, (.goto (-32), 3)), (43, (.aload_n 0, 1)), (44, (.getfield 46, 3)), (47, (.iconst 1, 1)), (48, (.isub, 1)), (49, (.istore 4, 2)), (51, (.iload 4, 2)), (53, (.ifCond .lt 34, 3)), (56, (.iconst 0, 1)), (57, (.istore 5, 2)), (59, (.iload 5, 2)), (61, (.iload_n 3, 1)), (62, (.if_icmp .ge 19, 3)), (65, (.aload_n 0, 1)), (66, (.iload 4, 2)), (68, (.iload 5, 2)), (70, (.iload_n 1, 1)), (71, (.iload_n 2, 1)), (72, (.invokevirtual 110, 3)), (75, (.iinc 5 1, 3)), (78, (.goto (-19), 3)), (81, (.iinc 4 (-1), 3)), (84, (.goto (-33), 3)), (87, (.iconst 0, 1)), (88, (.istore 4, 2)), (90, (.iconst 0, 1)), (91, (.istore 5, 2)), (93, (.iload 5, 2)), (95, (.aload_n 0, 1)), (96, (.getfield 46, 3)), (99, (.if_icmp .ge 47, 3)), (102, (.aload_n 0, 1)), (103, (.getfield 28, 3)), (106, (.iload 5, 2)), (108, (.aload_n 0, 1)), (109, (.getfield 34, 3)), (112, (.sipush 243, 3)), (115, (.iload 5, 2)), (117, (.imul, 1)), (118, (.iload 4, 2)), (120, (.iadd, 1)), (121, (.iaload, 1)), (122, (.iastore, 1)), (123, (.aload_n 0, 1)), (124, (.iload 4, 2)), (126, (.iload 5, 2)), (128, (.aload_n 0, 1)), (129, (.getfield 28, 3)), (132, (.iload 5, 2)), (134, (.iaload, 1)), (135, (.invokevirtual 99, 3)), (138, (.istore 4, 2)), (140, (.iinc 5 1, 3)), (143, (.goto (-50), 3)), (146, (.aload_n 0, 1)), (147, (.getfield 31, 3)), (150, (.iconst 0, 1)), (151, (.iaload, 1)), (152, (.ireturn, 1))]
set_option maxRecDepth 100000 in
theorem tbk_X5_triesBest : sv_tbok cX5_triesBest tb_X5_triesBest = true := by decide +kernel
def cal_X5_triesBest : List (Nat × (Nat × Nat × sv_P)) := [(106, (1, 5, sp_X5_statesNow)), (96, (3, 5, sp_X5_returned)), (110, (5, 5, sp_X5_findFrom)), (99, (4, 5, sp_X5_stateBehind))]
def T_X5_triesBest : sv_T := (flX5, sfX5, kcX5, klX5, cal_X5_triesBest)
set_option maxRecDepth 100000 in
theorem Tok_X5_triesBest (l : Launch) : sv_Tok l RX5 sv_all 3 76 T_X5_triesBest := ⟨flokX5, sfokX5, kcokX5, klokX5, List.forall_mem_cons.mpr ⟨⟨fun _ => sv_COv_of (c_X5_statesNow l) sv_clok_all (sv_mem 693 (by decide +kernel) rfl) kw_X5_statesNow.1 kw_X5_statesNow.2.1 kw_X5_statesNow.2.2.1 kw_X5_statesNow.2.2.2 kd_X5_statesNow rfl (by decide) (by decide +kernel) rfl (by decide), fun h => absurd h (by decide)⟩, List.forall_mem_cons.mpr ⟨⟨fun _ => sv_COv_of (c_X5_returned l) sv_clok_all (sv_mem 697 (by decide +kernel) rfl) kw_X5_returned.1 kw_X5_returned.2.1 kw_X5_returned.2.2.1 kw_X5_returned.2.2.2 kd_X5_returned rfl (by decide) (by decide +kernel) rfl (by decide), fun h => absurd h (by decide)⟩, List.forall_mem_cons.mpr ⟨⟨fun _ => sv_COv_of (c_X5_findFrom l) sv_clok_all (sv_mem 711 (by decide +kernel) rfl) kw_X5_findFrom.1 kw_X5_findFrom.2.1 kw_X5_findFrom.2.2.1 kw_X5_findFrom.2.2.2 kd_X5_findFrom rfl (by decide) (by decide +kernel) rfl (by decide), fun h => absurd h (by decide)⟩, List.forall_mem_cons.mpr ⟨⟨fun _ => sv_COv_of (c_X5_stateBehind l) sv_clok_all (sv_mem 728 (by decide +kernel) rfl) kw_X5_stateBehind.1 kw_X5_stateBehind.2.1 kw_X5_stateBehind.2.2.1 kw_X5_stateBehind.2.2.2 kd_X5_stateBehind rfl (by decide) (by decide +kernel) rfl (by decide), fun h => absurd h (by decide)⟩, fun _ h => absurd h List.not_mem_nil⟩⟩⟩⟩⟩
theorem kw_X5_triesBest : Cond.instanceMethod yX5_triesBest ∈ sv_tb ∧ Cond.selects yX5_triesBest.cls yX5_triesBest yX5_triesBest ∈ sv_tb ∧ Cond.initialized yX5_triesBest.cls ∈ sv_tb ∧ Cond.code yX5_triesBest cX5_triesBest 6 (some .int) ∈ sv_tb := ⟨sv_mem 691 (by decide +kernel) rfl, sv_mem 21 (by decide +kernel) rfl, sv_mem 56 (by decide +kernel) rfl, sv_mem 692 (by decide +kernel) rfl⟩
theorem kd_X5_triesBest : yX5_triesBest.cls ≠ "java/lang/invoke/MethodHandle" ∧ yX5_triesBest.cls ≠ "java/lang/invoke/VarHandle" ∧ (parseMethodDescriptor yX5_triesBest.desc).map (fun d => d.parameters.length) = some 2 := by decide +kernel
def F_X5_triesBest_0 (Wk : sv_K) (Kr : Option sv_AV → sv_S → Prop) (kind : Int32) (room : Int32) (σ : sv_S) : Prop := (∃ d1 : dD, (RM d1 σ) ∧ (∀ v2 : Int32, v2 = nI (3 ^ dT d1) → Wk 8 [some (.inr (.inr (5, 0))), some (.inl kind), some (.inl room), some (.inl v2), some (.inl (0 : Int32)), none] [] σ))
set_option maxRecDepth 100000 in
theorem bk_X5_triesBest_0 (Wk : sv_K) (Kr : Option sv_AV → sv_S → Prop) (kind : Int32) (room : Int32) (σ : sv_S) (h : F_X5_triesBest_0 Wk Kr kind room σ) : sv_vc tb_X5_triesBest T_X5_triesBest sv_all (some .int) Kr [(8, [true, true, true, true, true, false]), (51, [true, true, true, true, true, false]), (59, [true, true, true, true, true, true]), (93, [true, false, false, false, true, true])] Wk 500 0 [some (.inr (.inr (5, 0))), some (.inl kind), some (.inl room), none, none, none] [] σ := h
def F_X5_triesBest_8 (Wk : sv_K) (Kr : Option sv_AV → sv_S → Prop) (x1 : Int32) (x2 : Int32) (x3 : Int32) (x4 : Int32) (σ : sv_S) : Prop := ((x3 ≤ x4 → Wk 51 [some (.inr (.inr (5, 0))), some (.inl x1), some (.inl x2), some (.inl x3), some (.inl ((sv_gA σ 5 0 0) - (1 : Int32))), none] [] σ) ∧ (¬ x3 ≤ x4 → (∃ d1 : dD, ∃ z2 : Nat, ∃ c3 : Nat, (RM d1 σ ∧ (z2 < 3 ^ dT d1 ∧ x4 = nI z2) ∧ (c3 < 2 ^ dT d1 ∧ (0 : Int32) = nI c3)) ∧ (∀ v4 : Int32, v4 = nI (carry d1 (nd (sDi z2) c3)) → (vp_in (((243 : Int32) * (sv_gA σ 5 0 0)) + x4) 2673 ∧ Wk 8 [some (.inr (.inr (5, 0))), some (.inl x1), some (.inl x2), some (.inl x3), some (.inl (x4 + (1 : Int32))), none] [] (sv_sA σ 38 0 (((243 : Int32) * (sv_gA σ 5 0 0)) + x4).toNatClampNeg v4))))))
set_option maxRecDepth 100000 in
theorem bk_X5_triesBest_8 (Wk : sv_K) (Kr : Option sv_AV → sv_S → Prop) (x1 : Int32) (x2 : Int32) (x3 : Int32) (x4 : Int32) (σ : sv_S) (h : F_X5_triesBest_8 Wk Kr x1 x2 x3 x4 σ) : sv_vc tb_X5_triesBest T_X5_triesBest sv_all (some .int) Kr [(8, [true, true, true, true, true, false]), (51, [true, true, true, true, true, false]), (59, [true, true, true, true, true, true]), (93, [true, false, false, false, true, true])] Wk 500 8 [some (.inr (.inr (5, 0))), some (.inl x1), some (.inl x2), some (.inl x3), some (.inl x4), none] [] σ := h
def F_X5_triesBest_51 (Wk : sv_K) (Kr : Option sv_AV → sv_S → Prop) (x1 : Int32) (x2 : Int32) (x3 : Int32) (x4 : Int32) (σ : sv_S) : Prop := ((x4 < (0 : Int32) → Wk 93 [some (.inr (.inr (5, 0))), none, none, none, some (.inl (0 : Int32)), some (.inl (0 : Int32))] [] σ) ∧ (¬ x4 < (0 : Int32) → Wk 59 [some (.inr (.inr (5, 0))), some (.inl x1), some (.inl x2), some (.inl x3), some (.inl x4), some (.inl (0 : Int32))] [] σ))
set_option maxRecDepth 100000 in
theorem bk_X5_triesBest_51 (Wk : sv_K) (Kr : Option sv_AV → sv_S → Prop) (x1 : Int32) (x2 : Int32) (x3 : Int32) (x4 : Int32) (σ : sv_S) (h : F_X5_triesBest_51 Wk Kr x1 x2 x3 x4 σ) : sv_vc tb_X5_triesBest T_X5_triesBest sv_all (some .int) Kr [(8, [true, true, true, true, true, false]), (51, [true, true, true, true, true, false]), (59, [true, true, true, true, true, true]), (93, [true, false, false, false, true, true])] Wk 500 51 [some (.inr (.inr (5, 0))), some (.inl x1), some (.inl x2), some (.inl x3), some (.inl x4), none] [] σ := h
def F_X5_triesBest_93 (Wk : sv_K) (Kr : Option sv_AV → sv_S → Prop) (x4 : Int32) (x5 : Int32) (σ : sv_S) : Prop := (((sv_gA σ 5 0 0) ≤ x5 → Kr (some (.inl (sv_gA σ 38 0 0))) σ) ∧ (¬ (sv_gA σ 5 0 0) ≤ x5 → (vp_in (((243 : Int32) * x5) + x4) 2430 ∧ (vp_in x5 10 ∧ (vp_in x5 10 ∧ (∃ d1 : dD, ∃ z2 : Nat, ∃ q3 : Nat, ∃ c4 : Nat, (RM d1 (sv_sA σ 37 0 x5.toNatClampNeg (sv_gA σ 39 0 (((243 : Int32) * x5) + x4).toNatClampNeg)) ∧ (z2 < 3 ^ dT d1 ∧ x4 = nI z2) ∧ (q3 < dP d1 ∧ x5 = nI q3) ∧ (c4 < 2 ^ dT d1 ∧ (sv_gA (sv_sA σ 37 0 x5.toNatClampNeg (sv_gA σ 39 0 (((243 : Int32) * x5) + x4).toNatClampNeg)) 37 0 x5.toNatClampNeg) = nI c4)) ∧ (∀ v5 : Int32, v5 = nI (snx d1 q3 z2 c4) → Wk 93 [some (.inr (.inr (5, 0))), none, none, none, some (.inl v5), some (.inl (x5 + (1 : Int32)))] [] (sv_sA σ 37 0 x5.toNatClampNeg (sv_gA σ 39 0 (((243 : Int32) * x5) + x4).toNatClampNeg)))))))))
set_option maxRecDepth 100000 in
theorem bk_X5_triesBest_93 (Wk : sv_K) (Kr : Option sv_AV → sv_S → Prop) (x4 : Int32) (x5 : Int32) (σ : sv_S) (h : F_X5_triesBest_93 Wk Kr x4 x5 σ) : sv_vc tb_X5_triesBest T_X5_triesBest sv_all (some .int) Kr [(8, [true, true, true, true, true, false]), (51, [true, true, true, true, true, false]), (59, [true, true, true, true, true, true]), (93, [true, false, false, false, true, true])] Wk 500 93 [some (.inr (.inr (5, 0))), none, none, none, some (.inl x4), some (.inl x5)] [] σ := ⟨fun z6 => ⟨sb_vin (by decide), ((h).1 z6)⟩, fun z6 => ((h).2 z6)⟩
def F_X5_triesBest_59 (Wk : sv_K) (Kr : Option sv_AV → sv_S → Prop) (x1 : Int32) (x2 : Int32) (x3 : Int32) (x4 : Int32) (x5 : Int32) (σ : sv_S) : Prop := ((x3 ≤ x5 → Wk 51 [some (.inr (.inr (5, 0))), some (.inl x1), some (.inl x2), some (.inl x3), some (.inl (x4 + (-1 : Int32))), none] [] σ) ∧ (¬ x3 ≤ x5 → (∃ d1 : dD, ∃ q2 : Nat, ∃ z3 : Nat, ∃ k4 : Nat, ∃ r5 : Nat, (RM d1 σ ∧ (q2 < dP d1 ∧ x4 = nI q2) ∧ (z3 < 3 ^ dT d1 ∧ x5 = nI z3) ∧ (k4 < 2 ∧ x1 = nI k4) ∧ (r5 ≤ 60 ∧ x2 = nI r5) ∧ LF d1 k4 r5 (q2 + 1) σ) ∧ (∀ σ7 : sv_S, sq [38, 39] σ σ7 ∧ (∀ j, j ≠ 243 * q2 + z3 → sv_gA σ7 38 0 j = sv_gA σ 38 0 j) ∧ (∀ j, j ≠ 243 * q2 + z3 → sv_gA σ7 39 0 j = sv_gA σ 39 0 j) ∧ sv_gA σ7 38 0 (243 * q2 + z3) = nI (Vm d1 k4 r5 (dP d1 - q2) (sIn z3) (sDi z3)) ∧ sv_gA σ7 39 0 (243 * q2 + z3) = nI (Sm d1 k4 r5 (dP d1 - (q2 + 1)) (sIn z3) (sDi z3)) → Wk 59 [some (.inr (.inr (5, 0))), some (.inl x1), some (.inl x2), some (.inl x3), some (.inl x4), some (.inl (x5 + (1 : Int32)))] [] σ7))))
set_option maxRecDepth 100000 in
theorem bk_X5_triesBest_59 (Wk : sv_K) (Kr : Option sv_AV → sv_S → Prop) (x1 : Int32) (x2 : Int32) (x3 : Int32) (x4 : Int32) (x5 : Int32) (σ : sv_S) (h : F_X5_triesBest_59 Wk Kr x1 x2 x3 x4 x5 σ) : sv_vc tb_X5_triesBest T_X5_triesBest sv_all (some .int) Kr [(8, [true, true, true, true, true, false]), (51, [true, true, true, true, true, false]), (59, [true, true, true, true, true, true]), (93, [true, false, false, false, true, true])] Wk 500 59 [some (.inr (.inr (5, 0))), some (.inl x1), some (.inl x2), some (.inl x3), some (.inl x4), some (.inl x5)] [] σ := h
set_option maxRecDepth 100000 in
theorem m_X5_triesBest (l : Launch) (hb : ∀ (Wk : sv_K) (Kr : Option sv_AV → sv_S → Prop), (∀ (kind : Int32) (room : Int32) (σ : sv_S), F_X5_triesBest_0 Wk Kr kind room σ → Wk 0 [some (.inr (.inr (5, 0))), some (.inl kind), some (.inl room), none, none, none] [] σ) → (∀ (x1 : Int32) (x2 : Int32) (x3 : Int32) (x4 : Int32) (σ : sv_S), F_X5_triesBest_8 Wk Kr x1 x2 x3 x4 σ → Wk 8 [some (.inr (.inr (5, 0))), some (.inl x1), some (.inl x2), some (.inl x3), some (.inl x4), none] [] σ) → (∀ (x1 : Int32) (x2 : Int32) (x3 : Int32) (x4 : Int32) (σ : sv_S), F_X5_triesBest_51 Wk Kr x1 x2 x3 x4 σ → Wk 51 [some (.inr (.inr (5, 0))), some (.inl x1), some (.inl x2), some (.inl x3), some (.inl x4), none] [] σ) → (∀ (x4 : Int32) (x5 : Int32) (σ : sv_S), F_X5_triesBest_93 Wk Kr x4 x5 σ → Wk 93 [some (.inr (.inr (5, 0))), none, none, none, some (.inl x4), some (.inl x5)] [] σ) → (∀ (x1 : Int32) (x2 : Int32) (x3 : Int32) (x4 : Int32) (x5 : Int32) (σ : sv_S), F_X5_triesBest_59 Wk Kr x1 x2 x3 x4 x5 σ → Wk 59 [some (.inr (.inr (5, 0))), some (.inl x1), some (.inl x2), some (.inl x3), some (.inl x4), some (.inl x5)] [] σ) → (∀ (kind : Int32) (room : Int32) (σ : sv_S), (∃ d : dD, ∃ k : Nat, ∃ r : Nat, (RM d σ ∧ (k < 2 ∧ kind = nI k) ∧ (r ≤ 60 ∧ room = nI r)) ∧ (∀ v : Int32, ∀ σ2 : sv_S, v = nI (bst d k r) ∧ sq tg σ σ2 ∧ (∀ p, p < dP d → sv_gA σ2 37 0 p = nI (bsp d k r p)) → Kr (some (.inl v)) σ2)) → Wk 0 [some (.inr (.inr (5, 0))), some (.inl kind), some (.inl room), none, none, none] [] σ)) : sv_C l yX5_triesBest cX5_triesBest 6 (some .int) sv_all 3 76 sp_X5_triesBest := by
  refine sv_meth sv_clok_all tb_X5_triesBest T_X5_triesBest (by decide) tbk_X5_triesBest (Tok_X5_triesBest l) ?_
  intro Wk Kr hc av σ hsp
  have hB := hb Wk Kr (fun kind room σ h => hc [(8, [true, true, true, true, true, false]), (51, [true, true, true, true, true, false]), (59, [true, true, true, true, true, true]), (93, [true, false, false, false, true, true])] 500 0 _ _ _ (bk_X5_triesBest_0 Wk Kr kind room σ h)) (fun x1 x2 x3 x4 σ h => hc [(8, [true, true, true, true, true, false]), (51, [true, true, true, true, true, false]), (59, [true, true, true, true, true, true]), (93, [true, false, false, false, true, true])] 500 8 _ _ _ (bk_X5_triesBest_8 Wk Kr x1 x2 x3 x4 σ h)) (fun x1 x2 x3 x4 σ h => hc [(8, [true, true, true, true, true, false]), (51, [true, true, true, true, true, false]), (59, [true, true, true, true, true, true]), (93, [true, false, false, false, true, true])] 500 51 _ _ _ (bk_X5_triesBest_51 Wk Kr x1 x2 x3 x4 σ h)) (fun x4 x5 σ h => hc [(8, [true, true, true, true, true, false]), (51, [true, true, true, true, true, false]), (59, [true, true, true, true, true, true]), (93, [true, false, false, false, true, true])] 500 93 _ _ _ (bk_X5_triesBest_93 Wk Kr x4 x5 σ h)) (fun x1 x2 x3 x4 x5 σ h => hc [(8, [true, true, true, true, true, false]), (51, [true, true, true, true, true, false]), (59, [true, true, true, true, true, true]), (93, [true, false, false, false, true, true])] 500 59 _ _ _ (bk_X5_triesBest_59 Wk Kr x1 x2 x3 x4 x5 σ h))
  unfold sp_X5_triesBest at hsp
  split at hsp
  · exact ⟨⟨by simp, by simp [sv_cat]⟩, hB _ _ _ hsp⟩
  · exact hsp.elim
theorem LF_upd {d : dD} {k r p q z : Nat} {σ σ' : sv_S} (h : LF d k r p σ) (hd : wfP d) (hz : z < 3 ^ dT d) (hpq : p ≠ q) (e : ∀ j, j ≠ 243 * q + z → sv_gA σ' 38 0 j = sv_gA σ 38 0 j) : LF d k r p σ' := fun z' hz' => by
  have := three_le hd
  rw [e _ (by omega)]
  exact h z' hz'
theorem SF_upd {d : dD} {k r p q z : Nat} {σ σ' : sv_S} (h : SF d k r p σ) (hd : wfP d) (hz : z < 3 ^ dT d) (hpq : p ≠ q) (e : ∀ j, j ≠ 243 * q + z → sv_gA σ' 39 0 j = sv_gA σ 39 0 j) : SF d k r p σ' := fun z' hz' => by
  have := three_le hd
  rw [e _ (by omega)]
  exact h z' hz'
set_option maxHeartbeats 4000000 in
set_option maxRecDepth 100000 in
theorem c_X5_triesBest (l : Launch) : sv_C l yX5_triesBest cX5_triesBest 6 (some .int) sv_all 3 76 sp_X5_triesBest := by
  refine m_X5_triesBest l ?_
  intro Wk Kr e0 e8 e51 e93 e59 kind room σ ⟨d, k, r, ⟨hR, ⟨hk, hkd⟩, hr, hrm⟩, h⟩
  subst hkd
  subst hrm
  have hT := hR.1.2.1
  have hP := hR.1.1
  have h32 := two_pow_le hR.1
  have h243 := three_le hR.1
  have hLb : ∀ p, p < dP d → bsp d k r p < 2 ^ dT d := fun p hp => bsp_lt hR.1 hk hp
  -- reading the plan
  have k93 : ∀ n, n ≤ dP d → ∀ σ', sq tg σ σ' → (∀ p, p ≤ dP d → LF d k r p σ') → (∀ p, p < dP d → SF d k r p σ') → (∀ p, p < n → sv_gA σ' 37 0 p = nI (bsp d k r p)) → Wk 93 [some (.inr (.inr (5, 0))), none, none, none, some (.inl (nI (stL d (bsp d k r) n))), some (.inl (nI n))] [] σ' := by
    refine lpN (fun n hn ih σ' hs hL hS ht => ?_)
    have hR' := RM_fr hR hs
    have hst := stL_at hR.1 hLb hn
    have hpv := bsp_prv d k r n
    apply e93
    unfold F_X5_triesBest_93
    rw [hR'.2.2.1, ix243, nI_1, nI_clamp (by omega), nI_clamp (by omega)]
    refine pk_le (dP d) n (fun y => h _ _ ⟨?_, hs, fun p hp => ht p (by omega)⟩) (fun y => ?_)
    · exact hL 0 (by omega) 0 (Nat.pow_pos (by omega))
    · have hSn := hS n y (stL d (bsp d k r) n) hst.1
      rw [hst.2.1, hst.2.2, hpv.1, hpv.2] at hSn
      have hb : Sm d k r (dP d - (n + 1)) (pth d k r n).1 (pth d k r n).2 = bsp d k r n := rfl
      rw [hb] at hSn
      rw [hSn, gA_same]
      have hsA : sq tg σ' (sv_sA σ' 37 0 n (nI (bsp d k r n))) := sq_sA _ _ _ _ (by decide)
      refine ⟨pk_in (243 * n + stL d (bsp d k r) n) 2430 (by omega), pk_in n 10 (by omega), pk_in n 10 (by omega), d, stL d (bsp d k r) n, n, bsp d k r n, ⟨RM_fr hR' hsA, ⟨hst.1, rfl⟩, ⟨y, rfl⟩, hLb n y, rfl⟩, fun v5 h5 => ?_⟩
      subst h5
      refine ih y _ (sq_tr hs hsA) (fun p hp z hz => ?_) (fun p hp z hz => ?_) (fun p hp => ?_)
      · rw [gA_ng _ (by decide)]; exact hL p hp z hz
      · rw [gA_ng _ (by decide)]; exact hS p hp z hz
      · by_cases e : p = n
        · rw [e, gA_same]
        · rw [gA_nj _ e]; exact ht p (by omega)
  -- from the last part back
  have k51 : ∀ n, n ≤ dP d → ∀ σ', sq tg σ σ' → (∀ p, n ≤ p → p ≤ dP d → LF d k r p σ') → (∀ p, n ≤ p → p < dP d → SF d k r p σ') → Wk 51 [some (.inr (.inr (5, 0))), some (.inl (nI k)), some (.inl (nI r)), some (.inl (nI (3 ^ dT d))), some (.inl (nI n - 1)), none] [] σ' := by
    intro n
    induction n with
    | zero =>
      intro hn σ' hs hL hS
      apply e51
      exact br_t (by decide) (k93 0 (by omega) σ' hs (fun p hp => hL p (by omega) hp) (fun p hp => hS p (by omega) hp) (fun p hp => by omega))
    | succ n ih =>
      intro hn σ' hs hL hS
      apply e51
      unfold F_X5_triesBest_51
      rw [nI_pred n]
      refine br_f ?_ ?_
      · rw [show (0 : Int32) = nI 0 from rfl, nI_ltI (by omega) (by omega)]
        omega
      · have k59 : ∀ z, z ≤ 3 ^ dT d → ∀ σ', sq tg σ σ' → (∀ p, n + 1 ≤ p → p ≤ dP d → LF d k r p σ') → (∀ p, n + 1 ≤ p → p < dP d → SF d k r p σ') → (∀ y, y < z → sv_gA σ' 38 0 (243 * n + y) = nI (Vm d k r (dP d - n) (sIn y) (sDi y)) ∧ sv_gA σ' 39 0 (243 * n + y) = nI (Sm d k r (dP d - (n + 1)) (sIn y) (sDi y))) → Wk 59 [some (.inr (.inr (5, 0))), some (.inl (nI k)), some (.inl (nI r)), some (.inl (nI (3 ^ dT d))), some (.inl (nI n)), some (.inl (nI z))] [] σ' := by
          refine lpN (fun z hz ih2 σ' hs hL hS hy => ?_)
          apply e59
          unfold F_X5_triesBest_59
          rw [pk_m1' n, nI_1]
          refine pk_le (3 ^ dT d) z (fun w => ih (by omega) σ' hs (fun p hp1 hp2 => ?_) (fun p hp1 hp2 => ?_)) (fun w => ⟨d, n, z, k, r, ⟨RM_fr hR hs, ⟨by omega, rfl⟩, ⟨w, rfl⟩, ⟨hk, rfl⟩, ⟨hr, rfl⟩, hL (n + 1) (by omega) hn⟩, fun σ7 ⟨hs7, h1, h2, h3, h4⟩ => ?_⟩)
          · by_cases e : p = n
            · subst e
              exact fun y hyz => (hy y (by omega)).1
            · exact hL p (by omega) hp2
          · by_cases e : p = n
            · subst e
              exact fun y hyz => (hy y (by omega)).2
            · exact hS p (by omega) hp2
          · refine ih2 w σ7 (sq_tr hs (sq_mono hs7 (by decide))) (fun p hp1 hp2 => LF_upd (hL p hp1 hp2) hR.1 w (by omega) h1) (fun p hp1 hp2 => SF_upd (hS p hp1 hp2) hR.1 w (by omega) h2) (fun y hyz => ?_)
            by_cases e : y = z
            · rw [e]
              exact ⟨h3, h4⟩
            · rw [h1 _ (by omega), h2 _ (by omega)]
              exact hy y (by omega)
        exact k59 0 (Nat.zero_le _) σ' hs hL hS (fun y hy => by omega)
  -- behind the last part
  have k8 : ∀ z, z ≤ 3 ^ dT d → ∀ σ', sq tg σ σ' → (∀ y, y < z → sv_gA σ' 38 0 (243 * dP d + y) = nI (carry d (sDi y))) → Wk 8 [some (.inr (.inr (5, 0))), some (.inl (nI k)), some (.inl (nI r)), some (.inl (nI (3 ^ dT d))), some (.inl (nI z)), none] [] σ' := by
    refine lpN (fun z hz ih σ' hs hy => ?_)
    have hR' := RM_fr hR hs
    apply e8
    unfold F_X5_triesBest_8
    rw [hR'.2.2.1, ix243, nI_1, nI_clamp (by omega)]
    refine pk_le (3 ^ dT d) z (fun w => k51 (dP d) (Nat.le_refl _) σ' hs (fun p hp1 hp2 y hyz => ?_) (fun p hp1 hp2 => by omega)) (fun w => ⟨d, z, 0, ⟨hR', ⟨w, rfl⟩, Nat.two_pow_pos _, rfl⟩, fun v4 h4 => ⟨pk_in (243 * dP d + z) 2673 (by omega), ih w _ (sq_tr hs (sq_sA _ _ _ _ (by decide))) (fun y hyz => ?_)⟩⟩)
    · have e : p = dP d := by omega
      subst e
      rw [hy y (by omega), Nat.sub_self]
      rfl
    · by_cases e : y = z
      · rw [e, gA_same, h4, nd_0 _ (Nat.lt_of_lt_of_le (sIn_lt (dT d) (by omega) z w).2.1 h32)]
      · rw [gA_nj _ (by omega)]
        exact hy y (by omega)
  apply e0
  refine ⟨d, hR, fun v2 h2 => ?_⟩
  subst h2
  exact k8 0 (Nat.zero_le _) σ (sq_rf _ _) (fun y hy => by omega)
-- ==== X5_triesSame
def sp_X5_triesSame : sv_P := fun av σ K => match av with
  | [.inr (.inr (5, 0)), .inl set] => ∃ d : dD, (RM d σ) ∧ (∀ σ2 : sv_S, sq tg σ σ2 ∧ (∀ p, p < dP d → sv_gA σ2 37 0 p = set) → K none σ2)
  | _ => False
def tb_X5_triesSame : List (Nat × (Instr × Nat)) := [(0, (.iconst 0, 1)), (1, (.istore_n 2, 1)), (2, (.iload_n 2, 1)), (3, (.aload_n 0, 1)), (4, (.getfield 46, 3)), (7, (.if_icmp .ge 16, 3)), (10, (.aload_n 0, 1)), (11, (.getfield 28, 3)), (14, (.iload_n 2, 1)), (15, (.iload_n 1, 1)), (16, (.iastore, 1)), (17, (.iinc 2 1, 3)), (20, (.goto (-18), 3)), (23, (.return_, 1))]
set_option maxRecDepth 100000 in
theorem tbk_X5_triesSame : sv_tbok cX5_triesSame tb_X5_triesSame = true := by decide +kernel
def cal_X5_triesSame : List (Nat × (Nat × Nat × sv_P)) := []
def T_X5_triesSame : sv_T := (flX5, sfX5, kcX5, klX5, cal_X5_triesSame)
set_option maxRecDepth 100000 in
theorem Tok_X5_triesSame (l : Launch) : sv_Tok l RX5 sv_all 0 0 T_X5_triesSame := ⟨flokX5, sfokX5, kcokX5, klokX5, fun _ h => absurd h List.not_mem_nil⟩
theorem kw_X5_triesSame : Cond.instanceMethod yX5_triesSame ∈ sv_tb ∧ Cond.selects yX5_triesSame.cls yX5_triesSame yX5_triesSame ∈ sv_tb ∧ Cond.initialized yX5_triesSame.cls ∈ sv_tb ∧ Cond.code yX5_triesSame cX5_triesSame 3 none ∈ sv_tb := ⟨sv_mem 738 (by decide +kernel) rfl, sv_mem 31 (by decide +kernel) rfl, sv_mem 56 (by decide +kernel) rfl, sv_mem 739 (by decide +kernel) rfl⟩
theorem kd_X5_triesSame : yX5_triesSame.cls ≠ "java/lang/invoke/MethodHandle" ∧ yX5_triesSame.cls ≠ "java/lang/invoke/VarHandle" ∧ (parseMethodDescriptor yX5_triesSame.desc).map (fun d => d.parameters.length) = some 1 := by decide +kernel
def F_X5_triesSame_0 (Wk : sv_K) (Kr : Option sv_AV → sv_S → Prop) (set : Int32) (σ : sv_S) : Prop := Wk 2 [some (.inr (.inr (5, 0))), some (.inl set), some (.inl (0 : Int32))] [] σ
set_option maxRecDepth 100000 in
theorem bk_X5_triesSame_0 (Wk : sv_K) (Kr : Option sv_AV → sv_S → Prop) (set : Int32) (σ : sv_S) (h : F_X5_triesSame_0 Wk Kr set σ) : sv_vc tb_X5_triesSame T_X5_triesSame sv_all none Kr [(2, [true, true, true])] Wk 500 0 [some (.inr (.inr (5, 0))), some (.inl set), none] [] σ := h
def F_X5_triesSame_2 (Wk : sv_K) (Kr : Option sv_AV → sv_S → Prop) (x1 : Int32) (x2 : Int32) (σ : sv_S) : Prop := (((sv_gA σ 5 0 0) ≤ x2 → Kr none σ) ∧ (¬ (sv_gA σ 5 0 0) ≤ x2 → (vp_in x2 10 ∧ Wk 2 [some (.inr (.inr (5, 0))), some (.inl x1), some (.inl (x2 + (1 : Int32)))] [] (sv_sA σ 37 0 x2.toNatClampNeg x1))))
set_option maxRecDepth 100000 in
theorem bk_X5_triesSame_2 (Wk : sv_K) (Kr : Option sv_AV → sv_S → Prop) (x1 : Int32) (x2 : Int32) (σ : sv_S) (h : F_X5_triesSame_2 Wk Kr x1 x2 σ) : sv_vc tb_X5_triesSame T_X5_triesSame sv_all none Kr [(2, [true, true, true])] Wk 500 2 [some (.inr (.inr (5, 0))), some (.inl x1), some (.inl x2)] [] σ := ⟨fun z1 => ⟨rfl, ((h).1 z1)⟩, fun z1 => ((h).2 z1)⟩
set_option maxRecDepth 100000 in
theorem m_X5_triesSame (l : Launch) (hb : ∀ (Wk : sv_K) (Kr : Option sv_AV → sv_S → Prop), (∀ (set : Int32) (σ : sv_S), F_X5_triesSame_0 Wk Kr set σ → Wk 0 [some (.inr (.inr (5, 0))), some (.inl set), none] [] σ) → (∀ (x1 : Int32) (x2 : Int32) (σ : sv_S), F_X5_triesSame_2 Wk Kr x1 x2 σ → Wk 2 [some (.inr (.inr (5, 0))), some (.inl x1), some (.inl x2)] [] σ) → (∀ (set : Int32) (σ : sv_S), (∃ d : dD, (RM d σ) ∧ (∀ σ2 : sv_S, sq tg σ σ2 ∧ (∀ p, p < dP d → sv_gA σ2 37 0 p = set) → Kr none σ2)) → Wk 0 [some (.inr (.inr (5, 0))), some (.inl set), none] [] σ)) : sv_C l yX5_triesSame cX5_triesSame 3 none sv_all 0 0 sp_X5_triesSame := by
  refine sv_meth sv_clok_all tb_X5_triesSame T_X5_triesSame (by decide) tbk_X5_triesSame (Tok_X5_triesSame l) ?_
  intro Wk Kr hc av σ hsp
  have hB := hb Wk Kr (fun set σ h => hc [(2, [true, true, true])] 500 0 _ _ _ (bk_X5_triesSame_0 Wk Kr set σ h)) (fun x1 x2 σ h => hc [(2, [true, true, true])] 500 2 _ _ _ (bk_X5_triesSame_2 Wk Kr x1 x2 σ h))
  unfold sp_X5_triesSame at hsp
  split at hsp
  · exact ⟨⟨by simp, by simp [sv_cat]⟩, hB _ _ hsp⟩
  · exact hsp.elim
set_option maxHeartbeats 4000000 in
set_option maxRecDepth 100000 in
theorem c_X5_triesSame (l : Launch) : sv_C l yX5_triesSame cX5_triesSame 3 none sv_all 0 0 sp_X5_triesSame := by
  refine m_X5_triesSame l ?_
  intro Wk Kr e0 e2 set σ ⟨d, hR, h⟩
  have hP := hR.1.1
  suffices key : ∀ n, n ≤ dP d → ∀ σ', sq tg σ σ' → (∀ p, p < n → sv_gA σ' 37 0 p = set) → Wk 2 [some (.inr (.inr (5, 0))), some (.inl set), some (.inl (nI n))] [] σ' from e0 _ _ (key 0 (by omega) σ (sq_rf _ _) (fun p hp => by omega))
  refine lpN (fun n hn ih σ' hs ht => ?_)
  have hR' := RM_fr hR hs
  apply e2
  unfold F_X5_triesSame_2
  rw [hR'.2.2.1, nI_1, nI_clamp (by omega)]
  refine pk_le (dP d) n (fun y => h _ ⟨hs, fun p hp => ht p (by omega)⟩) (fun y => ⟨pk_in n 10 (by omega), ih y _ (sq_tr hs (sq_sA _ _ _ _ (by decide))) (fun p hp => ?_)⟩)
  by_cases e : p = n
  · rw [e, gA_same]
  · rw [gA_nj _ e]
    exact ht p (by omega)
-- ==== X5_triesStill
def sp_X5_triesStill : sv_P := fun av σ K => match av with
  | [.inr (.inr (5, 0)), .inl kind, .inl room] => ∃ d : dD, ∃ k : Nat, ∃ r : Nat, (RM d σ ∧ (k < 2 ∧ kind = nI k) ∧ (r ≤ 60 ∧ room = nI r)) ∧ (∀ v : Int32, ∀ σ2 : sv_S, v = nI (stlC d k (stlS d k r)) ∧ sq tg σ σ2 ∧ (∀ p, p < dP d → sv_gA σ2 37 0 p = nI (stlS d k r)) → K (some (.inl v)) σ2)
  | _ => False
def tb_X5_triesStill : List (Nat × (Instr × Nat)) := [(0, (.ldc 102, 2)), (2, (.istore_n 3, 1)), (3, (.iconst 0, 1)), (4, (.istore 4, 2)), (6, (.iconst 0, 1)), (7, (.istore 5, 2)), (9, (.iload 5, 2)), (11, (.iconst 1, 1)), (12, (.aload_n 0, 1)), (13, (.getfield 54, 3)), (16, (.ishl, 1)), (17, (.if_icmp .ge 44, 3)), (20, (.aload_n 0, 1)), (21, (.iload 5, 2)), (23, (.invokevirtual 114, 3)), (26, (.aload_n 0, 1)), (27, (.iload 5, 2)), (29, (.invokevirtual 103, 3)), (32, (.iload_n 2, 1)), (33, (.if_icmp .gt 22, 3)), (36, (.aload_n 0, 1)), (37, (.iload_n 1, 1)), (38, (.invokevirtual 118, 3)), (41, (.iload_n 3, 1)), (42, (.if_icmp .ge 13, 3)), (45, (.aload_n 0, 1)), (46, (.iload_n 1, 1)), (47, (.invokevirtual 118, 3)), (50, (.istore_n 3, 1)), (51, (.iload 5, 2)), (53, (.istore 4, 2)), (55, (.iinc 5 1, 3)), (58, (.goto (-49), 3)), (61, (.aload_n 0, 1)), (62, (.iload 4, 2)), (64, (.invokevirtual 114, 3)), (67, (.iload_n 3, 1)), (68, (.ireturn, 1))]
set_option maxRecDepth 100000 in
theorem tbk_X5_triesStill : sv_tbok cX5_triesStill tb_X5_triesStill = true := by decide +kernel
def cal_X5_triesStill : List (Nat × (Nat × Nat × sv_P)) := [(114, (2, 5, sp_X5_triesSame)), (103, (2, 5, sp_X5_cellsOf)), (118, (2, 5, sp_X5_costOf))]
def T_X5_triesStill : sv_T := (flX5, sfX5, kcX5, klX5, cal_X5_triesStill)
set_option maxRecDepth 100000 in
theorem Tok_X5_triesStill (l : Launch) : sv_Tok l RX5 sv_all 3 73 T_X5_triesStill := ⟨flokX5, sfokX5, kcokX5, klokX5, List.forall_mem_cons.mpr ⟨⟨fun _ => sv_COv_of (c_X5_triesSame l) sv_clok_all (sv_mem 736 (by decide +kernel) rfl) kw_X5_triesSame.1 kw_X5_triesSame.2.1 kw_X5_triesSame.2.2.1 kw_X5_triesSame.2.2.2 kd_X5_triesSame rfl (by decide) (by decide +kernel) rfl (by decide), fun h => absurd h (by decide)⟩, List.forall_mem_cons.mpr ⟨⟨fun _ => sv_COv_of (c_X5_cellsOf l) sv_clok_all (sv_mem 716 (by decide +kernel) rfl) kw_X5_cellsOf.1 kw_X5_cellsOf.2.1 kw_X5_cellsOf.2.2.1 kw_X5_cellsOf.2.2.2 kd_X5_cellsOf rfl (by decide) (by decide +kernel) rfl (by decide), fun h => absurd h (by decide)⟩, List.forall_mem_cons.mpr ⟨⟨fun _ => sv_COv_of (c_X5_costOf l) sv_clok_all (sv_mem 740 (by decide +kernel) rfl) kw_X5_costOf.1 kw_X5_costOf.2.1 kw_X5_costOf.2.2.1 kw_X5_costOf.2.2.2 kd_X5_costOf rfl (by decide) (by decide +kernel) rfl (by decide), fun h => absurd h (by decide)⟩, fun _ h => absurd h List.not_mem_nil⟩⟩⟩⟩
theorem kw_X5_triesStill : Cond.instanceMethod yX5_triesStill ∈ sv_tb ∧ Cond.selects yX5_triesStill.cls yX5_triesStill yX5_triesStill ∈ sv_tb ∧ Cond.initialized yX5_triesStill.cls ∈ sv_tb ∧ Cond.code yX5_triesStill cX5_triesStill 6 (some .int) ∈ sv_tb := ⟨sv_mem 734 (by decide +kernel) rfl, sv_mem 30 (by decide +kernel) rfl, sv_mem 56 (by decide +kernel) rfl, sv_mem 735 (by decide +kernel) rfl⟩
theorem kd_X5_triesStill : yX5_triesStill.cls ≠ "java/lang/invoke/MethodHandle" ∧ yX5_triesStill.cls ≠ "java/lang/invoke/VarHandle" ∧ (parseMethodDescriptor yX5_triesStill.desc).map (fun d => d.parameters.length) = some 2 := by decide +kernel
def F_X5_triesStill_0 (Wk : sv_K) (Kr : Option sv_AV → sv_S → Prop) (kind : Int32) (room : Int32) (σ : sv_S) : Prop := Wk 9 [some (.inr (.inr (5, 0))), some (.inl kind), some (.inl room), some (.inl (1000000000 : Int32)), some (.inl (0 : Int32)), some (.inl (0 : Int32))] [] σ
set_option maxRecDepth 100000 in
theorem bk_X5_triesStill_0 (Wk : sv_K) (Kr : Option sv_AV → sv_S → Prop) (kind : Int32) (room : Int32) (σ : sv_S) (h : F_X5_triesStill_0 Wk Kr kind room σ) : sv_vc tb_X5_triesStill T_X5_triesStill sv_all (some .int) Kr [(9, [true, true, true, true, true, true])] Wk 500 0 [some (.inr (.inr (5, 0))), some (.inl kind), some (.inl room), none, none, none] [] σ := h
def F_X5_triesStill_9 (Wk : sv_K) (Kr : Option sv_AV → sv_S → Prop) (x1 : Int32) (x2 : Int32) (x3 : Int32) (x4 : Int32) (x5 : Int32) (σ : sv_S) : Prop := ((((1 : Int32) <<< ((sv_gA σ 5 0 1) &&& 31)) ≤ x5 → (∃ d1 : dD, (RM d1 σ) ∧ (∀ σ3 : sv_S, sq tg σ σ3 ∧ (∀ p, p < dP d1 → sv_gA σ3 37 0 p = x4) → Kr (some (.inl x3)) σ3))) ∧ (¬ ((1 : Int32) <<< ((sv_gA σ 5 0 1) &&& 31)) ≤ x5 → (∃ d4 : dD, (RM d4 σ) ∧ (∀ σ6 : sv_S, sq tg σ σ6 ∧ (∀ p, p < dP d4 → sv_gA σ6 37 0 p = x5) → (∃ d7 : dD, ∃ c8 : Nat, (RM d7 σ6 ∧ (c8 < 32 ∧ x5 = nI c8)) ∧ (∀ v9 : Int32, v9 = nI (cells d7 c8) → ((x2 < v9 → Wk 9 [some (.inr (.inr (5, 0))), some (.inl x1), some (.inl x2), some (.inl x3), some (.inl x4), some (.inl (x5 + (1 : Int32)))] [] σ6) ∧ (¬ x2 < v9 → (∃ d10 : dD, ∃ k11 : Nat, ∃ f12 : Nat → Nat, (RM d10 σ6 ∧ (k11 < 2 ∧ x1 = nI k11) ∧ (∀ p, p < dP d10 → f12 p < 2 ^ dT d10 ∧ sv_gA σ6 37 0 p = nI (f12 p))) ∧ (∀ v13 : Int32, v13 = nI (costL d10 f12 k11) → ((x3 ≤ v13 → Wk 9 [some (.inr (.inr (5, 0))), some (.inl x1), some (.inl x2), some (.inl x3), some (.inl x4), some (.inl (x5 + (1 : Int32)))] [] σ6) ∧ (¬ x3 ≤ v13 → (∃ d14 : dD, ∃ k15 : Nat, ∃ f16 : Nat → Nat, (RM d14 σ6 ∧ (k15 < 2 ∧ x1 = nI k15) ∧ (∀ p, p < dP d14 → f16 p < 2 ^ dT d14 ∧ sv_gA σ6 37 0 p = nI (f16 p))) ∧ (∀ v17 : Int32, v17 = nI (costL d14 f16 k15) → Wk 9 [some (.inr (.inr (5, 0))), some (.inl x1), some (.inl x2), some (.inl v17), some (.inl x5), some (.inl (x5 + (1 : Int32)))] [] σ6))))))))))))))
set_option maxRecDepth 100000 in
theorem bk_X5_triesStill_9 (Wk : sv_K) (Kr : Option sv_AV → sv_S → Prop) (x1 : Int32) (x2 : Int32) (x3 : Int32) (x4 : Int32) (x5 : Int32) (σ : sv_S) (h : F_X5_triesStill_9 Wk Kr x1 x2 x3 x4 x5 σ) : sv_vc tb_X5_triesStill T_X5_triesStill sv_all (some .int) Kr [(9, [true, true, true, true, true, true])] Wk 500 9 [some (.inr (.inr (5, 0))), some (.inl x1), some (.inl x2), some (.inl x3), some (.inl x4), some (.inl x5)] [] σ := h
set_option maxRecDepth 100000 in
theorem m_X5_triesStill (l : Launch) (hb : ∀ (Wk : sv_K) (Kr : Option sv_AV → sv_S → Prop), (∀ (kind : Int32) (room : Int32) (σ : sv_S), F_X5_triesStill_0 Wk Kr kind room σ → Wk 0 [some (.inr (.inr (5, 0))), some (.inl kind), some (.inl room), none, none, none] [] σ) → (∀ (x1 : Int32) (x2 : Int32) (x3 : Int32) (x4 : Int32) (x5 : Int32) (σ : sv_S), F_X5_triesStill_9 Wk Kr x1 x2 x3 x4 x5 σ → Wk 9 [some (.inr (.inr (5, 0))), some (.inl x1), some (.inl x2), some (.inl x3), some (.inl x4), some (.inl x5)] [] σ) → (∀ (kind : Int32) (room : Int32) (σ : sv_S), (∃ d : dD, ∃ k : Nat, ∃ r : Nat, (RM d σ ∧ (k < 2 ∧ kind = nI k) ∧ (r ≤ 60 ∧ room = nI r)) ∧ (∀ v : Int32, ∀ σ2 : sv_S, v = nI (stlC d k (stlS d k r)) ∧ sq tg σ σ2 ∧ (∀ p, p < dP d → sv_gA σ2 37 0 p = nI (stlS d k r)) → Kr (some (.inl v)) σ2)) → Wk 0 [some (.inr (.inr (5, 0))), some (.inl kind), some (.inl room), none, none, none] [] σ)) : sv_C l yX5_triesStill cX5_triesStill 6 (some .int) sv_all 3 73 sp_X5_triesStill := by
  refine sv_meth sv_clok_all tb_X5_triesStill T_X5_triesStill (by decide) tbk_X5_triesStill (Tok_X5_triesStill l) ?_
  intro Wk Kr hc av σ hsp
  have hB := hb Wk Kr (fun kind room σ h => hc [(9, [true, true, true, true, true, true])] 500 0 _ _ _ (bk_X5_triesStill_0 Wk Kr kind room σ h)) (fun x1 x2 x3 x4 x5 σ h => hc [(9, [true, true, true, true, true, true])] 500 9 _ _ _ (bk_X5_triesStill_9 Wk Kr x1 x2 x3 x4 x5 σ h))
  unfold sp_X5_triesStill at hsp
  split at hsp
  · exact ⟨⟨by simp, by simp [sv_cat]⟩, hB _ _ _ hsp⟩
  · exact hsp.elim
set_option maxHeartbeats 4000000 in
set_option maxRecDepth 100000 in
theorem c_X5_triesStill (l : Launch) : sv_C l yX5_triesStill cX5_triesStill 6 (some .int) sv_all 3 73 sp_X5_triesStill := by
  refine m_X5_triesStill l ?_
  intro Wk Kr e0 e9 kind room σ ⟨d, k, r, ⟨hR, ⟨hk, hkd⟩, hr, hrm⟩, h⟩
  subst hkd
  subst hrm
  have hT := hR.1.2.1
  have hP := hR.1.1
  have h32 := two_pow_le hR.1
  have hbv : bestv (stlC d k) (okr d r) (2 ^ dT d) < 1000000000 := by
    have h1 := bestv_le (f := stlC d k) (n := 2 ^ dT d) (i := 0) (Nat.two_pow_pos _) (okr_0 d r)
    have h2 := stlC_lt hR.1 hk 0
    omega
  have hbi := besti_at hbv
  suffices key : ∀ n, n ≤ 2 ^ dT d → ∀ σ', sq tg σ σ' → Wk 9 [some (.inr (.inr (5, 0))), some (.inl (nI k)), some (.inl (nI r)), some (.inl (nI (bestv (stlC d k) (okr d r) n))), some (.inl (nI (besti (stlC d k) (okr d r) n))), some (.inl (nI n))] [] σ' from e0 _ _ _ (key 0 (by omega) σ (sq_rf _ _))
  refine lpN (fun n hn ih σ' hs => ?_)
  have hR' := RM_fr hR hs
  apply e9
  unfold F_X5_triesStill_9
  rw [hR'.2.2.2.1, sh_pow hT, nI_1]
  have hbf := bestv_far (stlC d k) (okr d r) n
  refine pk_le (2 ^ dT d) n (fun y => ⟨d, hR', fun σ3 ⟨hs3, h3⟩ => h _ _ ⟨?_, sq_tr hs hs3, fun p hp => ?_⟩⟩) (fun y => ⟨d, hR', fun σ6 ⟨hs6, h6⟩ => ?_⟩)
  · rw [show n = 2 ^ dT d by omega, ← hbi.2.2.1]
    rfl
  · rw [h3 p hp, show n = 2 ^ dT d by omega]
    rfl
  · have hs' := sq_tr hs hs6
    have hR6 := RM_fr hR hs'
    have hcl := cells_le hR.1 n
    have ih := ih y σ6 hs'
    have skip : ¬ (okr d r n = true ∧ stlC d k n < bestv (stlC d k) (okr d r) n) → Wk 9 [some (.inr (.inr (5, 0))), some (.inl (nI k)), some (.inl (nI r)), some (.inl (nI (bestv (stlC d k) (okr d r) n))), some (.inl (nI (besti (stlC d k) (okr d r) n))), some (.inl (nI (n + 1)))] [] σ6 := by
      intro hno
      unfold bestv besti at ih
      rw [if_neg hno, if_neg hno] at ih
      exact ih
    have hsl := stlC_lt hR.1 hk n
    refine ⟨d, n, ⟨hR6, by omega, rfl⟩, fun v9 h9 => ?_⟩
    subst h9
    refine pk_lt r (cells d n) (fun x => skip (fun w => ?_)) (fun x => ⟨d, k, fun _ => n, ⟨hR6, ⟨hk, rfl⟩, fun p hp => ⟨y, h6 p hp⟩⟩, fun v13 h13 => ?_⟩)
    · have := of_decide_eq_true w.1
      omega
    · have hok : okr d r n = true := decide_eq_true x
      rw [h13, costL_still hR.1 k (by omega)]
      refine pk_le (bestv (stlC d k) (okr d r) n) (stlC d k n) (fun w => skip (fun v => by omega)) (fun w => ⟨d, k, fun _ => n, ⟨hR6, ⟨hk, rfl⟩, fun p hp => ⟨y, h6 p hp⟩⟩, fun v17 h17 => ?_⟩)
      rw [h17, costL_still hR.1 k (by omega)]
      unfold bestv besti at ih
      rw [if_pos ⟨hok, w⟩, if_pos ⟨hok, w⟩] at ih
      exact ih
-- ==== X5_tries
def sp_X5_tries : sv_P := fun av σ K => match av with
  | [.inr (.inr (5, 0)), .inl how, .inl kind, .inl room] => ∃ d : dD, ∃ k : Nat, ∃ r : Nat, (RM d σ ∧ (k < 2 ∧ kind = nI k) ∧ (r ≤ 60 ∧ room = nI r)) ∧ (∀ v : Int32, ∀ σ2 : sv_S, sq tg σ σ2 ∧ (how = 0 → v = nI (bst d k r) ∧ (∀ p, p < dP d → sv_gA σ2 37 0 p = nI (bsp d k r p))) ∧ (¬ how = 0 → v = nI (stlC d k (stlS d k r)) ∧ (∀ p, p < dP d → sv_gA σ2 37 0 p = nI (stlS d k r))) → K (some (.inl v)) σ2)
  | _ => False
def tb_X5_tries : List (Nat × (Instr × Nat)) := [(0, (.iload_n 1, 1)), (1, (.ifCond .ne 12, 3)), (4, (.aload_n 0, 1)), (5, (.iload_n 2, 1)), (6, (.iload_n 3, 1)), (7, (.invokevirtual 121, 3)), (10, (.goto 9, 3)), (13, (.aload_n 0, 1)), (14, (.iload_n 2, 1)), (15, (.iload_n 3, 1)), (16, (.invokevirtual 124, 3)), (19, (.ireturn, 1))]
set_option maxRecDepth 100000 in
theorem tbk_X5_tries : sv_tbok cX5_tries tb_X5_tries = true := by decide +kernel
def cal_X5_tries : List (Nat × (Nat × Nat × sv_P)) := [(121, (3, 5, sp_X5_triesBest)), (124, (3, 5, sp_X5_triesStill))]
def T_X5_tries : sv_T := (flX5, sfX5, kcX5, klX5, cal_X5_tries)
set_option maxRecDepth 100000 in
theorem Tok_X5_tries (l : Launch) : sv_Tok l RX5 sv_all 4 101 T_X5_tries := ⟨flokX5, sfokX5, kcokX5, klokX5, List.forall_mem_cons.mpr ⟨⟨fun _ => sv_COv_of (c_X5_triesBest l) sv_clok_all (sv_mem 689 (by decide +kernel) rfl) kw_X5_triesBest.1 kw_X5_triesBest.2.1 kw_X5_triesBest.2.2.1 kw_X5_triesBest.2.2.2 kd_X5_triesBest rfl (by decide) (by decide +kernel) rfl (by decide), fun h => absurd h (by decide)⟩, List.forall_mem_cons.mpr ⟨⟨fun _ => sv_COv_of (c_X5_triesStill l) sv_clok_all (sv_mem 732 (by decide +kernel) rfl) kw_X5_triesStill.1 kw_X5_triesStill.2.1 kw_X5_triesStill.2.2.1 kw_X5_triesStill.2.2.2 kd_X5_triesStill rfl (by decide) (by decide +kernel) rfl (by decide), fun h => absurd h (by decide)⟩, fun _ h => absurd h List.not_mem_nil⟩⟩⟩
theorem kw_X5_tries : Cond.instanceMethod yX5_tries ∈ sv_tb ∧ Cond.selects yX5_tries.cls yX5_tries yX5_tries ∈ sv_tb ∧ Cond.initialized yX5_tries.cls ∈ sv_tb ∧ Cond.code yX5_tries cX5_tries 4 (some .int) ∈ sv_tb := ⟨sv_mem 687 (by decide +kernel) rfl, sv_mem 20 (by decide +kernel) rfl, sv_mem 56 (by decide +kernel) rfl, sv_mem 688 (by decide +kernel) rfl⟩
theorem kd_X5_tries : yX5_tries.cls ≠ "java/lang/invoke/MethodHandle" ∧ yX5_tries.cls ≠ "java/lang/invoke/VarHandle" ∧ (parseMethodDescriptor yX5_tries.desc).map (fun d => d.parameters.length) = some 3 := by decide +kernel
def F_X5_tries_0 (Wk : sv_K) (Kr : Option sv_AV → sv_S → Prop) (how : Int32) (kind : Int32) (room : Int32) (σ : sv_S) : Prop := ((¬ how = (0 : Int32) → (∃ d1 : dD, ∃ k2 : Nat, ∃ r3 : Nat, (RM d1 σ ∧ (k2 < 2 ∧ kind = nI k2) ∧ (r3 ≤ 60 ∧ room = nI r3)) ∧ (∀ v4 : Int32, ∀ σ5 : sv_S, v4 = nI (stlC d1 k2 (stlS d1 k2 r3)) ∧ sq tg σ σ5 ∧ (∀ p, p < dP d1 → sv_gA σ5 37 0 p = nI (stlS d1 k2 r3)) → Kr (some (.inl v4)) σ5))) ∧ (how = (0 : Int32) → (∃ d6 : dD, ∃ k7 : Nat, ∃ r8 : Nat, (RM d6 σ ∧ (k7 < 2 ∧ kind = nI k7) ∧ (r8 ≤ 60 ∧ room = nI r8)) ∧ (∀ v9 : Int32, ∀ σ10 : sv_S, v9 = nI (bst d6 k7 r8) ∧ sq tg σ σ10 ∧ (∀ p, p < dP d6 → sv_gA σ10 37 0 p = nI (bsp d6 k7 r8 p)) → Kr (some (.inl v9)) σ10))))
set_option maxRecDepth 100000 in
theorem bk_X5_tries_0 (Wk : sv_K) (Kr : Option sv_AV → sv_S → Prop) (how : Int32) (kind : Int32) (room : Int32) (σ : sv_S) (h : F_X5_tries_0 Wk Kr how kind room σ) : sv_vc tb_X5_tries T_X5_tries sv_all (some .int) Kr [] Wk 500 0 [some (.inr (.inr (5, 0))), some (.inl how), some (.inl kind), some (.inl room)] [] σ := h
set_option maxRecDepth 100000 in
theorem m_X5_tries (l : Launch) (hb : ∀ (Wk : sv_K) (Kr : Option sv_AV → sv_S → Prop), (∀ (how : Int32) (kind : Int32) (room : Int32) (σ : sv_S), F_X5_tries_0 Wk Kr how kind room σ → Wk 0 [some (.inr (.inr (5, 0))), some (.inl how), some (.inl kind), some (.inl room)] [] σ) → (∀ (how : Int32) (kind : Int32) (room : Int32) (σ : sv_S), (∃ d : dD, ∃ k : Nat, ∃ r : Nat, (RM d σ ∧ (k < 2 ∧ kind = nI k) ∧ (r ≤ 60 ∧ room = nI r)) ∧ (∀ v : Int32, ∀ σ2 : sv_S, sq tg σ σ2 ∧ (how = 0 → v = nI (bst d k r) ∧ (∀ p, p < dP d → sv_gA σ2 37 0 p = nI (bsp d k r p))) ∧ (¬ how = 0 → v = nI (stlC d k (stlS d k r)) ∧ (∀ p, p < dP d → sv_gA σ2 37 0 p = nI (stlS d k r))) → Kr (some (.inl v)) σ2)) → Wk 0 [some (.inr (.inr (5, 0))), some (.inl how), some (.inl kind), some (.inl room)] [] σ)) : sv_C l yX5_tries cX5_tries 4 (some .int) sv_all 4 101 sp_X5_tries := by
  refine sv_meth sv_clok_all tb_X5_tries T_X5_tries (by decide) tbk_X5_tries (Tok_X5_tries l) ?_
  intro Wk Kr hc av σ hsp
  have hB := hb Wk Kr (fun how kind room σ h => hc [] 500 0 _ _ _ (bk_X5_tries_0 Wk Kr how kind room σ h))
  unfold sp_X5_tries at hsp
  split at hsp
  · exact ⟨⟨by simp, by simp [sv_cat]⟩, hB _ _ _ _ hsp⟩
  · exact hsp.elim
set_option maxHeartbeats 4000000 in
set_option maxRecDepth 100000 in
theorem c_X5_tries (l : Launch) : sv_C l yX5_tries cX5_tries 4 (some .int) sv_all 4 101 sp_X5_tries := by
  refine m_X5_tries l ?_
  intro Wk Kr e0 how kind room σ ⟨d, k, r, ⟨hR, hk, hr⟩, h⟩
  apply e0
  refine ⟨fun y => ⟨d, k, r, ⟨hR, hk, hr⟩, fun v4 σ5 ⟨h4, hs, ht⟩ => h _ _ ⟨hs, fun z => absurd z y, fun _ => ⟨h4, ht⟩⟩⟩, fun y => ⟨d, k, r, ⟨hR, hk, hr⟩, fun v4 σ5 ⟨h4, hs, ht⟩ => h _ _ ⟨hs, fun _ => ⟨h4, ht⟩, fun z => absurd y z⟩⟩⟩
-- ==== X5_take
def sp_X5_take : sv_P := fun av σ K => match av with
  | [.inr (.inr (5, 0)), .inl how, .inl kind] => ∃ d : dD, (RM d σ ∧ MI d σ) ∧ (∀ v : Int32, ∀ σ2 : sv_S, v = A_take d how kind ∧ (RM (U_take d how kind) σ2 ∧ MI (U_take d how kind) σ2) ∧ sq mg σ σ2 → K (some (.inl v)) σ2)
  | _ => False
def tb_X5_take : List (Nat × (Instr × Nat)) := [(0, (.iload_n 1, 1)), (1, (.iconst 0, 1)), (2, (.iconst 1, 1)), (3, (.invokestatic 50, 3)), (6, (.ifCond .eq 10, 3)), (9, (.iload_n 2, 1)), (10, (.invokestatic 127, 3)), (13, (.ifCond .ne 6, 3)), (16, (.bipush (-2), 2)), (18, (.ireturn, 1)), (19, (.aload_n 0, 1)), (20, (.getfield 46, 3)), (23, (.ifCond .ne 6, 3)), (26, (.bipush (-3), 2)), (28, (.ireturn, 1)), (29, (.aload_n 0, 1)), (30, (.iload_n 1, 1)), (31, (.iload_n 2, 1)), (32, (.aload_n 0, 1)), (33, (.getfield 22, 3)), (36, (.iconst 0, 1)), (37, (.iaload, 1)), (38, (.invokevirtual 130, 3)), (41, (.istore_n 3, 1)), (42, (.iconst 0, 1)), (43, (.istore 4, 2)), (45, (.iload 4, 2)), (47, (.aload_n 0, 1)), (48, (.getfield 46, 3)), (51, (.if_icmp .ge 23, 3)), (54, (.aload_n 0, 1)), (55, (.getfield 25, 3)), (58, (.iload 4, 2)), (60, (.aload_n 0, 1)), (61, (.getfield 28, 3)), (64, (.iload 4, 2)), (66, (.iaload, 1)), (67, (.iastore, 1)), (68, (.iinc 4 1, 3)), (71, (.goto (-26), 3)), (74, (.iload_n 3, 1)), (75, (.ireturn, 1))]
set_option maxRecDepth 100000 in
theorem tbk_X5_take : sv_tbok cX5_take tb_X5_take = true := by decide +kernel
def cal_X5_take : List (Nat × (Nat × Nat × sv_P)) := [(50, (3, 90, sp_X5_within)), (127, (1, 90, sp_X5_isKind)), (130, (4, 5, sp_X5_tries))]
def T_X5_take : sv_T := (flX5, sfX5, kcX5, klX5, cal_X5_take)
set_option maxRecDepth 100000 in
theorem Tok_X5_take (l : Launch) : sv_Tok l RX5 sv_all 5 124 T_X5_take := ⟨flokX5, sfokX5, kcokX5, klokX5, List.forall_mem_cons.mpr ⟨⟨fun h => absurd h (by decide), fun _ => sv_COs_gen (c_X5_within l) (Or.inl (sv_mem 623 (by decide +kernel) rfl)) kw_X5_within.1 kw_X5_within.2.1 kw_X5_within.2.2 kd_X5_within rfl (by decide) (by decide +kernel)⟩, List.forall_mem_cons.mpr ⟨⟨fun h => absurd h (by decide), fun _ => sv_COs_gen (c_X5_isKind l) (Or.inl (sv_mem 682 (by decide +kernel) rfl)) kw_X5_isKind.1 kw_X5_isKind.2.1 kw_X5_isKind.2.2 kd_X5_isKind rfl (by decide) (by decide +kernel)⟩, List.forall_mem_cons.mpr ⟨⟨fun _ => sv_COv_of (c_X5_tries l) sv_clok_all (sv_mem 685 (by decide +kernel) rfl) kw_X5_tries.1 kw_X5_tries.2.1 kw_X5_tries.2.2.1 kw_X5_tries.2.2.2 kd_X5_tries rfl (by decide) (by decide +kernel) rfl (by decide), fun h => absurd h (by decide)⟩, fun _ h => absurd h List.not_mem_nil⟩⟩⟩⟩
theorem kw_X5_take : Cond.instanceMethod yX5_take ∈ sv_tb ∧ Cond.selects yX5_take.cls yX5_take yX5_take ∈ sv_tb ∧ Cond.initialized yX5_take.cls ∈ sv_tb ∧ Cond.code yX5_take cX5_take 5 (some .int) ∈ sv_tb := ⟨sv_mem 679 (by decide +kernel) rfl, sv_mem 680 (by decide +kernel) rfl, sv_mem 56 (by decide +kernel) rfl, sv_mem 681 (by decide +kernel) rfl⟩
theorem kd_X5_take : yX5_take.cls ≠ "java/lang/invoke/MethodHandle" ∧ yX5_take.cls ≠ "java/lang/invoke/VarHandle" ∧ (parseMethodDescriptor yX5_take.desc).map (fun d => d.parameters.length) = some 2 := by decide +kernel
def F_X5_take_0 (Wk : sv_K) (Kr : Option sv_AV → sv_S → Prop) (how : Int32) (kind : Int32) (σ : sv_S) : Prop := ((((0 : Int32) ≤ how ∧ how ≤ (1 : Int32) → (((ok2 kind → ((¬ (sv_gA σ 5 0 0) = (0 : Int32) → (∃ d1 : dD, ∃ k2 : Nat, ∃ r3 : Nat, (RM d1 σ ∧ (k2 < 2 ∧ kind = nI k2) ∧ (r3 ≤ 60 ∧ (sv_gA σ 35 0 0) = nI r3)) ∧ (∀ v4 : Int32, ∀ σ5 : sv_S, sq tg σ σ5 ∧ (how = 0 → v4 = nI (bst d1 k2 r3) ∧ (∀ p, p < dP d1 → sv_gA σ5 37 0 p = nI (bsp d1 k2 r3 p))) ∧ (¬ how = 0 → v4 = nI (stlC d1 k2 (stlS d1 k2 r3)) ∧ (∀ p, p < dP d1 → sv_gA σ5 37 0 p = nI (stlS d1 k2 r3))) → Wk 45 [some (.inr (.inr (5, 0))), none, none, some (.inl v4), some (.inl (0 : Int32))] [] σ5))) ∧ ((sv_gA σ 5 0 0) = (0 : Int32) → Kr (some (.inl (-3 : Int32))) σ))) ∧ (¬ ok2 kind → Kr (some (.inl (-2 : Int32))) σ)))) ∧ (¬ ((0 : Int32) ≤ how ∧ how ≤ (1 : Int32)) → Kr (some (.inl (-2 : Int32))) σ)))
set_option maxRecDepth 100000 in
theorem bk_X5_take_0 (Wk : sv_K) (Kr : Option sv_AV → sv_S → Prop) (how : Int32) (kind : Int32) (σ : sv_S) (h : F_X5_take_0 Wk Kr how kind σ) : sv_vc tb_X5_take T_X5_take sv_all (some .int) Kr [(45, [true, false, false, true, true])] Wk 500 0 [some (.inr (.inr (5, 0))), some (.inl how), some (.inl kind), none, none] [] σ := (match h with | ⟨z8a, z8b⟩ => ⟨fun z8y => br_f (by decide) ((match (z8a z8y) with | ⟨z7a, z7b⟩ => ⟨fun z7y => sb_nt (by decide) (⟨fun z6 => ⟨sb_vin (by decide), (((z7a z7y)).1 z6)⟩, fun z6 => (((z7a z7y)).2 z6)⟩), fun z7y => sb_nf (by decide) ((z7b z7y))⟩)), fun z8y => br_t (by decide) ((z8b z8y))⟩)
def F_X5_take_45 (Wk : sv_K) (Kr : Option sv_AV → sv_S → Prop) (x3 : Int32) (x4 : Int32) (σ : sv_S) : Prop := (((sv_gA σ 5 0 0) ≤ x4 → Kr (some (.inl x3)) σ) ∧ (¬ (sv_gA σ 5 0 0) ≤ x4 → (vp_in x4 10 ∧ (vp_in x4 10 ∧ Wk 45 [some (.inr (.inr (5, 0))), none, none, some (.inl x3), some (.inl (x4 + (1 : Int32)))] [] (sv_sA σ 36 0 x4.toNatClampNeg (sv_gA σ 37 0 x4.toNatClampNeg))))))
set_option maxRecDepth 100000 in
theorem bk_X5_take_45 (Wk : sv_K) (Kr : Option sv_AV → sv_S → Prop) (x3 : Int32) (x4 : Int32) (σ : sv_S) (h : F_X5_take_45 Wk Kr x3 x4 σ) : sv_vc tb_X5_take T_X5_take sv_all (some .int) Kr [(45, [true, false, false, true, true])] Wk 500 45 [some (.inr (.inr (5, 0))), none, none, some (.inl x3), some (.inl x4)] [] σ := h
set_option maxRecDepth 100000 in
theorem m_X5_take (l : Launch) (hb : ∀ (Wk : sv_K) (Kr : Option sv_AV → sv_S → Prop), (∀ (how : Int32) (kind : Int32) (σ : sv_S), F_X5_take_0 Wk Kr how kind σ → Wk 0 [some (.inr (.inr (5, 0))), some (.inl how), some (.inl kind), none, none] [] σ) → (∀ (x3 : Int32) (x4 : Int32) (σ : sv_S), F_X5_take_45 Wk Kr x3 x4 σ → Wk 45 [some (.inr (.inr (5, 0))), none, none, some (.inl x3), some (.inl x4)] [] σ) → (∀ (how : Int32) (kind : Int32) (σ : sv_S), (∃ d : dD, (RM d σ ∧ MI d σ) ∧ (∀ v : Int32, ∀ σ2 : sv_S, v = A_take d how kind ∧ (RM (U_take d how kind) σ2 ∧ MI (U_take d how kind) σ2) ∧ sq mg σ σ2 → Kr (some (.inl v)) σ2)) → Wk 0 [some (.inr (.inr (5, 0))), some (.inl how), some (.inl kind), none, none] [] σ)) : sv_C l yX5_take cX5_take 5 (some .int) sv_all 5 124 sp_X5_take := by
  refine sv_meth sv_clok_all tb_X5_take T_X5_take (by decide) tbk_X5_take (Tok_X5_take l) ?_
  intro Wk Kr hc av σ hsp
  have hB := hb Wk Kr (fun how kind σ h => hc [(45, [true, false, false, true, true])] 500 0 _ _ _ (bk_X5_take_0 Wk Kr how kind σ h)) (fun x3 x4 σ h => hc [(45, [true, false, false, true, true])] 500 45 _ _ _ (bk_X5_take_45 Wk Kr x3 x4 σ h))
  unfold sp_X5_take at hsp
  split at hsp
  · exact ⟨⟨by simp, by simp [sv_cat]⟩, hB _ _ _ hsp⟩
  · exact hsp.elim
set_option maxHeartbeats 4000000 in
set_option maxRecDepth 100000 in
theorem c_X5_take (l : Launch) : sv_C l yX5_take cX5_take 5 (some .int) sv_all 5 124 sp_X5_take := by
  refine m_X5_take l ?_
  intro Wk Kr e0 e45 how kind σ ⟨d, ⟨hC, hI⟩, h⟩
  have hP := hC.1.1
  have h32 := two_pow_le hC.1
  have hroom := hC.1.2.2.2.2.2.2.1
  have bad : ¬ (ok2 how ∧ ok2 kind) → Kr (some (.inl (-2 : Int32))) σ := fun hb => h _ _ ⟨(ch_f hb _ _).symm, by unfold U_take; rw [ch_f (fun y => hb y.1)]; exact ⟨hC, hI⟩, sq_rf _ _⟩
  apply e0
  unfold F_X5_take_0
  rw [hC.2.2.1, hC.2.2.2.2.2.2.2.2.1 0 (by omega)]
  refine ⟨fun h1 => ⟨fun h2 => ⟨fun z => ?_, fun z => h _ _ ⟨?_, ?_, sq_rf _ _⟩⟩, fun h2 => bad (fun y => h2 y.2)⟩, fun h1 => bad (fun y => h1 ((ok2_le _).mp y.1))⟩
  · have hp0 : dP d ≠ 0 := fun y => z (by rw [y]; rfl)
    have hh := (ok2_le how).mpr h1
    have hok : ok2 how ∧ ok2 kind := ⟨hh, h2⟩
    obtain ⟨k, hk, rfl, -⟩ := ok2_of h2
    refine ⟨d, k, dS d 0, ⟨hC, ⟨hk, rfl⟩, hroom, rfl⟩, fun v4 σ5 ⟨hs5, hb, hst⟩ => ?_⟩
    have hL : ∃ L : Nat → Nat, tkL d how (nI k) = L ∧ v4 = nI (costL d L k) ∧ (∀ p, p < dP d → L p < 2 ^ dT d) ∧ (∀ p, p < dP d → sv_gA σ5 37 0 p = nI (L p)) := by
      unfold tkL
      by_cases c : how = 0
      · refine ⟨_, rfl, ?_, ?_, ?_⟩
        · rw [ch_t c, xn_nI (by omega), costL_bsp hC.1 hk]
          exact (hb c).1
        · rw [ch_t c, xn_nI (by omega)]
          exact fun p hp => bsp_lt hC.1 hk hp
        · rw [ch_t c, xn_nI (by omega)]
          exact (hb c).2
      · have hsl := stlS_lt hC.1 (r := dS d 0) hk
        refine ⟨_, rfl, ?_, ?_, ?_⟩
        · rw [ch_f c, xn_nI (by omega), costL_still hC.1 k (by omega)]
          exact (hst c).1
        · rw [ch_f c, xn_nI (by omega)]
          exact fun p hp => hsl
        · rw [ch_f c, xn_nI (by omega)]
          exact (hst c).2
    obtain ⟨L, hL1, hL2, hL3, hL4⟩ := hL
    suffices key : ∀ n, n ≤ dP d → ∀ σ', sq [36] σ5 σ' → (∀ p, p < n → sv_gA σ' 36 0 p = nI (L p)) → Wk 45 [some (.inr (.inr (5, 0))), none, none, some (.inl v4), some (.inl (nI n))] [] σ' from key 0 (by omega) σ5 (sq_rf _ _) (fun p hp => by omega)
    refine lpN (fun n hn ih σ' hs ht => ?_)
    have hsq : sq (36 :: tg) σ σ' := sq_tr (sq_mono hs5 (by decide)) (sq_mono hs (by decide))
    apply e45
    unfold F_X5_take_45
    have h0 : sv_gA σ' 5 0 0 = nI (dP d) := by
      rw [hsq.1 _ (by decide)]
      exact hC.2.2.1
    rw [h0, nI_1, nI_clamp (by omega)]
    refine pk_le (dP d) n (fun y => h _ _ ⟨?_, ?_, sq_mono hsq (by decide)⟩) (fun y => ⟨pk_in n 10 (by omega), pk_in n 10 (by omega), ih y _ (sq_tr hs (sq_sA _ _ _ _ (by decide))) (fun p hp => ?_)⟩)
    · unfold A_take
      rw [ch_t hok, ch_f hp0, hL1, xn_nI (by omega)]
      exact hL2
    · unfold U_take
      rw [ch_t ⟨hok, hp0⟩, hL1]
      exact ⟨RM_take hC hL3 hsq (fun p hp => ht p (by omega)), MI_alk (MI_fr hI hsq) (bst_eq (alk_take d L))⟩
    · by_cases e : p = n
      · rw [e, gA_same, hs.1 _ (by decide)]
        exact hL4 n y
      · rw [gA_nj _ e]
        exact ht p (by omega)
  · have hp0 : dP d = 0 := (nI_eq (by omega) (by omega)).mp (show nI (dP d) = nI 0 from z)
    unfold A_take
    rw [ch_t (show ok2 how ∧ ok2 kind from ⟨(ok2_le how).mpr h1, h2⟩), ch_t hp0]
  · have hp0 : dP d = 0 := (nI_eq (by omega) (by omega)).mp (show nI (dP d) = nI 0 from z)
    unfold U_take
    rw [ch_f (fun y => y.2 hp0)]
    exact ⟨hC, hI⟩
-- ==== X5_misfit
def sp_X5_misfit : sv_P := fun av σ K => match av with
  | [.inr (.inr (5, 0))] => ∃ d : dD, (RM d σ ∧ MI d σ) ∧ (∀ v : Int32, v = A_misfit d  → K (some (.inl v)) σ)
  | _ => False
def tb_X5_misfit : List (Nat × (Instr × Nat)) := [(0, (.iconst 0, 1)), (1, (.istore_n 1, 1)), (2, (.iload_n 1, 1)), (3, (.aload_n 0, 1)), (4, (.getfield 46, 3)), (7, (.if_icmp .ge 30, 3)), (10, (.aload_n 0, 1)), (11, (.aload_n 0, 1)), (12, (.getfield 25, 3)), (15, (.iload_n 1, 1)), (16, (.iaload, 1)), (17, (.invokevirtual 103, 3)), (20, (.aload_n 0, 1)), (21, (.getfield 22, 3)), (24, (.iconst 0, 1)), (25, (.iaload, 1)), (26, (.if_icmp .le 5, 3)), (29, (.iload_n 1, 1)), (30, (.ireturn, 1)), (31, (.iinc 1 1, 3)), (34, (.goto (-32), 3)), (37, (.bipush (-9), 2)), (39, (.ireturn, 1))]
set_option maxRecDepth 100000 in
theorem tbk_X5_misfit : sv_tbok cX5_misfit tb_X5_misfit = true := by decide +kernel
def cal_X5_misfit : List (Nat × (Nat × Nat × sv_P)) := [(103, (2, 5, sp_X5_cellsOf))]
def T_X5_misfit : sv_T := (flX5, sfX5, kcX5, klX5, cal_X5_misfit)
set_option maxRecDepth 100000 in
theorem Tok_X5_misfit (l : Launch) : sv_Tok l RX5 sv_all 2 44 T_X5_misfit := ⟨flokX5, sfokX5, kcokX5, klokX5, List.forall_mem_cons.mpr ⟨⟨fun _ => sv_COv_of (c_X5_cellsOf l) sv_clok_all (sv_mem 716 (by decide +kernel) rfl) kw_X5_cellsOf.1 kw_X5_cellsOf.2.1 kw_X5_cellsOf.2.2.1 kw_X5_cellsOf.2.2.2 kd_X5_cellsOf rfl (by decide) (by decide +kernel) rfl (by decide), fun h => absurd h (by decide)⟩, fun _ h => absurd h List.not_mem_nil⟩⟩
theorem kw_X5_misfit : Cond.instanceMethod yX5_misfit ∈ sv_tb ∧ Cond.selects yX5_misfit.cls yX5_misfit yX5_misfit ∈ sv_tb ∧ Cond.initialized yX5_misfit.cls ∈ sv_tb ∧ Cond.code yX5_misfit cX5_misfit 2 (some .int) ∈ sv_tb := ⟨sv_mem 745 (by decide +kernel) rfl, sv_mem 746 (by decide +kernel) rfl, sv_mem 56 (by decide +kernel) rfl, sv_mem 747 (by decide +kernel) rfl⟩
theorem kd_X5_misfit : yX5_misfit.cls ≠ "java/lang/invoke/MethodHandle" ∧ yX5_misfit.cls ≠ "java/lang/invoke/VarHandle" ∧ (parseMethodDescriptor yX5_misfit.desc).map (fun d => d.parameters.length) = some 0 := by decide +kernel
def F_X5_misfit_0 (Wk : sv_K) (Kr : Option sv_AV → sv_S → Prop)  (σ : sv_S) : Prop := Wk 2 [some (.inr (.inr (5, 0))), some (.inl (0 : Int32))] [] σ
set_option maxRecDepth 100000 in
theorem bk_X5_misfit_0 (Wk : sv_K) (Kr : Option sv_AV → sv_S → Prop)  (σ : sv_S) (h : F_X5_misfit_0 Wk Kr  σ) : sv_vc tb_X5_misfit T_X5_misfit sv_all (some .int) Kr [(2, [true, true])] Wk 500 0 [some (.inr (.inr (5, 0))), none] [] σ := h
def F_X5_misfit_2 (Wk : sv_K) (Kr : Option sv_AV → sv_S → Prop) (x1 : Int32) (σ : sv_S) : Prop := (((sv_gA σ 5 0 0) ≤ x1 → Kr (some (.inl (-9 : Int32))) σ) ∧ (¬ (sv_gA σ 5 0 0) ≤ x1 → (vp_in x1 10 ∧ (∃ d1 : dD, ∃ c2 : Nat, (RM d1 σ ∧ (c2 < 32 ∧ (sv_gA σ 36 0 x1.toNatClampNeg) = nI c2)) ∧ (∀ v3 : Int32, v3 = nI (cells d1 c2) → ((v3 ≤ (sv_gA σ 35 0 0) → Wk 2 [some (.inr (.inr (5, 0))), some (.inl (x1 + (1 : Int32)))] [] σ) ∧ (¬ v3 ≤ (sv_gA σ 35 0 0) → Kr (some (.inl x1)) σ)))))))
set_option maxRecDepth 100000 in
theorem bk_X5_misfit_2 (Wk : sv_K) (Kr : Option sv_AV → sv_S → Prop) (x1 : Int32) (σ : sv_S) (h : F_X5_misfit_2 Wk Kr x1 σ) : sv_vc tb_X5_misfit T_X5_misfit sv_all (some .int) Kr [(2, [true, true])] Wk 500 2 [some (.inr (.inr (5, 0))), some (.inl x1)] [] σ := ⟨fun z5 => ((h).1 z5), fun z5 => ⟨(((h).2 z5)).1, (match ((((h).2 z5)).2) with | ⟨d1, c2, z4p, z4k⟩ => ⟨d1, c2, z4p, fun v3 z4y => ⟨sb_vin (by decide), (z4k v3 z4y)⟩⟩)⟩⟩
set_option maxRecDepth 100000 in
theorem m_X5_misfit (l : Launch) (hb : ∀ (Wk : sv_K) (Kr : Option sv_AV → sv_S → Prop), (∀  (σ : sv_S), F_X5_misfit_0 Wk Kr  σ → Wk 0 [some (.inr (.inr (5, 0))), none] [] σ) → (∀ (x1 : Int32) (σ : sv_S), F_X5_misfit_2 Wk Kr x1 σ → Wk 2 [some (.inr (.inr (5, 0))), some (.inl x1)] [] σ) → (∀  (σ : sv_S), (∃ d : dD, (RM d σ ∧ MI d σ) ∧ (∀ v : Int32, v = A_misfit d  → Kr (some (.inl v)) σ)) → Wk 0 [some (.inr (.inr (5, 0))), none] [] σ)) : sv_C l yX5_misfit cX5_misfit 2 (some .int) sv_all 2 44 sp_X5_misfit := by
  refine sv_meth sv_clok_all tb_X5_misfit T_X5_misfit (by decide) tbk_X5_misfit (Tok_X5_misfit l) ?_
  intro Wk Kr hc av σ hsp
  have hB := hb Wk Kr (fun  σ h => hc [(2, [true, true])] 500 0 _ _ _ (bk_X5_misfit_0 Wk Kr  σ h)) (fun x1 σ h => hc [(2, [true, true])] 500 2 _ _ _ (bk_X5_misfit_2 Wk Kr x1 σ h))
  unfold sp_X5_misfit at hsp
  split at hsp
  · exact ⟨⟨by simp, by simp [sv_cat]⟩, hB  _ hsp⟩
  · exact hsp.elim
set_option maxHeartbeats 4000000 in
set_option maxRecDepth 100000 in
theorem c_X5_misfit (l : Launch) : sv_C l yX5_misfit cX5_misfit 2 (some .int) sv_all 2 44 sp_X5_misfit := by
  refine m_X5_misfit l ?_
  intro Wk Kr e0 e2 σ ⟨d, ⟨hC, hI⟩, h⟩
  have hP := hC.1.1
  suffices key : ∀ n, n ≤ dP d → (∀ j, j < n → msf d j = false) → Wk 2 [some (.inr (.inr (5, 0))), some (.inl (nI n))] [] σ from e0 _ (key 0 (by omega) (fun j hj => by omega))
  refine lpN (fun n hn ih hno => ?_)
  apply e2
  unfold F_X5_misfit_2
  rw [hC.2.2.1, nI_1, nI_clamp (by omega), hC.2.2.2.2.2.2.2.2.1 0 (by omega)]
  refine pk_le (dP d) n (fun y => h _ ?_) (fun y => ⟨pk_in n 10 (by omega), d, dL d n, ⟨hC, dL_lt hC.1 hC.2.1 y, hC.2.2.2.2.2.2.2.2.2 n y⟩, fun v3 h3 => ?_⟩)
  · unfold A_misfit
    rw [if_neg]
    intro hlt
    have h1 := frs_yes _ _ hlt
    rw [hno _ (by omega)] at h1
    cases h1
  · subst h3
    have hcl := cells_le hC.1 (dL d n)
    have hs0 := hC.1.2.2.2.2.2.2.1
    refine pk_le (cells d (dL d n)) (dS d 0) (fun w => ih y (fun j hj => ?_)) (fun w => h _ ?_)
    · by_cases hjn : j = n
      · subst hjn
        unfold msf
        exact decide_eq_false (by omega)
      · exact hno j (by omega)
    · have e : frs (msf d) (dP d) = n := frs_eq y (by unfold msf; exact decide_eq_true w) hno
      unfold A_misfit
      rw [e, if_pos y]
-- ==== X5_triesPlan
def sp_X5_triesPlan : sv_P := fun av σ K => match av with
  | [.inr (.inr (5, 0))] => ∃ d : dD, (RM d σ) ∧ (∀ σ2 : sv_S, sq tg σ σ2 ∧ (∀ p, p < dP d → sv_gA σ2 37 0 p = nI (dL d p)) → K none σ2)
  | _ => False
def tb_X5_triesPlan : List (Nat × (Instr × Nat)) := [(0, (.iconst 0, 1)), (1, (.istore_n 1, 1)), (2, (.iload_n 1, 1)), (3, (.aload_n 0, 1)), (4, (.getfield 46, 3)), (7, (.if_icmp .ge 21, 3)), (10, (.aload_n 0, 1)), (11, (.getfield 28, 3)), (14, (.iload_n 1, 1)), (15, (.aload_n 0, 1)), (16, (.getfield 25, 3)), (19, (.iload_n 1, 1)), (20, (.iaload, 1)), (21, (.iastore, 1)), (22, (.iinc 1 1, 3)), (25, (.goto (-23), 3)), (28, (.return_, 1))]
set_option maxRecDepth 100000 in
theorem tbk_X5_triesPlan : sv_tbok cX5_triesPlan tb_X5_triesPlan = true := by decide +kernel
def cal_X5_triesPlan : List (Nat × (Nat × Nat × sv_P)) := []
def T_X5_triesPlan : sv_T := (flX5, sfX5, kcX5, klX5, cal_X5_triesPlan)
set_option maxRecDepth 100000 in
theorem Tok_X5_triesPlan (l : Launch) : sv_Tok l RX5 sv_all 0 0 T_X5_triesPlan := ⟨flokX5, sfokX5, kcokX5, klokX5, fun _ h => absurd h List.not_mem_nil⟩
theorem kw_X5_triesPlan : Cond.instanceMethod yX5_triesPlan ∈ sv_tb ∧ Cond.selects yX5_triesPlan.cls yX5_triesPlan yX5_triesPlan ∈ sv_tb ∧ Cond.initialized yX5_triesPlan.cls ∈ sv_tb ∧ Cond.code yX5_triesPlan cX5_triesPlan 2 none ∈ sv_tb := ⟨sv_mem 754 (by decide +kernel) rfl, sv_mem 33 (by decide +kernel) rfl, sv_mem 56 (by decide +kernel) rfl, sv_mem 755 (by decide +kernel) rfl⟩
theorem kd_X5_triesPlan : yX5_triesPlan.cls ≠ "java/lang/invoke/MethodHandle" ∧ yX5_triesPlan.cls ≠ "java/lang/invoke/VarHandle" ∧ (parseMethodDescriptor yX5_triesPlan.desc).map (fun d => d.parameters.length) = some 0 := by decide +kernel
def F_X5_triesPlan_0 (Wk : sv_K) (Kr : Option sv_AV → sv_S → Prop)  (σ : sv_S) : Prop := Wk 2 [some (.inr (.inr (5, 0))), some (.inl (0 : Int32))] [] σ
set_option maxRecDepth 100000 in
theorem bk_X5_triesPlan_0 (Wk : sv_K) (Kr : Option sv_AV → sv_S → Prop)  (σ : sv_S) (h : F_X5_triesPlan_0 Wk Kr  σ) : sv_vc tb_X5_triesPlan T_X5_triesPlan sv_all none Kr [(2, [true, true])] Wk 500 0 [some (.inr (.inr (5, 0))), none] [] σ := h
def F_X5_triesPlan_2 (Wk : sv_K) (Kr : Option sv_AV → sv_S → Prop) (x1 : Int32) (σ : sv_S) : Prop := (((sv_gA σ 5 0 0) ≤ x1 → Kr none σ) ∧ (¬ (sv_gA σ 5 0 0) ≤ x1 → (vp_in x1 10 ∧ (vp_in x1 10 ∧ Wk 2 [some (.inr (.inr (5, 0))), some (.inl (x1 + (1 : Int32)))] [] (sv_sA σ 37 0 x1.toNatClampNeg (sv_gA σ 36 0 x1.toNatClampNeg))))))
set_option maxRecDepth 100000 in
theorem bk_X5_triesPlan_2 (Wk : sv_K) (Kr : Option sv_AV → sv_S → Prop) (x1 : Int32) (σ : sv_S) (h : F_X5_triesPlan_2 Wk Kr x1 σ) : sv_vc tb_X5_triesPlan T_X5_triesPlan sv_all none Kr [(2, [true, true])] Wk 500 2 [some (.inr (.inr (5, 0))), some (.inl x1)] [] σ := ⟨fun z1 => ⟨rfl, ((h).1 z1)⟩, fun z1 => ((h).2 z1)⟩
set_option maxRecDepth 100000 in
theorem m_X5_triesPlan (l : Launch) (hb : ∀ (Wk : sv_K) (Kr : Option sv_AV → sv_S → Prop), (∀  (σ : sv_S), F_X5_triesPlan_0 Wk Kr  σ → Wk 0 [some (.inr (.inr (5, 0))), none] [] σ) → (∀ (x1 : Int32) (σ : sv_S), F_X5_triesPlan_2 Wk Kr x1 σ → Wk 2 [some (.inr (.inr (5, 0))), some (.inl x1)] [] σ) → (∀  (σ : sv_S), (∃ d : dD, (RM d σ) ∧ (∀ σ2 : sv_S, sq tg σ σ2 ∧ (∀ p, p < dP d → sv_gA σ2 37 0 p = nI (dL d p)) → Kr none σ2)) → Wk 0 [some (.inr (.inr (5, 0))), none] [] σ)) : sv_C l yX5_triesPlan cX5_triesPlan 2 none sv_all 0 0 sp_X5_triesPlan := by
  refine sv_meth sv_clok_all tb_X5_triesPlan T_X5_triesPlan (by decide) tbk_X5_triesPlan (Tok_X5_triesPlan l) ?_
  intro Wk Kr hc av σ hsp
  have hB := hb Wk Kr (fun  σ h => hc [(2, [true, true])] 500 0 _ _ _ (bk_X5_triesPlan_0 Wk Kr  σ h)) (fun x1 σ h => hc [(2, [true, true])] 500 2 _ _ _ (bk_X5_triesPlan_2 Wk Kr x1 σ h))
  unfold sp_X5_triesPlan at hsp
  split at hsp
  · exact ⟨⟨by simp, by simp [sv_cat]⟩, hB  _ hsp⟩
  · exact hsp.elim
set_option maxHeartbeats 4000000 in
set_option maxRecDepth 100000 in
theorem c_X5_triesPlan (l : Launch) : sv_C l yX5_triesPlan cX5_triesPlan 2 none sv_all 0 0 sp_X5_triesPlan := by
  refine m_X5_triesPlan l ?_
  intro Wk Kr e0 e2 σ ⟨d, hR, h⟩
  have hP := hR.1.1
  suffices key : ∀ n, n ≤ dP d → ∀ σ', sq tg σ σ' → (∀ p, p < n → sv_gA σ' 37 0 p = nI (dL d p)) → Wk 2 [some (.inr (.inr (5, 0))), some (.inl (nI n))] [] σ' from e0 _ (key 0 (by omega) σ (sq_rf _ _) (fun p hp => by omega))
  refine lpN (fun n hn ih σ' hs ht => ?_)
  have hR' := RM_fr hR hs
  apply e2
  unfold F_X5_triesPlan_2
  rw [hR'.2.2.1, nI_1, nI_clamp (by omega)]
  refine pk_le (dP d) n (fun y => h _ ⟨hs, fun p hp => ht p (by omega)⟩) (fun y => ⟨pk_in n 10 (by omega), pk_in n 10 (by omega), ih y _ (sq_tr hs (sq_sA _ _ _ _ (by decide))) (fun p hp => ?_)⟩)
  by_cases e : p = n
  · rw [e, gA_same]
    exact hR'.2.2.2.2.2.2.2.2.2 n y
  · rw [gA_nj _ e]
    exact ht p (by omega)
-- ==== X5_cost
def sp_X5_cost : sv_P := fun av σ K => match av with
  | [.inr (.inr (5, 0)), .inl kind] => ∃ d : dD, (RM d σ ∧ MI d σ) ∧ (∀ v : Int32, ∀ σ2 : sv_S, v = A_cost d kind ∧ (RM d σ2 ∧ MI d σ2) ∧ sq mg σ σ2 → K (some (.inl v)) σ2)
  | _ => False
def tb_X5_cost : List (Nat × (Instr × Nat)) := [(0, (.iload_n 1, 1)), (1, (.invokestatic 127, 3)), (4, (.ifCond .ne 6, 3)), (7, (.bipush (-2), 2)), (9, (.ireturn, 1)), (10, (.aload_n 0, 1)), (11, (.invokevirtual 133, 3)), (14, (.aload_n 0, 1)), (15, (.iload_n 1, 1)), (16, (.invokevirtual 118, 3)), (19, (.ireturn, 1))]
set_option maxRecDepth 100000 in
theorem tbk_X5_cost : sv_tbok cX5_cost tb_X5_cost = true := by decide +kernel
def cal_X5_cost : List (Nat × (Nat × Nat × sv_P)) := [(127, (1, 90, sp_X5_isKind)), (133, (1, 5, sp_X5_triesPlan)), (118, (2, 5, sp_X5_costOf))]
def T_X5_cost : sv_T := (flX5, sfX5, kcX5, klX5, cal_X5_cost)
set_option maxRecDepth 100000 in
theorem Tok_X5_cost (l : Launch) : sv_Tok l RX5 sv_all 3 73 T_X5_cost := ⟨flokX5, sfokX5, kcokX5, klokX5, List.forall_mem_cons.mpr ⟨⟨fun h => absurd h (by decide), fun _ => sv_COs_gen (c_X5_isKind l) (Or.inl (sv_mem 682 (by decide +kernel) rfl)) kw_X5_isKind.1 kw_X5_isKind.2.1 kw_X5_isKind.2.2 kd_X5_isKind rfl (by decide) (by decide +kernel)⟩, List.forall_mem_cons.mpr ⟨⟨fun _ => sv_COv_of (c_X5_triesPlan l) sv_clok_all (sv_mem 752 (by decide +kernel) rfl) kw_X5_triesPlan.1 kw_X5_triesPlan.2.1 kw_X5_triesPlan.2.2.1 kw_X5_triesPlan.2.2.2 kd_X5_triesPlan rfl (by decide) (by decide +kernel) rfl (by decide), fun h => absurd h (by decide)⟩, List.forall_mem_cons.mpr ⟨⟨fun _ => sv_COv_of (c_X5_costOf l) sv_clok_all (sv_mem 740 (by decide +kernel) rfl) kw_X5_costOf.1 kw_X5_costOf.2.1 kw_X5_costOf.2.2.1 kw_X5_costOf.2.2.2 kd_X5_costOf rfl (by decide) (by decide +kernel) rfl (by decide), fun h => absurd h (by decide)⟩, fun _ h => absurd h List.not_mem_nil⟩⟩⟩⟩
theorem kw_X5_cost : Cond.instanceMethod yX5_cost ∈ sv_tb ∧ Cond.selects yX5_cost.cls yX5_cost yX5_cost ∈ sv_tb ∧ Cond.initialized yX5_cost.cls ∈ sv_tb ∧ Cond.code yX5_cost cX5_cost 2 (some .int) ∈ sv_tb := ⟨sv_mem 749 (by decide +kernel) rfl, sv_mem 750 (by decide +kernel) rfl, sv_mem 56 (by decide +kernel) rfl, sv_mem 751 (by decide +kernel) rfl⟩
theorem kd_X5_cost : yX5_cost.cls ≠ "java/lang/invoke/MethodHandle" ∧ yX5_cost.cls ≠ "java/lang/invoke/VarHandle" ∧ (parseMethodDescriptor yX5_cost.desc).map (fun d => d.parameters.length) = some 1 := by decide +kernel
def F_X5_cost_0 (Wk : sv_K) (Kr : Option sv_AV → sv_S → Prop) (kind : Int32) (σ : sv_S) : Prop := (((ok2 kind → (∃ d1 : dD, (RM d1 σ) ∧ (∀ σ3 : sv_S, sq tg σ σ3 ∧ (∀ p, p < dP d1 → sv_gA σ3 37 0 p = nI (dL d1 p)) → (∃ d4 : dD, ∃ k5 : Nat, ∃ f6 : Nat → Nat, (RM d4 σ3 ∧ (k5 < 2 ∧ kind = nI k5) ∧ (∀ p, p < dP d4 → f6 p < 2 ^ dT d4 ∧ sv_gA σ3 37 0 p = nI (f6 p))) ∧ (∀ v7 : Int32, v7 = nI (costL d4 f6 k5) → Kr (some (.inl v7)) σ3))))) ∧ (¬ ok2 kind → Kr (some (.inl (-2 : Int32))) σ)))
set_option maxRecDepth 100000 in
theorem bk_X5_cost_0 (Wk : sv_K) (Kr : Option sv_AV → sv_S → Prop) (kind : Int32) (σ : sv_S) (h : F_X5_cost_0 Wk Kr kind σ) : sv_vc tb_X5_cost T_X5_cost sv_all (some .int) Kr [] Wk 500 0 [some (.inr (.inr (5, 0))), some (.inl kind)] [] σ := (match h with | ⟨z8a, z8b⟩ => ⟨fun z8y => sb_nt (by decide) ((z8a z8y)), fun z8y => sb_nf (by decide) ((z8b z8y))⟩)
set_option maxRecDepth 100000 in
theorem m_X5_cost (l : Launch) (hb : ∀ (Wk : sv_K) (Kr : Option sv_AV → sv_S → Prop), (∀ (kind : Int32) (σ : sv_S), F_X5_cost_0 Wk Kr kind σ → Wk 0 [some (.inr (.inr (5, 0))), some (.inl kind)] [] σ) → (∀ (kind : Int32) (σ : sv_S), (∃ d : dD, (RM d σ ∧ MI d σ) ∧ (∀ v : Int32, ∀ σ2 : sv_S, v = A_cost d kind ∧ (RM d σ2 ∧ MI d σ2) ∧ sq mg σ σ2 → Kr (some (.inl v)) σ2)) → Wk 0 [some (.inr (.inr (5, 0))), some (.inl kind)] [] σ)) : sv_C l yX5_cost cX5_cost 2 (some .int) sv_all 3 73 sp_X5_cost := by
  refine sv_meth sv_clok_all tb_X5_cost T_X5_cost (by decide) tbk_X5_cost (Tok_X5_cost l) ?_
  intro Wk Kr hc av σ hsp
  have hB := hb Wk Kr (fun kind σ h => hc [] 500 0 _ _ _ (bk_X5_cost_0 Wk Kr kind σ h))
  unfold sp_X5_cost at hsp
  split at hsp
  · exact ⟨⟨by simp, by simp [sv_cat]⟩, hB _ _ hsp⟩
  · exact hsp.elim
set_option maxHeartbeats 4000000 in
set_option maxRecDepth 100000 in
theorem c_X5_cost (l : Launch) : sv_C l yX5_cost cX5_cost 2 (some .int) sv_all 3 73 sp_X5_cost := by
  refine m_X5_cost l ?_
  intro Wk Kr e0 kind σ ⟨d, ⟨hC, hI⟩, h⟩
  apply e0
  refine ⟨fun ho => ⟨d, hC, fun σ3 ⟨hs, ht⟩ => ?_⟩, fun ho => h _ _ ⟨(ch_f ho _ _).symm, ⟨hC, hI⟩, sq_rf _ _⟩⟩
  have g := ho
  obtain ⟨k, hk, rfl, -⟩ := ok2_of ho
  refine ⟨d, k, dL d, ⟨RM_fr hC hs, ⟨hk, rfl⟩, fun p hp => ⟨hC.2.1 p hp, ht p hp⟩⟩, fun v7 h7 => h _ _ ⟨?_, ⟨RM_fr hC hs, MI_fr hI hs⟩, sq_mono hs (by decide)⟩⟩
  unfold A_cost
  rw [ch_t g, xn_nI (by omega)]
  exact h7
-- ==== X5_best
def sp_X5_best : sv_P := fun av σ K => match av with
  | [.inr (.inr (5, 0)), .inl how, .inl kind, .inl r] => ∃ d : dD, (RM d σ ∧ MI d σ) ∧ (∀ v : Int32, ∀ σ2 : sv_S, v = A_best d how kind r ∧ (RM d σ2 ∧ MI d σ2) ∧ sq mg σ σ2 → K (some (.inl v)) σ2)
  | _ => False
def tb_X5_best : List (Nat × (Instr × Nat)) := [(0, (.iload_n 1, 1)), (1, (.iconst 0, 1)), (2, (.iconst 1, 1)), (3, (.invokestatic 50, 3)), (6, (.ifCond .eq 20, 3)), (9, (.iload_n 2, 1)), (10, (.invokestatic 127, 3)), (13, (.ifCond .eq 13, 3)), (16, (.iload_n 3, 1)), (17, (.iconst 0, 1)), (18, (.bipush 60, 2)), (20, (.invokestatic 50, 3)), (23, (.ifCond .ne 6, 3)), (26, (.bipush (-2), 2)), (28, (.ireturn, 1)), (29, (.aload_n 0, 1)), (30, (.iload_n 1, 1)), (31, (.iload_n 2, 1)), (32, (.iload_n 3, 1)), (33, (.invokevirtual 130, 3)), (36, (.ireturn, 1))]
set_option maxRecDepth 100000 in
theorem tbk_X5_best : sv_tbok cX5_best tb_X5_best = true := by decide +kernel
def cal_X5_best : List (Nat × (Nat × Nat × sv_P)) := [(50, (3, 90, sp_X5_within)), (127, (1, 90, sp_X5_isKind)), (130, (4, 5, sp_X5_tries))]
def T_X5_best : sv_T := (flX5, sfX5, kcX5, klX5, cal_X5_best)
set_option maxRecDepth 100000 in
theorem Tok_X5_best (l : Launch) : sv_Tok l RX5 sv_all 5 124 T_X5_best := ⟨flokX5, sfokX5, kcokX5, klokX5, List.forall_mem_cons.mpr ⟨⟨fun h => absurd h (by decide), fun _ => sv_COs_gen (c_X5_within l) (Or.inl (sv_mem 623 (by decide +kernel) rfl)) kw_X5_within.1 kw_X5_within.2.1 kw_X5_within.2.2 kd_X5_within rfl (by decide) (by decide +kernel)⟩, List.forall_mem_cons.mpr ⟨⟨fun h => absurd h (by decide), fun _ => sv_COs_gen (c_X5_isKind l) (Or.inl (sv_mem 682 (by decide +kernel) rfl)) kw_X5_isKind.1 kw_X5_isKind.2.1 kw_X5_isKind.2.2 kd_X5_isKind rfl (by decide) (by decide +kernel)⟩, List.forall_mem_cons.mpr ⟨⟨fun _ => sv_COv_of (c_X5_tries l) sv_clok_all (sv_mem 685 (by decide +kernel) rfl) kw_X5_tries.1 kw_X5_tries.2.1 kw_X5_tries.2.2.1 kw_X5_tries.2.2.2 kd_X5_tries rfl (by decide) (by decide +kernel) rfl (by decide), fun h => absurd h (by decide)⟩, fun _ h => absurd h List.not_mem_nil⟩⟩⟩⟩
theorem kw_X5_best : Cond.instanceMethod yX5_best ∈ sv_tb ∧ Cond.selects yX5_best.cls yX5_best yX5_best ∈ sv_tb ∧ Cond.initialized yX5_best.cls ∈ sv_tb ∧ Cond.code yX5_best cX5_best 4 (some .int) ∈ sv_tb := ⟨sv_mem 785 (by decide +kernel) rfl, sv_mem 786 (by decide +kernel) rfl, sv_mem 56 (by decide +kernel) rfl, sv_mem 787 (by decide +kernel) rfl⟩
theorem kd_X5_best : yX5_best.cls ≠ "java/lang/invoke/MethodHandle" ∧ yX5_best.cls ≠ "java/lang/invoke/VarHandle" ∧ (parseMethodDescriptor yX5_best.desc).map (fun d => d.parameters.length) = some 3 := by decide +kernel
def F_X5_best_0 (Wk : sv_K) (Kr : Option sv_AV → sv_S → Prop) (how : Int32) (kind : Int32) (r : Int32) (σ : sv_S) : Prop := ((((0 : Int32) ≤ how ∧ how ≤ (1 : Int32) → (((ok2 kind → ((((0 : Int32) ≤ r ∧ r ≤ (60 : Int32) → (∃ d1 : dD, ∃ k2 : Nat, ∃ r3 : Nat, (RM d1 σ ∧ (k2 < 2 ∧ kind = nI k2) ∧ (r3 ≤ 60 ∧ r = nI r3)) ∧ (∀ v4 : Int32, ∀ σ5 : sv_S, sq tg σ σ5 ∧ (how = 0 → v4 = nI (bst d1 k2 r3) ∧ (∀ p, p < dP d1 → sv_gA σ5 37 0 p = nI (bsp d1 k2 r3 p))) ∧ (¬ how = 0 → v4 = nI (stlC d1 k2 (stlS d1 k2 r3)) ∧ (∀ p, p < dP d1 → sv_gA σ5 37 0 p = nI (stlS d1 k2 r3))) → Kr (some (.inl v4)) σ5))) ∧ (¬ ((0 : Int32) ≤ r ∧ r ≤ (60 : Int32)) → Kr (some (.inl (-2 : Int32))) σ)))) ∧ (¬ ok2 kind → Kr (some (.inl (-2 : Int32))) σ)))) ∧ (¬ ((0 : Int32) ≤ how ∧ how ≤ (1 : Int32)) → Kr (some (.inl (-2 : Int32))) σ)))
set_option maxRecDepth 100000 in
theorem bk_X5_best_0 (Wk : sv_K) (Kr : Option sv_AV → sv_S → Prop) (how : Int32) (kind : Int32) (r : Int32) (σ : sv_S) (h : F_X5_best_0 Wk Kr how kind r σ) : sv_vc tb_X5_best T_X5_best sv_all (some .int) Kr [] Wk 500 0 [some (.inr (.inr (5, 0))), some (.inl how), some (.inl kind), some (.inl r)] [] σ := (match h with | ⟨z8a, z8b⟩ => ⟨fun z8y => br_f (by decide) ((match (z8a z8y) with | ⟨z7a, z7b⟩ => ⟨fun z7y => br_f (by decide) ((match (z7a z7y) with | ⟨z6a, z6b⟩ => ⟨fun z6y => sb_nt (by decide) ((z6a z6y)), fun z6y => sb_nf (by decide) ((z6b z6y))⟩)), fun z7y => br_t (by decide) ((z7b z7y))⟩)), fun z8y => br_t (by decide) ((z8b z8y))⟩)
set_option maxRecDepth 100000 in
theorem m_X5_best (l : Launch) (hb : ∀ (Wk : sv_K) (Kr : Option sv_AV → sv_S → Prop), (∀ (how : Int32) (kind : Int32) (r : Int32) (σ : sv_S), F_X5_best_0 Wk Kr how kind r σ → Wk 0 [some (.inr (.inr (5, 0))), some (.inl how), some (.inl kind), some (.inl r)] [] σ) → (∀ (how : Int32) (kind : Int32) (r : Int32) (σ : sv_S), (∃ d : dD, (RM d σ ∧ MI d σ) ∧ (∀ v : Int32, ∀ σ2 : sv_S, v = A_best d how kind r ∧ (RM d σ2 ∧ MI d σ2) ∧ sq mg σ σ2 → Kr (some (.inl v)) σ2)) → Wk 0 [some (.inr (.inr (5, 0))), some (.inl how), some (.inl kind), some (.inl r)] [] σ)) : sv_C l yX5_best cX5_best 4 (some .int) sv_all 5 124 sp_X5_best := by
  refine sv_meth sv_clok_all tb_X5_best T_X5_best (by decide) tbk_X5_best (Tok_X5_best l) ?_
  intro Wk Kr hc av σ hsp
  have hB := hb Wk Kr (fun how kind r σ h => hc [] 500 0 _ _ _ (bk_X5_best_0 Wk Kr how kind r σ h))
  unfold sp_X5_best at hsp
  split at hsp
  · exact ⟨⟨by simp, by simp [sv_cat]⟩, hB _ _ _ _ hsp⟩
  · exact hsp.elim
set_option maxHeartbeats 4000000 in
set_option maxRecDepth 100000 in
theorem c_X5_best (l : Launch) : sv_C l yX5_best cX5_best 4 (some .int) sv_all 5 124 sp_X5_best := by
  refine m_X5_best l ?_
  intro Wk Kr e0 how kind r σ ⟨d, ⟨hC, hI⟩, h⟩
  have bad : ¬ ((ok2 how ∧ ok2 kind) ∧ ((0 : Int32) ≤ r ∧ r ≤ 60)) → Kr (some (.inl (-2 : Int32))) σ := fun hb => h _ _ ⟨(ch_f hb _ _).symm, ⟨hC, hI⟩, sq_rf _ _⟩
  apply e0
  refine ⟨fun h1 => ⟨fun h2 => ⟨fun h3 => ?_, fun h3 => bad (fun y => h3 y.2)⟩, fun h2 => bad (fun y => h2 y.1.2)⟩, fun h1 => bad (fun y => h1 ((ok2_le _).mp y.1.1))⟩
  have g : (ok2 how ∧ ok2 kind) ∧ ((0 : Int32) ≤ r ∧ r ≤ 60) := ⟨⟨(ok2_le how).mpr h1, h2⟩, h3⟩
  obtain ⟨k, hk, rfl, -⟩ := ok2_of h2
  obtain ⟨n, -, hn, rfl⟩ := lit_in (a := 0) (b := 60) (by omega) h3 (by omega)
  refine ⟨d, k, n, ⟨hC, ⟨hk, rfl⟩, hn, rfl⟩, fun v4 σ5 ⟨hs, hb, hst⟩ => h _ _ ⟨?_, ⟨RM_fr hC hs, MI_fr hI hs⟩, sq_mono hs (by decide)⟩⟩
  unfold A_best
  rw [ch_t g, xn_nI (by omega), xn_nI (by omega)]
  by_cases c : how = 0
  · rw [ch_t c]
    exact (hb c).1
  · rw [ch_f c]
    exact (hst c).1
-- ==== X5_bestSet
def sp_X5_bestSet : sv_P := fun av σ K => match av with
  | [.inr (.inr (5, 0)), .inl p, .inl how, .inl kind] => ∃ d : dD, (RM d σ ∧ MI d σ) ∧ (∀ v : Int32, ∀ σ2 : sv_S, v = A_bestSet d p how kind ∧ (RM d σ2 ∧ MI d σ2) ∧ sq mg σ σ2 → K (some (.inl v)) σ2)
  | _ => False
def tb_X5_bestSet : List (Nat × (Instr × Nat)) := [(0, (.aload_n 0, 1)), (1, (.iload_n 1, 1)), (2, (.invokevirtual 65, 3)), (5, (.ifCond .ne 5, 3)), (8, (.iconst (-1), 1)), (9, (.ireturn, 1)), (10, (.iload_n 2, 1)), (11, (.iconst 0, 1)), (12, (.iconst 1, 1)), (13, (.invokestatic 50, 3)), (16, (.ifCond .eq 10, 3)), (19, (.iload_n 3, 1)), (20, (.invokestatic 127, 3)), (23, (.ifCond .ne 6, 3)), (26, (.bipush (-2), 2)), (28, (.ireturn, 1)), (29, (.aload_n 0, 1)), (30, (.iload_n 2, 1)), (31, (.iload_n 3, 1)), (32, (.aload_n 0, 1)), (33, (.getfield 22, 3)), (36, (.iconst 0, 1)), (37, (.iaload, 1)), (38, (.invokevirtual 130, 3)), (41, (.pop, 1)), (42, (.aload_n 0, 1)), (43, (.getfield 28, 3)), (46, (.iload_n 1, 1)), (47, (.iaload, 1)), (48, (.ireturn, 1))]
set_option maxRecDepth 100000 in
theorem tbk_X5_bestSet : sv_tbok cX5_bestSet tb_X5_bestSet = true := by decide +kernel
def cal_X5_bestSet : List (Nat × (Nat × Nat × sv_P)) := [(65, (2, 5, sp_X5_isPart)), (50, (3, 90, sp_X5_within)), (127, (1, 90, sp_X5_isKind)), (130, (4, 5, sp_X5_tries))]
def T_X5_bestSet : sv_T := (flX5, sfX5, kcX5, klX5, cal_X5_bestSet)
set_option maxRecDepth 100000 in
theorem Tok_X5_bestSet (l : Launch) : sv_Tok l RX5 sv_all 5 124 T_X5_bestSet := ⟨flokX5, sfokX5, kcokX5, klokX5, List.forall_mem_cons.mpr ⟨⟨fun _ => sv_COv_of (c_X5_isPart l) sv_clok_all (sv_mem 630 (by decide +kernel) rfl) kw_X5_isPart.1 kw_X5_isPart.2.1 kw_X5_isPart.2.2.1 kw_X5_isPart.2.2.2 kd_X5_isPart rfl (by decide) (by decide +kernel) rfl (by decide), fun h => absurd h (by decide)⟩, List.forall_mem_cons.mpr ⟨⟨fun h => absurd h (by decide), fun _ => sv_COs_gen (c_X5_within l) (Or.inl (sv_mem 623 (by decide +kernel) rfl)) kw_X5_within.1 kw_X5_within.2.1 kw_X5_within.2.2 kd_X5_within rfl (by decide) (by decide +kernel)⟩, List.forall_mem_cons.mpr ⟨⟨fun h => absurd h (by decide), fun _ => sv_COs_gen (c_X5_isKind l) (Or.inl (sv_mem 682 (by decide +kernel) rfl)) kw_X5_isKind.1 kw_X5_isKind.2.1 kw_X5_isKind.2.2 kd_X5_isKind rfl (by decide) (by decide +kernel)⟩, List.forall_mem_cons.mpr ⟨⟨fun _ => sv_COv_of (c_X5_tries l) sv_clok_all (sv_mem 685 (by decide +kernel) rfl) kw_X5_tries.1 kw_X5_tries.2.1 kw_X5_tries.2.2.1 kw_X5_tries.2.2.2 kd_X5_tries rfl (by decide) (by decide +kernel) rfl (by decide), fun h => absurd h (by decide)⟩, fun _ h => absurd h List.not_mem_nil⟩⟩⟩⟩⟩
theorem kw_X5_bestSet : Cond.instanceMethod yX5_bestSet ∈ sv_tb ∧ Cond.selects yX5_bestSet.cls yX5_bestSet yX5_bestSet ∈ sv_tb ∧ Cond.initialized yX5_bestSet.cls ∈ sv_tb ∧ Cond.code yX5_bestSet cX5_bestSet 4 (some .int) ∈ sv_tb := ⟨sv_mem 789 (by decide +kernel) rfl, sv_mem 790 (by decide +kernel) rfl, sv_mem 56 (by decide +kernel) rfl, sv_mem 791 (by decide +kernel) rfl⟩
theorem kd_X5_bestSet : yX5_bestSet.cls ≠ "java/lang/invoke/MethodHandle" ∧ yX5_bestSet.cls ≠ "java/lang/invoke/VarHandle" ∧ (parseMethodDescriptor yX5_bestSet.desc).map (fun d => d.parameters.length) = some 3 := by decide +kernel
def F_X5_bestSet_0 (Wk : sv_K) (Kr : Option sv_AV → sv_S → Prop) (p : Int32) (how : Int32) (kind : Int32) (σ : sv_S) : Prop := (∃ d1 : dD, (RM d1 σ) ∧ ((isN (dP d1) p → ((((0 : Int32) ≤ how ∧ how ≤ (1 : Int32) → (((ok2 kind → (∃ d2 : dD, ∃ k3 : Nat, ∃ r4 : Nat, (RM d2 σ ∧ (k3 < 2 ∧ kind = nI k3) ∧ (r4 ≤ 60 ∧ (sv_gA σ 35 0 0) = nI r4)) ∧ (∀ v5 : Int32, ∀ σ6 : sv_S, sq tg σ σ6 ∧ (how = 0 → v5 = nI (bst d2 k3 r4) ∧ (∀ p, p < dP d2 → sv_gA σ6 37 0 p = nI (bsp d2 k3 r4 p))) ∧ (¬ how = 0 → v5 = nI (stlC d2 k3 (stlS d2 k3 r4)) ∧ (∀ p, p < dP d2 → sv_gA σ6 37 0 p = nI (stlS d2 k3 r4))) → (vp_in p 10 ∧ Kr (some (.inl (sv_gA σ6 37 0 p.toNatClampNeg))) σ6)))) ∧ (¬ ok2 kind → Kr (some (.inl (-2 : Int32))) σ)))) ∧ (¬ ((0 : Int32) ≤ how ∧ how ≤ (1 : Int32)) → Kr (some (.inl (-2 : Int32))) σ)))) ∧ (¬ isN (dP d1) p → Kr (some (.inl (-1 : Int32))) σ)))
set_option maxRecDepth 100000 in
theorem bk_X5_bestSet_0 (Wk : sv_K) (Kr : Option sv_AV → sv_S → Prop) (p : Int32) (how : Int32) (kind : Int32) (σ : sv_S) (h : F_X5_bestSet_0 Wk Kr p how kind σ) : sv_vc tb_X5_bestSet T_X5_bestSet sv_all (some .int) Kr [] Wk 500 0 [some (.inr (.inr (5, 0))), some (.inl p), some (.inl how), some (.inl kind)] [] σ := (match h with | ⟨d1, z9p, z9a, z9b⟩ => ⟨d1, z9p, fun z9y => sb_nt (by decide) ((match (z9a z9y) with | ⟨z8a, z8b⟩ => ⟨fun z8y => br_f (by decide) ((match (z8a z8y) with | ⟨z7a, z7b⟩ => ⟨fun z7y => sb_nt (by decide) (⟨sb_vin (by decide), (z7a z7y)⟩), fun z7y => sb_nf (by decide) ((z7b z7y))⟩)), fun z8y => br_t (by decide) ((z8b z8y))⟩)), fun z9y => sb_nf (by decide) ((z9b z9y))⟩)
set_option maxRecDepth 100000 in
theorem m_X5_bestSet (l : Launch) (hb : ∀ (Wk : sv_K) (Kr : Option sv_AV → sv_S → Prop), (∀ (p : Int32) (how : Int32) (kind : Int32) (σ : sv_S), F_X5_bestSet_0 Wk Kr p how kind σ → Wk 0 [some (.inr (.inr (5, 0))), some (.inl p), some (.inl how), some (.inl kind)] [] σ) → (∀ (p : Int32) (how : Int32) (kind : Int32) (σ : sv_S), (∃ d : dD, (RM d σ ∧ MI d σ) ∧ (∀ v : Int32, ∀ σ2 : sv_S, v = A_bestSet d p how kind ∧ (RM d σ2 ∧ MI d σ2) ∧ sq mg σ σ2 → Kr (some (.inl v)) σ2)) → Wk 0 [some (.inr (.inr (5, 0))), some (.inl p), some (.inl how), some (.inl kind)] [] σ)) : sv_C l yX5_bestSet cX5_bestSet 4 (some .int) sv_all 5 124 sp_X5_bestSet := by
  refine sv_meth sv_clok_all tb_X5_bestSet T_X5_bestSet (by decide) tbk_X5_bestSet (Tok_X5_bestSet l) ?_
  intro Wk Kr hc av σ hsp
  have hB := hb Wk Kr (fun p how kind σ h => hc [] 500 0 _ _ _ (bk_X5_bestSet_0 Wk Kr p how kind σ h))
  unfold sp_X5_bestSet at hsp
  split at hsp
  · exact ⟨⟨by simp, by simp [sv_cat]⟩, hB _ _ _ _ hsp⟩
  · exact hsp.elim
set_option maxHeartbeats 4000000 in
set_option maxRecDepth 100000 in
theorem c_X5_bestSet (l : Launch) : sv_C l yX5_bestSet cX5_bestSet 4 (some .int) sv_all 5 124 sp_X5_bestSet := by
  refine m_X5_bestSet l ?_
  intro Wk Kr e0 p how kind σ ⟨d, ⟨hC, hI⟩, h⟩
  have hP := hC.1.1
  have hroom := hC.1.2.2.2.2.2.2.1
  apply e0
  refine ⟨d, hC, fun hp => ?_, fun hp => h _ _ ⟨(ch_f hp _ _).symm, ⟨hC, hI⟩, sq_rf _ _⟩⟩
  have g1 := hp
  obtain ⟨q, hq, rfl⟩ := hp
  have bad : ¬ (ok2 how ∧ ok2 kind) → Kr (some (.inl (-2 : Int32))) σ := fun hb => h _ _ ⟨by unfold A_bestSet; rw [ch_t g1, ch_f hb], ⟨hC, hI⟩, sq_rf _ _⟩
  refine ⟨fun h1 => ⟨fun h2 => ?_, fun h2 => bad (fun y => h2 y.2)⟩, fun h1 => bad (fun y => h1 ((ok2_le _).mp y.1))⟩
  have g : ok2 how ∧ ok2 kind := ⟨(ok2_le how).mpr h1, h2⟩
  obtain ⟨k, hk, rfl, -⟩ := ok2_of h2
  refine ⟨d, k, dS d 0, ⟨hC, ⟨hk, rfl⟩, hroom, hC.2.2.2.2.2.2.2.2.1 0 (by omega)⟩, fun v4 σ5 ⟨hs, hb, hst⟩ => ⟨pk_in q 10 (by omega), h _ _ ⟨?_, ⟨RM_fr hC hs, MI_fr hI hs⟩, sq_mono hs (by decide)⟩⟩⟩
  unfold A_bestSet
  rw [ch_t g1, ch_t g, xn_nI (by omega), xn_nI (by omega), nI_clamp (by omega)]
  by_cases c : how = 0
  · rw [ch_t c]
    exact (hb c).2 q hq
  · rw [ch_f c]
    exact (hst c).2 q hq
