def outs (t i : Nat) : Nat := i / 3 ^ t * 3 ^ (t + 1) + i % 3 ^ t
def FT (σ : sv_S) : Prop := (∀ s, s < 243 → sv_gA σ 6 0 s = nI (sIn s)) ∧ (∀ t i, t < 5 → i < 81 → sv_gA σ 8 t i = nI (outs t i))
def CLS (d : dD) (σ : sv_S) : Prop := ∀ s, s < 2 ^ dT d → sv_gA σ 9 0 s = nI (cells d s)
def fullest (d : dD) (r : Nat) : Nat → Nat
  | 0 => 0
  | n + 1 => if cells d n ≤ r then max (fullest d r n) (cells d n) else fullest d r n
/-- what one thing's choice adds: out, or in -/
def cOut (d : dD) (k p t : Nat) : Nat := (dr d t p + dw d t p) * dR d k p * dS d 1
def cIn (d : dD) (k p t : Nat) : Nat := (dr d t p + dw d t p) * dR d k p * dS d 2
def c1 (d : dD) (t : Nat) : Nat := carry d (2 ^ t)
def cfr (d : dD) (k p t : Nat) (R : Nat → Nat) (s : Nat) : Nat :=
  let a := dg t s
  let z := s - a * 3 ^ t
  min (R z + cOut d k p t) (if a = 2 then R (z + 2 * 3 ^ t) + cIn d k p t else (if 0 < dw d t p then R (z + 2 * 3 ^ t) + cIn d k p t + c1 d t else R (z + 3 ^ t) + cIn d k p t) + (if a = 0 then c1 d t else 0))
/-- the finder's rows: the least from each part on, what is paid for already taken off -/
def TG (d : dD) (k r : Nat) (σ : sv_S) : Prop := ∀ p, p ≤ dP d → ∀ s, s < 3 ^ dT d → sv_gA σ 11 p s = nI (Vm d k r (dP d - p) (sIn s) (sDi s) - carry d (sDi s))
-- ==== X0_fullestIn
def sp_X0_fullestIn : sv_P := fun av σ K => match av with
  | [.inr (.inr (0, 0)), .inl room] => ∃ d : dD, ∃ r : Nat, (RP d σ ∧ CLS d σ ∧ (r ≤ 60 ∧ room = nI r)) ∧ (∀ v : Int32, v = nI (fullest d r (2 ^ dT d)) → K (some (.inl v)) σ)
  | _ => False
def tb_X0_fullestIn : List (Nat × (Instr × Nat)) := [(0, (.iconst 0, 1)), (1, (.istore_n 2, 1)), (2, (.iconst 0, 1)), (3, (.istore_n 3, 1)), (4, (.iload_n 3, 1)), (5, (.aload_n 0, 1)), (6, (.getfield 39, 3)), (9, (.invokevirtual 72, 3)), (12, (.if_icmp .ge 30, 3)), (15, (.aload_n 0, 1)), (16, (.getfield 24, 3)), (19, (.iload_n 3, 1)), (20, (.iaload, 1)), (21, (.iload_n 1, 1)), (22, (.if_icmp .gt 14, 3)), (25, (.iload_n 2, 1)), (26, (.aload_n 0, 1)), (27, (.getfield 24, 3)), (30, (.iload_n 3, 1)), (31, (.iaload, 1)), (32, (.invokestatic 102, 3)), (35, (.istore_n 2, 1)), (36, (.iinc 3 1, 3)), (39, (.goto (-35), 3)), (42, (.iload_n 2, 1)), (43, (.ireturn, 1))]
set_option maxRecDepth 100000 in
theorem tbk_X0_fullestIn : sv_tbok cX0_fullestIn tb_X0_fullestIn = true := by decide +kernel
def cal_X0_fullestIn : List (Nat × (Nat × Nat × sv_P)) := [(72, (1, 2, sp_X2_countSets)), (102, (2, 90, sp_J9_max_7cf53))]
def T_X0_fullestIn : sv_T := (flX0, sfX0, kcX0, klX0, cal_X0_fullestIn)
set_option maxRecDepth 100000 in
theorem Tok_X0_fullestIn (l : Launch) : sv_Tok l RX0 sv_all 1 21 T_X0_fullestIn := ⟨flokX0, sfokX0, kcokX0, klokX0, List.forall_mem_cons.mpr ⟨⟨fun _ => sv_COv_of (c_X2_countSets l) sv_clok_all (sv_mem 361 (by decide +kernel) rfl) kw_X2_countSets.1 kw_X2_countSets.2.1 kw_X2_countSets.2.2.1 kw_X2_countSets.2.2.2 kd_X2_countSets rfl (by decide) (by decide +kernel) rfl (by decide), fun h => absurd h (by decide)⟩, List.forall_mem_cons.mpr ⟨⟨fun h => absurd h (by decide), fun _ => sv_COs_max (sv_mem 378 (by decide +kernel) rfl) (by decide) (by decide)⟩, fun _ h => absurd h List.not_mem_nil⟩⟩⟩
theorem kw_X0_fullestIn : Cond.instanceMethod yX0_fullestIn ∈ sv_tb ∧ Cond.selects yX0_fullestIn.cls yX0_fullestIn yX0_fullestIn ∈ sv_tb ∧ Cond.initialized yX0_fullestIn.cls ∈ sv_tb ∧ Cond.code yX0_fullestIn cX0_fullestIn 4 (some .int) ∈ sv_tb := ⟨sv_mem 376 (by decide +kernel) rfl, sv_mem 4 (by decide +kernel) rfl, sv_mem 54 (by decide +kernel) rfl, sv_mem 377 (by decide +kernel) rfl⟩
theorem kd_X0_fullestIn : yX0_fullestIn.cls ≠ "java/lang/invoke/MethodHandle" ∧ yX0_fullestIn.cls ≠ "java/lang/invoke/VarHandle" ∧ (parseMethodDescriptor yX0_fullestIn.desc).map (fun d => d.parameters.length) = some 1 := by decide +kernel
def F_X0_fullestIn_0 (Wk : sv_K) (Kr : Option sv_AV → sv_S → Prop) (room : Int32) (σ : sv_S) : Prop := Wk 4 [some (.inr (.inr (0, 0))), some (.inl room), some (.inl (0 : Int32)), some (.inl (0 : Int32))] [] σ
set_option maxRecDepth 100000 in
theorem bk_X0_fullestIn_0 (Wk : sv_K) (Kr : Option sv_AV → sv_S → Prop) (room : Int32) (σ : sv_S) (h : F_X0_fullestIn_0 Wk Kr room σ) : sv_vc tb_X0_fullestIn T_X0_fullestIn sv_all (some .int) Kr [(4, [true, true, true, true])] Wk 500 0 [some (.inr (.inr (0, 0))), some (.inl room), none, none] [] σ := h
def F_X0_fullestIn_4 (Wk : sv_K) (Kr : Option sv_AV → sv_S → Prop) (x1 : Int32) (x2 : Int32) (x3 : Int32) (σ : sv_S) : Prop := (∃ d1 : dD, (RP d1 σ) ∧ (∀ v2 : Int32, v2 = nI (2 ^ dT d1) → ((v2 ≤ x3 → Kr (some (.inl x2)) σ) ∧ (¬ v2 ≤ x3 → (vp_in x3 32 ∧ ((x1 < (sv_gA σ 9 0 x3.toNatClampNeg) → Wk 4 [some (.inr (.inr (0, 0))), some (.inl x1), some (.inl x2), some (.inl (x3 + (1 : Int32)))] [] σ) ∧ (¬ x1 < (sv_gA σ 9 0 x3.toNatClampNeg) → (vp_in x3 32 ∧ Wk 4 [some (.inr (.inr (0, 0))), some (.inl x1), some (.inl (if x2 < (sv_gA σ 9 0 x3.toNatClampNeg) then (sv_gA σ 9 0 x3.toNatClampNeg) else x2)), some (.inl (x3 + (1 : Int32)))] [] σ))))))))
set_option maxRecDepth 100000 in
theorem bk_X0_fullestIn_4 (Wk : sv_K) (Kr : Option sv_AV → sv_S → Prop) (x1 : Int32) (x2 : Int32) (x3 : Int32) (σ : sv_S) (h : F_X0_fullestIn_4 Wk Kr x1 x2 x3 σ) : sv_vc tb_X0_fullestIn T_X0_fullestIn sv_all (some .int) Kr [(4, [true, true, true, true])] Wk 500 4 [some (.inr (.inr (0, 0))), some (.inl x1), some (.inl x2), some (.inl x3)] [] σ := h
set_option maxRecDepth 100000 in
theorem m_X0_fullestIn (l : Launch) (hb : ∀ (Wk : sv_K) (Kr : Option sv_AV → sv_S → Prop), (∀ (room : Int32) (σ : sv_S), F_X0_fullestIn_0 Wk Kr room σ → Wk 0 [some (.inr (.inr (0, 0))), some (.inl room), none, none] [] σ) → (∀ (x1 : Int32) (x2 : Int32) (x3 : Int32) (σ : sv_S), F_X0_fullestIn_4 Wk Kr x1 x2 x3 σ → Wk 4 [some (.inr (.inr (0, 0))), some (.inl x1), some (.inl x2), some (.inl x3)] [] σ) → (∀ (room : Int32) (σ : sv_S), (∃ d : dD, ∃ r : Nat, (RP d σ ∧ CLS d σ ∧ (r ≤ 60 ∧ room = nI r)) ∧ (∀ v : Int32, v = nI (fullest d r (2 ^ dT d)) → Kr (some (.inl v)) σ)) → Wk 0 [some (.inr (.inr (0, 0))), some (.inl room), none, none] [] σ)) : sv_C l yX0_fullestIn cX0_fullestIn 4 (some .int) sv_all 1 21 sp_X0_fullestIn := by
  refine sv_meth sv_clok_all tb_X0_fullestIn T_X0_fullestIn (by decide) tbk_X0_fullestIn (Tok_X0_fullestIn l) ?_
  intro Wk Kr hc av σ hsp
  have hB := hb Wk Kr (fun room σ h => hc [(4, [true, true, true, true])] 500 0 _ _ _ (bk_X0_fullestIn_0 Wk Kr room σ h)) (fun x1 x2 x3 σ h => hc [(4, [true, true, true, true])] 500 4 _ _ _ (bk_X0_fullestIn_4 Wk Kr x1 x2 x3 σ h))
  unfold sp_X0_fullestIn at hsp
  split at hsp
  · exact ⟨⟨by simp, by simp [sv_cat]⟩, hB _ _ hsp⟩
  · exact hsp.elim
set_option maxHeartbeats 4000000 in
set_option maxRecDepth 100000 in
theorem c_X0_fullestIn (l : Launch) : sv_C l yX0_fullestIn cX0_fullestIn 4 (some .int) sv_all 1 21 sp_X0_fullestIn := by
  refine m_X0_fullestIn l ?_
  intro Wk Kr e0 e4 room σ ⟨d, r, ⟨hR, hC, hr, hroom⟩, h⟩
  subst hroom
  have h32 := two_pow_le hR.1
  have key : ∀ m n, n + m = 2 ^ dT d → Wk 4 [some (.inr (.inr (0, 0))), some (.inl (nI r)), some (.inl (nI (fullest d r n))), some (.inl (nI n))] [] σ := by
    intro m
    induction m with
    | zero =>
      intro n hn
      apply e4
      refine ⟨d, hR, fun v hv => ?_⟩
      subst hv
      exact pk_le (2 ^ dT d) n (fun z => h _ (by rw [show n = 2 ^ dT d by omega])) (fun z => by omega)
    | succ m ih =>
      intro n hn
      apply e4
      have ihn := ih (n + 1) (by omega)
      have hc := cells_le hR.1 n
      have hfl : fullest d r n ≤ 100 := by
        have : ∀ n, fullest d r n ≤ 100 := by
          intro n
          induction n with
          | zero => exact Nat.zero_le _
          | succ n ih =>
            unfold fullest
            have := cells_le hR.1 n
            split <;> omega
        exact this n
      refine ⟨d, hR, fun v hv => ?_⟩
      subst hv
      rw [nI_clamp (by omega), hC n (by omega), nI_1]
      refine pk_le (2 ^ dT d) n (fun z => by omega) (fun z => ⟨pk_in n 32 (by omega), pk_lt r (cells d n) (fun y => ?_) (fun y => ⟨pk_in n 32 (by omega), ?_⟩)⟩)
      · unfold fullest at ihn
        rw [if_neg (by omega)] at ihn
        exact ihn
      · unfold fullest at ihn
        rw [if_pos y] at ihn
        have e : (if nI (fullest d r n) < nI (cells d n) then nI (cells d n) else nI (fullest d r n)) = nI (max (fullest d r n) (cells d n)) := by
          by_cases q : fullest d r n < cells d n
          · rw [if_pos (nI_lt q (by omega)), Nat.max_eq_right (by omega)]
          · rw [if_neg (nI_nlt (by omega) (by omega)), Nat.max_eq_left (by omega)]
        rw [e]
        exact ihn
  apply e0
  exact key (2 ^ dT d) 0 (by omega)
-- ==== X0_takeFitting
def sp_X0_takeFitting : sv_P := fun av σ K => match av with
  | [.inr (.inr (0, 0)), .inr (.inr (11, next)), .inr (.inr (11, row)), .inl states, .inl room] => ∃ d : dD, ∃ r : Nat, (RP d σ ∧ FT σ ∧ CLS d σ ∧ (r ≤ 60 ∧ room = nI r) ∧ states = nI (3 ^ dT d) ∧ next ≠ row) ∧ (∀ σ2 : sv_S, sq [11] σ σ2 ∧ (∀ i j, i ≠ row → sv_gA σ2 11 i j = sv_gA σ 11 i j) ∧ (∀ j, j < 3 ^ dT d → sv_gA σ2 11 row j = if cells d (sIn j) ≤ r then sv_gA σ 11 next j else 1000000000) → K none σ2)
  | _ => False
def tb_X0_takeFitting : List (Nat × (Instr × Nat)) := [(0, (.iconst 0, 1)), (1, (.istore 5, 2)), (3, (.iload 5, 2)), (5, (.iload_n 3, 1)), (6, (.if_icmp .ge 39, 3)), (9, (.aload_n 2, 1)), (10, (.iload 5, 2)), (12, (.aload_n 0, 1)), (13, (.getfield 24, 3)), (16, (.aload_n 0, 1)), (17, (.getfield 15, 3)), (20, (.iload 5, 2)), (22, (.iaload, 1)), (23, (.iaload, 1)), (24, (.iload 4, 2)), (26, (.if_icmp .gt 10, 3)), (29, (.aload_n 1, 1)), (30, (.iload 5, 2)), (32, (.iaload, 1)), (33, (.goto 5, 3)), (36, (.ldc 121, 2)), (38, (.iastore, 1)), (39, (.iinc 5 1, 3)), (42, (.goto (-39), 3)), (45, (.return_, 1))]
set_option maxRecDepth 100000 in
theorem tbk_X0_takeFitting : sv_tbok cX0_takeFitting tb_X0_takeFitting = true := by decide +kernel
def cal_X0_takeFitting : List (Nat × (Nat × Nat × sv_P)) := []
def T_X0_takeFitting : sv_T := (flX0, sfX0, kcX0, klX0, cal_X0_takeFitting)
set_option maxRecDepth 100000 in
theorem Tok_X0_takeFitting (l : Launch) : sv_Tok l RX0 sv_all 0 0 T_X0_takeFitting := ⟨flokX0, sfokX0, kcokX0, klokX0, fun _ h => absurd h List.not_mem_nil⟩
theorem kw_X0_takeFitting : Cond.instanceMethod yX0_takeFitting ∈ sv_tb ∧ Cond.selects yX0_takeFitting.cls yX0_takeFitting yX0_takeFitting ∈ sv_tb ∧ Cond.initialized yX0_takeFitting.cls ∈ sv_tb ∧ Cond.code yX0_takeFitting cX0_takeFitting 6 none ∈ sv_tb := ⟨sv_mem 387 (by decide +kernel) rfl, sv_mem 6 (by decide +kernel) rfl, sv_mem 54 (by decide +kernel) rfl, sv_mem 388 (by decide +kernel) rfl⟩
theorem kd_X0_takeFitting : yX0_takeFitting.cls ≠ "java/lang/invoke/MethodHandle" ∧ yX0_takeFitting.cls ≠ "java/lang/invoke/VarHandle" ∧ (parseMethodDescriptor yX0_takeFitting.desc).map (fun d => d.parameters.length) = some 4 := by decide +kernel
def F_X0_takeFitting_0 (Wk : sv_K) (Kr : Option sv_AV → sv_S → Prop) (next : Nat) (row : Nat) (states : Int32) (room : Int32) (σ : sv_S) : Prop := Wk 3 [some (.inr (.inr (0, 0))), some (.inr (.inr (11, next))), some (.inr (.inr (11, row))), some (.inl states), some (.inl room), some (.inl (0 : Int32))] [] σ
set_option maxRecDepth 100000 in
theorem bk_X0_takeFitting_0 (Wk : sv_K) (Kr : Option sv_AV → sv_S → Prop) (next : Nat) (row : Nat) (states : Int32) (room : Int32) (σ : sv_S) (h : F_X0_takeFitting_0 Wk Kr next row states room σ) : sv_vc tb_X0_takeFitting T_X0_takeFitting sv_all none Kr [(3, [true, true, true, true, true, true])] Wk 500 0 [some (.inr (.inr (0, 0))), some (.inr (.inr (11, next))), some (.inr (.inr (11, row))), some (.inl states), some (.inl room), none] [] σ := h
def F_X0_takeFitting_3 (Wk : sv_K) (Kr : Option sv_AV → sv_S → Prop) (r1 : Nat) (r2 : Nat) (x3 : Int32) (x4 : Int32) (x5 : Int32) (σ : sv_S) : Prop := ((x3 ≤ x5 → Kr none σ) ∧ (¬ x3 ≤ x5 → (vp_in x5 243 ∧ (vp_in (sv_gA σ 6 0 x5.toNatClampNeg) 32 ∧ ((x4 < (sv_gA σ 9 0 (sv_gA σ 6 0 x5.toNatClampNeg).toNatClampNeg) → (vp_in x5 243 ∧ Wk 3 [some (.inr (.inr (0, 0))), some (.inr (.inr (11, r1))), some (.inr (.inr (11, r2))), some (.inl x3), some (.inl x4), some (.inl (x5 + (1 : Int32)))] [] (sv_sA σ 11 r2 x5.toNatClampNeg (1000000000 : Int32)))) ∧ (¬ x4 < (sv_gA σ 9 0 (sv_gA σ 6 0 x5.toNatClampNeg).toNatClampNeg) → (vp_in x5 243 ∧ (vp_in x5 243 ∧ Wk 3 [some (.inr (.inr (0, 0))), some (.inr (.inr (11, r1))), some (.inr (.inr (11, r2))), some (.inl x3), some (.inl x4), some (.inl (x5 + (1 : Int32)))] [] (sv_sA σ 11 r2 x5.toNatClampNeg (sv_gA σ 11 r1 x5.toNatClampNeg))))))))))
set_option maxRecDepth 100000 in
theorem bk_X0_takeFitting_3 (Wk : sv_K) (Kr : Option sv_AV → sv_S → Prop) (r1 : Nat) (r2 : Nat) (x3 : Int32) (x4 : Int32) (x5 : Int32) (σ : sv_S) (h : F_X0_takeFitting_3 Wk Kr r1 r2 x3 x4 x5 σ) : sv_vc tb_X0_takeFitting T_X0_takeFitting sv_all none Kr [(3, [true, true, true, true, true, true])] Wk 500 3 [some (.inr (.inr (0, 0))), some (.inr (.inr (11, r1))), some (.inr (.inr (11, r2))), some (.inl x3), some (.inl x4), some (.inl x5)] [] σ := ⟨fun z1 => ⟨rfl, ((h).1 z1)⟩, fun z1 => ((h).2 z1)⟩
set_option maxRecDepth 100000 in
theorem m_X0_takeFitting (l : Launch) (hb : ∀ (Wk : sv_K) (Kr : Option sv_AV → sv_S → Prop), (∀ (next : Nat) (row : Nat) (states : Int32) (room : Int32) (σ : sv_S), F_X0_takeFitting_0 Wk Kr next row states room σ → Wk 0 [some (.inr (.inr (0, 0))), some (.inr (.inr (11, next))), some (.inr (.inr (11, row))), some (.inl states), some (.inl room), none] [] σ) → (∀ (r1 : Nat) (r2 : Nat) (x3 : Int32) (x4 : Int32) (x5 : Int32) (σ : sv_S), F_X0_takeFitting_3 Wk Kr r1 r2 x3 x4 x5 σ → Wk 3 [some (.inr (.inr (0, 0))), some (.inr (.inr (11, r1))), some (.inr (.inr (11, r2))), some (.inl x3), some (.inl x4), some (.inl x5)] [] σ) → (∀ (next : Nat) (row : Nat) (states : Int32) (room : Int32) (σ : sv_S), (∃ d : dD, ∃ r : Nat, (RP d σ ∧ FT σ ∧ CLS d σ ∧ (r ≤ 60 ∧ room = nI r) ∧ states = nI (3 ^ dT d) ∧ next ≠ row) ∧ (∀ σ2 : sv_S, sq [11] σ σ2 ∧ (∀ i j, i ≠ row → sv_gA σ2 11 i j = sv_gA σ 11 i j) ∧ (∀ j, j < 3 ^ dT d → sv_gA σ2 11 row j = if cells d (sIn j) ≤ r then sv_gA σ 11 next j else 1000000000) → Kr none σ2)) → Wk 0 [some (.inr (.inr (0, 0))), some (.inr (.inr (11, next))), some (.inr (.inr (11, row))), some (.inl states), some (.inl room), none] [] σ)) : sv_C l yX0_takeFitting cX0_takeFitting 6 none sv_all 0 0 sp_X0_takeFitting := by
  refine sv_meth sv_clok_all tb_X0_takeFitting T_X0_takeFitting (by decide) tbk_X0_takeFitting (Tok_X0_takeFitting l) ?_
  intro Wk Kr hc av σ hsp
  have hB := hb Wk Kr (fun next row states room σ h => hc [(3, [true, true, true, true, true, true])] 500 0 _ _ _ (bk_X0_takeFitting_0 Wk Kr next row states room σ h)) (fun r1 r2 x3 x4 x5 σ h => hc [(3, [true, true, true, true, true, true])] 500 3 _ _ _ (bk_X0_takeFitting_3 Wk Kr r1 r2 x3 x4 x5 σ h))
  unfold sp_X0_takeFitting at hsp
  split at hsp
  · exact ⟨⟨by simp, by simp [sv_cat]⟩, hB _ _ _ _ _ hsp⟩
  · exact hsp.elim
theorem three_pow_le {n : Nat} (h : n ≤ 5) : 3 ^ n ≤ 243 := Nat.le_trans (Nat.pow_le_pow_right (by omega) h) (by decide)
set_option maxHeartbeats 4000000 in
set_option maxRecDepth 100000 in
theorem c_X0_takeFitting (l : Launch) : sv_C l yX0_takeFitting cX0_takeFitting 6 none sv_all 0 0 sp_X0_takeFitting := by
  refine m_X0_takeFitting l ?_
  intro Wk Kr e0 e3 next row states room σ ⟨d, r, ⟨hR, hFT, hC, ⟨hr, hroom⟩, hst, hne⟩, h⟩
  subst hroom
  subst hst
  have h243 := three_pow_le hR.1.2.1
  have key : ∀ m n σ', n + m = 3 ^ dT d → sq [11] σ σ' → (∀ i j, i ≠ row → sv_gA σ' 11 i j = sv_gA σ 11 i j) → (∀ j, j < n → sv_gA σ' 11 row j = if cells d (sIn j) ≤ r then sv_gA σ 11 next j else 1000000000) → Wk 3 [some (.inr (.inr (0, 0))), some (.inr (.inr (11, next))), some (.inr (.inr (11, row))), some (.inl (nI (3 ^ dT d))), some (.inl (nI r)), some (.inl (nI n))] [] σ' := by
    intro m
    induction m with
    | zero =>
      intro n σ' hn hs h1 h2
      apply e3
      exact pk_le (3 ^ dT d) n (fun z => h _ ⟨hs, h1, fun j hj => h2 j (by omega)⟩) (fun z => by omega)
    | succ m ih =>
      intro n σ' hn hs h1 h2
      have hsi := sIn_lt (dT d) (by have := hR.1.2.1; omega) n (by omega)
      have h32 := two_pow_le hR.1
      have hc := cells_le hR.1 (sIn n)
      have fin : ∀ v : Int32, v = (if cells d (sIn n) ≤ r then sv_gA σ 11 next n else 1000000000) → Wk 3 [some (.inr (.inr (0, 0))), some (.inr (.inr (11, next))), some (.inr (.inr (11, row))), some (.inl (nI (3 ^ dT d))), some (.inl (nI r)), some (.inl (nI (n + 1)))] [] (sv_sA σ' 11 row n v) := by
        intro v hv
        refine ih (n + 1) _ (by omega) (sq_tr hs (sq_sA _ _ _ _ (by decide))) (fun i j hi => by rw [gA_ni _ hi]; exact h1 i j hi) (fun j hj => ?_)
        by_cases hjn : j = n
        · subst hjn
          rw [gA_same, hv]
        · rw [gA_nj _ hjn]
          exact h2 j (by omega)
      apply e3
      unfold F_X0_takeFitting_3
      rw [nI_clamp (by omega : n < 2 ^ 31), hs.1 6 (by decide), hFT.1 n (by omega), nI_clamp (by omega : sIn n < 2 ^ 31), hs.1 9 (by decide), hC (sIn n) (by omega), nI_1]
      refine pk_le (3 ^ dT d) n (fun z => by omega) (fun z => ⟨pk_in n 243 (by omega), pk_in (sIn n) 32 (by omega), pk_lt r (cells d (sIn n)) (fun y => ⟨pk_in n 243 (by omega), fin _ ?_⟩) (fun y => ⟨pk_in n 243 (by omega), pk_in n 243 (by omega), fin _ ?_⟩)⟩)
      · rw [if_neg (by omega)]
      · rw [if_pos y]
        exact h1 next n hne
  apply e0
  exact key (3 ^ dT d) 0 σ (by omega) (sq_rf _ _) (fun _ _ _ => rfl) (fun j hj => by omega)
